/-! The methods as functions; the abstract machine does them. -/
def T_82_15 (O : hm_St → Int32 → Int32 → Int32 → Int32) : Nat → hm_St → Int32 → Int32 → Int32 → Int32 → Int32
  | 0, s, _, _, _, _ => 0
  | n + 1, s, v1, v2, v3, v4 => (if (T_72 s v3) ≤ v4 then (O s v1 v2 (v3 + 1)) else (if (T_78 s v3 v4 v1) = 0 then (T_82_15 O n s v1 v2 v3 (v4 + 1)) else (T_82_15 O n s v1 v3 v3 (v4 + 1))))
def T_82_4 : Nat → hm_St → Int32 → Int32 → Int32 → Int32
  | 0, s, _, _, _ => 0
  | n + 1, s, v1, v2, v3 => (if (s 47 1) < v3 then v2 else (T_82_15 (fun s v1 v2 v3 => T_82_4 n s v1 v2 v3) (hm_df (T_72 s v3) 0 + 1) s v1 v2 v3 0))
/-- CurvekeyHouse$Cells.deepestLeaf(I)I -/
def T_82 (s : hm_St) (p1 : Int32) : Int32 := (T_82_4 (hm_df1 (s 47 1) 0 + 1) s p1 0 0)
set_option maxRecDepth 20000 in
theorem lp_82_15 {R : hm_R} (hR : hm_Cm R) {N L : Nat} {g : Nat → hm_Sh} {b : hm_B} {Q : hm_Q} (hN : 68 ≤ N) {O : hm_St → Int32 → Int32 → Int32 → Int32} {nO : Nat} (hO : ∀ (s : hm_St) (v1 : Int32) (v2 : Int32) (v3 : Int32), hm_df1 (s 47 1) v3 < nO ∧ s 47 1 < 100000 → (Q (.inr (some (.int (O s v1 v2 v3)))) (N, hm_sh L g, s)) → R 82 4 [(3, .int v3), (2, .int v2), (0, .ref 47), (1, .int v1)] [] (N, hm_sh L g, s) b Q) : ∀ (n : Nat) (s : hm_St) (v1 : Int32) (v2 : Int32) (v3 : Int32) (v4 : Int32), hm_df (T_72 s v3) v4 < n → (hPO : hm_df1 (s 47 1) (v3 + 1) < nO ∧ s 47 1 < 100000) → (hq : Q (.inr (some (.int (T_82_15 O n s v1 v2 v3 v4)))) (N, hm_sh L g, s)) → R 82 15 [(4, .int v4), (3, .int v3), (2, .int v2), (0, .ref 47), (1, .int v1)] [] (N, hm_sh L g, s) b Q := by
  intro n
  induction n with
  | zero => intro s v1 v2 v3 v4 hm hPO _; exact absurd hm (Nat.not_lt_zero _)
  | succ n ih =>
    intro s v1 v2 v3 v4 hm hPO hq
    unfold T_82_15 at hq
    refine hm_st hR (hm_st hR (?_))
    refine hm_st hR ⟨hm_le rfl, hm_le rfl, hm_le rfl, (0, 0), Nat.zero_le _, Nat.zero_le _, ?_⟩
    refine sp_72 hR hN ?_
    show R 82 21 [(4, .int v4), (3, .int v3), (2, .int v2), (0, .ref 47), (1, .int v1)] [.int (T_72 s v3), .int v4] (N, hm_sh L g, s) _ Q
    show R 82 21 [(4, .int v4), (3, .int v3), (2, .int v2), (0, .ref 47), (1, .int v1)] [.int (T_72 s v3), .int v4] (N, hm_sh L g, s) _ Q
    refine hm_st hR ⟨fun c21 => ?_, fun c21 => ?_⟩
    · rw [if_pos c21] at hq
      show R 82 43 [(4, .int v4), (3, .int v3), (2, .int v2), (0, .ref 47), (1, .int v1)] [] (N, hm_sh L g, s) _ Q
      refine hm_st hR (hm_st hR (?_))
      show R 82 4 [(3, .int (v3 + 1)), (4, .int v4), (2, .int v2), (0, .ref 47), (1, .int v1)] [] (N, hm_sh L g, s) _ Q
      exact hm_lvS hR (by intro q hq; simp only [List.mem_cons, List.not_mem_nil, or_false] at hq ⊢; rcases hq with rfl | rfl | rfl | rfl <;> simp) (hO s v1 v2 (v3 + 1) hPO hq)
    · rw [if_neg c21] at hq
      show R 82 24 [(4, .int v4), (3, .int v3), (2, .int v2), (0, .ref 47), (1, .int v1)] [] (N, hm_sh L g, s) _ Q
      refine hm_st hR (hm_st hR (hm_st hR (hm_st hR (?_))))
      refine hm_st hR ⟨hm_le rfl, rfl, (hm_le rfl), (hm_ltN hN rfl), hm_le rfl, hm_le rfl, (0, 0), Nat.zero_le _, Nat.zero_le _, ?_⟩
      refine sp_78 hR hN ?_
      show R 82 32 [(4, .int v4), (3, .int v3), (2, .int v2), (0, .ref 47), (1, .int v1)] [.int (T_78 s v3 v4 v1)] (N, hm_sh L g, s) _ Q
      show R 82 32 [(4, .int v4), (3, .int v3), (2, .int v2), (0, .ref 47), (1, .int v1)] [.int (T_78 s v3 v4 v1)] (N, hm_sh L g, s) _ Q
      refine hm_st hR ⟨fun c32 => ?_, fun c32 => ?_⟩
      · rw [if_pos c32] at hq
        show R 82 37 [(4, .int v4), (3, .int v3), (2, .int v2), (0, .ref 47), (1, .int v1)] [] (N, hm_sh L g, s) _ Q
        refine hm_st hR (hm_st hR (?_))
        show R 82 15 [(4, .int (v4 + 1)), (3, .int v3), (2, .int v2), (0, .ref 47), (1, .int v1)] [] (N, hm_sh L g, s) _ Q
        exact hm_lvS hR (by intro q hq; simp only [List.mem_cons, List.not_mem_nil, or_false] at hq ⊢; rcases hq with rfl | rfl | rfl | rfl | rfl <;> simp) (ih s v1 v2 v3 (v4 + 1) (hm_dcx c21 hm) hPO hq)
      · rw [if_neg c32] at hq
        show R 82 35 [(4, .int v4), (3, .int v3), (2, .int v2), (0, .ref 47), (1, .int v1)] [] (N, hm_sh L g, s) _ Q
        refine hm_st hR (hm_st hR (hm_st hR (hm_st hR (?_))))
        show R 82 15 [(4, .int (v4 + 1)), (2, .int v3), (3, .int v3), (0, .ref 47), (1, .int v1)] [] (N, hm_sh L g, s) _ Q
        exact hm_lvS hR (by intro q hq; simp only [List.mem_cons, List.not_mem_nil, or_false] at hq ⊢; rcases hq with rfl | rfl | rfl | rfl | rfl <;> simp) (ih s v1 v3 v3 (v4 + 1) (hm_dcx c21 hm) hPO hq)
set_option maxRecDepth 20000 in
theorem lp_82_4 {R : hm_R} (hR : hm_Cm R) {N L : Nat} {g : Nat → hm_Sh} {b : hm_B} {Q : hm_Q} (hN : 68 ≤ N) : ∀ (n : Nat) (s : hm_St) (v1 : Int32) (v2 : Int32) (v3 : Int32), hm_df1 (s 47 1) v3 < n → (hinv : s 47 1 < 100000) → (hq : Q (.inr (some (.int (T_82_4 n s v1 v2 v3)))) (N, hm_sh L g, s)) → R 82 4 [(3, .int v3), (2, .int v2), (0, .ref 47), (1, .int v1)] [] (N, hm_sh L g, s) b Q := by
  intro n
  induction n with
  | zero => intro s v1 v2 v3 hm hinv _; exact absurd hm (Nat.not_lt_zero _)
  | succ n ih =>
    intro s v1 v2 v3 hm hinv hq
    unfold T_82_4 at hq
    refine hm_st hR (hm_st hR (hm_st hR ⟨rfl, hm_le rfl, (hm_ltN hN rfl), ?_⟩))
    show R 82 9 [(3, .int v3), (2, .int v2), (0, .ref 47), (1, .int v1)] [.int (s 47 1), .int v3] (N, hm_sh L g, s) _ Q
    refine hm_st hR ⟨fun c9 => ?_, fun c9 => ?_⟩
    · rw [if_pos c9] at hq
      show R 82 49 [(3, .int v3), (2, .int v2), (0, .ref 47), (1, .int v1)] [] (N, hm_sh L g, s) _ Q
      refine hm_st hR (?_)
      exact hm_st hR ⟨fun z => absurd z (by decide), hq⟩
    · rw [if_neg c9] at hq
      show R 82 12 [(3, .int v3), (2, .int v2), (0, .ref 47), (1, .int v1)] [] (N, hm_sh L g, s) _ Q
      refine hm_st hR (hm_st hR (?_))
      show R 82 15 [(4, .int 0), (3, .int v3), (2, .int v2), (0, .ref 47), (1, .int v1)] [] (N, hm_sh L g, s) _ Q
      exact lp_82_15 hR hN (O := (fun s v1 v2 v3 => T_82_4 n s v1 v2 v3)) (nO := n) (fun s v1 v2 v3 hm hq => ih s v1 v2 v3 hm.1 hm.2 hq) _ _ _ _ _ _ (Nat.lt_succ_self _) ⟨(hm_dcy c9 hinv hm), hinv⟩ hq
set_option maxRecDepth 20000 in
theorem sp_82 {R : hm_R} (hR : hm_Cm R) {N L : Nat} {g : Nat → hm_Sh} {s : hm_St} {b : hm_B} {Q : hm_Q} (hN : 68 ≤ N) {p1 : Int32} (hO : s 47 1 < 100000) (hq : Q (.inr (some (.int (T_82 s p1)))) (N, hm_sh L g, s)) : R 82 0 (lv_args 0 [.ref 47, .int p1]) [] (N, hm_sh L g, s) b Q := by
  unfold T_82 at hq
  show R 82 0 [(0, .ref 47), (1, .int p1)] [] (N, hm_sh L g, s) _ Q
  refine hm_st hR (hm_st hR (hm_st hR (hm_st hR (?_))))
  show R 82 4 [(3, .int 0), (2, .int 0), (0, .ref 47), (1, .int p1)] [] (N, hm_sh L g, s) _ Q
  exact lp_82_4 hR hN _ _ _ _ _ (Nat.lt_succ_self _) hO hq
def T_83_15 (O : hm_St → Int32 → Int32 → Int32 → Int32) : Nat → hm_St → Int32 → Int32 → Int32 → Int32 → Int32
  | 0, s, _, _, _, _ => 0
  | n + 1, s, v1, v2, v3, v4 => (if (T_72 s v3) ≤ v4 then (O s v1 v2 (v3 + 1)) else (if (T_78 s v3 v4 v1) = 0 then (T_83_15 O n s v1 v2 v3 (v4 + 1)) else (if (T_75 s v3 v4) = 0 then (T_83_15 O n s v1 (v2 + 1) v3 (v4 + 1)) else (T_83_15 O n s v1 v2 v3 (v4 + 1)))))
def T_83_4 : Nat → hm_St → Int32 → Int32 → Int32 → Int32
  | 0, s, _, _, _ => 0
  | n + 1, s, v1, v2, v3 => (if (s 47 1) < v3 then v2 else (T_83_15 (fun s v1 v2 v3 => T_83_4 n s v1 v2 v3) (hm_df (T_72 s v3) 0 + 1) s v1 v2 v3 0))
/-- CurvekeyHouse$Cells.emptyLeaves(I)I -/
def T_83 (s : hm_St) (p1 : Int32) : Int32 := (T_83_4 (hm_df1 (s 47 1) 0 + 1) s p1 0 0)
set_option maxRecDepth 20000 in
theorem lp_83_15 {R : hm_R} (hR : hm_Cm R) {N L : Nat} {g : Nat → hm_Sh} {b : hm_B} {Q : hm_Q} (hN : 68 ≤ N) {O : hm_St → Int32 → Int32 → Int32 → Int32} {nO : Nat} (hO : ∀ (s : hm_St) (v1 : Int32) (v2 : Int32) (v3 : Int32), hm_df1 (s 47 1) v3 < nO ∧ s 47 1 < 100000 → (Q (.inr (some (.int (O s v1 v2 v3)))) (N, hm_sh L g, s)) → R 83 4 [(3, .int v3), (2, .int v2), (0, .ref 47), (1, .int v1)] [] (N, hm_sh L g, s) b Q) : ∀ (n : Nat) (s : hm_St) (v1 : Int32) (v2 : Int32) (v3 : Int32) (v4 : Int32), hm_df (T_72 s v3) v4 < n → (hPO : hm_df1 (s 47 1) (v3 + 1) < nO ∧ s 47 1 < 100000) → (hq : Q (.inr (some (.int (T_83_15 O n s v1 v2 v3 v4)))) (N, hm_sh L g, s)) → R 83 15 [(4, .int v4), (3, .int v3), (2, .int v2), (0, .ref 47), (1, .int v1)] [] (N, hm_sh L g, s) b Q := by
  intro n
  induction n with
  | zero => intro s v1 v2 v3 v4 hm hPO _; exact absurd hm (Nat.not_lt_zero _)
  | succ n ih =>
    intro s v1 v2 v3 v4 hm hPO hq
    unfold T_83_15 at hq
    refine hm_st hR (hm_st hR (?_))
    refine hm_st hR ⟨hm_le rfl, hm_le rfl, hm_le rfl, (0, 0), Nat.zero_le _, Nat.zero_le _, ?_⟩
    refine sp_72 hR hN ?_
    show R 83 21 [(4, .int v4), (3, .int v3), (2, .int v2), (0, .ref 47), (1, .int v1)] [.int (T_72 s v3), .int v4] (N, hm_sh L g, s) _ Q
    show R 83 21 [(4, .int v4), (3, .int v3), (2, .int v2), (0, .ref 47), (1, .int v1)] [.int (T_72 s v3), .int v4] (N, hm_sh L g, s) _ Q
    refine hm_st hR ⟨fun c21 => ?_, fun c21 => ?_⟩
    · rw [if_pos c21] at hq
      show R 83 54 [(4, .int v4), (3, .int v3), (2, .int v2), (0, .ref 47), (1, .int v1)] [] (N, hm_sh L g, s) _ Q
      refine hm_st hR (hm_st hR (?_))
      show R 83 4 [(3, .int (v3 + 1)), (4, .int v4), (2, .int v2), (0, .ref 47), (1, .int v1)] [] (N, hm_sh L g, s) _ Q
      exact hm_lvS hR (by intro q hq; simp only [List.mem_cons, List.not_mem_nil, or_false] at hq ⊢; rcases hq with rfl | rfl | rfl | rfl <;> simp) (hO s v1 v2 (v3 + 1) hPO hq)
    · rw [if_neg c21] at hq
      show R 83 24 [(4, .int v4), (3, .int v3), (2, .int v2), (0, .ref 47), (1, .int v1)] [] (N, hm_sh L g, s) _ Q
      refine hm_st hR (hm_st hR (hm_st hR (hm_st hR (?_))))
      refine hm_st hR ⟨hm_le rfl, rfl, (hm_le rfl), (hm_ltN hN rfl), hm_le rfl, hm_le rfl, (0, 0), Nat.zero_le _, Nat.zero_le _, ?_⟩
      refine sp_78 hR hN ?_
      show R 83 32 [(4, .int v4), (3, .int v3), (2, .int v2), (0, .ref 47), (1, .int v1)] [.int (T_78 s v3 v4 v1)] (N, hm_sh L g, s) _ Q
      show R 83 32 [(4, .int v4), (3, .int v3), (2, .int v2), (0, .ref 47), (1, .int v1)] [.int (T_78 s v3 v4 v1)] (N, hm_sh L g, s) _ Q
      refine hm_st hR ⟨fun c32 => ?_, fun c32 => ?_⟩
      · rw [if_pos c32] at hq
        show R 83 48 [(4, .int v4), (3, .int v3), (2, .int v2), (0, .ref 47), (1, .int v1)] [] (N, hm_sh L g, s) _ Q
        refine hm_st hR (hm_st hR (?_))
        show R 83 15 [(4, .int (v4 + 1)), (3, .int v3), (2, .int v2), (0, .ref 47), (1, .int v1)] [] (N, hm_sh L g, s) _ Q
        exact hm_lvS hR (by intro q hq; simp only [List.mem_cons, List.not_mem_nil, or_false] at hq ⊢; rcases hq with rfl | rfl | rfl | rfl | rfl <;> simp) (ih s v1 v2 v3 (v4 + 1) (hm_dcx c21 hm) hPO hq)
      · rw [if_neg c32] at hq
        show R 83 35 [(4, .int v4), (3, .int v3), (2, .int v2), (0, .ref 47), (1, .int v1)] [] (N, hm_sh L g, s) _ Q
        refine hm_st hR (hm_st hR (hm_st hR (?_)))
        refine hm_st hR ⟨hm_le rfl, rfl, (hm_le rfl), (hm_ltN hN rfl), hm_le rfl, hm_le rfl, (0, 0), Nat.zero_le _, Nat.zero_le _, ?_⟩
        refine sp_75 hR hN ?_
        show R 83 42 [(4, .int v4), (3, .int v3), (2, .int v2), (0, .ref 47), (1, .int v1)] [.int (T_75 s v3 v4)] (N, hm_sh L g, s) _ Q
        show R 83 42 [(4, .int v4), (3, .int v3), (2, .int v2), (0, .ref 47), (1, .int v1)] [.int (T_75 s v3 v4)] (N, hm_sh L g, s) _ Q
        refine hm_st hR ⟨fun c42 => ?_, fun c42 => ?_⟩
        · rw [if_neg c42] at hq
          show R 83 48 [(4, .int v4), (3, .int v3), (2, .int v2), (0, .ref 47), (1, .int v1)] [] (N, hm_sh L g, s) _ Q
          refine hm_st hR (hm_st hR (?_))
          show R 83 15 [(4, .int (v4 + 1)), (3, .int v3), (2, .int v2), (0, .ref 47), (1, .int v1)] [] (N, hm_sh L g, s) _ Q
          exact hm_lvS hR (by intro q hq; simp only [List.mem_cons, List.not_mem_nil, or_false] at hq ⊢; rcases hq with rfl | rfl | rfl | rfl | rfl <;> simp) (ih s v1 v2 v3 (v4 + 1) (hm_dcx c21 hm) hPO hq)
        · rw [if_pos c42] at hq
          show R 83 45 [(4, .int v4), (3, .int v3), (2, .int v2), (0, .ref 47), (1, .int v1)] [] (N, hm_sh L g, s) _ Q
          refine hm_st hR (hm_st hR (hm_st hR (?_)))
          show R 83 15 [(4, .int (v4 + 1)), (2, .int (v2 + 1)), (3, .int v3), (0, .ref 47), (1, .int v1)] [] (N, hm_sh L g, s) _ Q
          exact hm_lvS hR (by intro q hq; simp only [List.mem_cons, List.not_mem_nil, or_false] at hq ⊢; rcases hq with rfl | rfl | rfl | rfl | rfl <;> simp) (ih s v1 (v2 + 1) v3 (v4 + 1) (hm_dcx c21 hm) hPO hq)
set_option maxRecDepth 20000 in
theorem lp_83_4 {R : hm_R} (hR : hm_Cm R) {N L : Nat} {g : Nat → hm_Sh} {b : hm_B} {Q : hm_Q} (hN : 68 ≤ N) : ∀ (n : Nat) (s : hm_St) (v1 : Int32) (v2 : Int32) (v3 : Int32), hm_df1 (s 47 1) v3 < n → (hinv : s 47 1 < 100000) → (hq : Q (.inr (some (.int (T_83_4 n s v1 v2 v3)))) (N, hm_sh L g, s)) → R 83 4 [(3, .int v3), (2, .int v2), (0, .ref 47), (1, .int v1)] [] (N, hm_sh L g, s) b Q := by
  intro n
  induction n with
  | zero => intro s v1 v2 v3 hm hinv _; exact absurd hm (Nat.not_lt_zero _)
  | succ n ih =>
    intro s v1 v2 v3 hm hinv hq
    unfold T_83_4 at hq
    refine hm_st hR (hm_st hR (hm_st hR ⟨rfl, hm_le rfl, (hm_ltN hN rfl), ?_⟩))
    show R 83 9 [(3, .int v3), (2, .int v2), (0, .ref 47), (1, .int v1)] [.int (s 47 1), .int v3] (N, hm_sh L g, s) _ Q
    refine hm_st hR ⟨fun c9 => ?_, fun c9 => ?_⟩
    · rw [if_pos c9] at hq
      show R 83 60 [(3, .int v3), (2, .int v2), (0, .ref 47), (1, .int v1)] [] (N, hm_sh L g, s) _ Q
      refine hm_st hR (?_)
      exact hm_st hR ⟨fun z => absurd z (by decide), hq⟩
    · rw [if_neg c9] at hq
      show R 83 12 [(3, .int v3), (2, .int v2), (0, .ref 47), (1, .int v1)] [] (N, hm_sh L g, s) _ Q
      refine hm_st hR (hm_st hR (?_))
      show R 83 15 [(4, .int 0), (3, .int v3), (2, .int v2), (0, .ref 47), (1, .int v1)] [] (N, hm_sh L g, s) _ Q
      exact lp_83_15 hR hN (O := (fun s v1 v2 v3 => T_83_4 n s v1 v2 v3)) (nO := n) (fun s v1 v2 v3 hm hq => ih s v1 v2 v3 hm.1 hm.2 hq) _ _ _ _ _ _ (Nat.lt_succ_self _) ⟨(hm_dcy c9 hinv hm), hinv⟩ hq
set_option maxRecDepth 20000 in
theorem sp_83 {R : hm_R} (hR : hm_Cm R) {N L : Nat} {g : Nat → hm_Sh} {s : hm_St} {b : hm_B} {Q : hm_Q} (hN : 68 ≤ N) {p1 : Int32} (hO : s 47 1 < 100000) (hq : Q (.inr (some (.int (T_83 s p1)))) (N, hm_sh L g, s)) : R 83 0 (lv_args 0 [.ref 47, .int p1]) [] (N, hm_sh L g, s) b Q := by
  unfold T_83 at hq
  show R 83 0 [(0, .ref 47), (1, .int p1)] [] (N, hm_sh L g, s) _ Q
  refine hm_st hR (hm_st hR (hm_st hR (hm_st hR (?_))))
  show R 83 4 [(3, .int 0), (2, .int 0), (0, .ref 47), (1, .int p1)] [] (N, hm_sh L g, s) _ Q
  exact lp_83_4 hR hN _ _ _ _ _ (Nat.lt_succ_self _) hO hq
/-- CurvekeyHouse.rivalFact(I)I -/
def T_58 (N : Nat) (g : Nat → hm_Sh) (s : hm_St) (p1 : Int32) : (Int32 × Nat × (Nat → hm_Sh) × hm_St) := (if p1 = 0 then ((T_81 (T_50 N s) N (T_134 s)), (N + 1), (hm_gb g N), (T_50 N s)) else (if p1 = 1 then ((T_82 s (T_134 s)), N, g, s) else ((T_83 s (T_134 s)), N, g, s)))
theorem G_58 (N : Nat) (g : Nat → hm_Sh) (s : hm_St) (p1 : Int32) : N ≤ (T_58 N g s p1).2.1 := by
  unfold T_58
  repeat' split
  all_goals first | exact Nat.le_refl _ | exact Nat.le_succ _
set_option maxRecDepth 20000 in
theorem sp_58 {R : hm_R} (hR : hm_Cm R) {N L : Nat} {g : Nat → hm_Sh} {s : hm_St} {b : hm_B} {Q : hm_Q} (hN : 68 ≤ N) (hb1 : 1 ≤ b.1) (hb2 : 4 ≤ b.2) {p1 : Int32} (hO : s 47 1 < 100000) (hq : Q (.inr (some (.int (T_58 N g s p1).1))) ((T_58 N g s p1).2.1, hm_sh L (T_58 N g s p1).2.2.1, (T_58 N g s p1).2.2.2)) : R 58 0 (lv_args 0 [.ref 2, .int p1]) [] (N, hm_sh L g, s) b Q := by
  unfold T_58 at hq
  show R 58 0 [(0, .ref 2), (1, .int p1)] [] (N, hm_sh L g, s) _ Q
  refine hm_st hR (hm_st hR ⟨rfl, hm_le rfl, (hm_ltN hN rfl), ?_⟩)
  refine hm_st hR ⟨hm_le rfl, rfl, (hm_le rfl), (hm_ltN hN rfl), hm_le rfl, hm_le rfl, (0, 0), Nat.zero_le _, Nat.zero_le _, ?_⟩
  refine sp_134 hR hN ?_
  show R 58 7 [(0, .ref 2), (1, .int p1)] [.int (T_134 s)] (N, hm_sh L g, s) _ Q
  refine hm_st hR (hm_st hR (?_))
  show R 58 9 [(2, .int (T_134 s)), (0, .ref 2), (1, .int p1)] [.int p1] (N, hm_sh L g, s) _ Q
  refine hm_st hR ⟨fun c9 => ?_, fun c9 => ?_⟩
  · rw [if_neg c9] at hq
    show R 58 27 [(2, .int (T_134 s)), (0, .ref 2), (1, .int p1)] [] (N, hm_sh L g, s) _ Q
    refine hm_st hR (hm_st hR (?_))
    show R 58 29 [(2, .int (T_134 s)), (0, .ref 2), (1, .int p1)] [.int 1, .int p1] (N, hm_sh L g, s) _ Q
    refine hm_st hR ⟨fun c29 => ?_, fun c29 => ?_⟩
    · rw [if_neg c29] at hq
      show R 58 43 [(2, .int (T_134 s)), (0, .ref 2), (1, .int p1)] [] (N, hm_sh L g, s) _ Q
      refine hm_st hR (hm_st hR ⟨rfl, hm_le rfl, (hm_ltN hN rfl), hm_st hR (?_)⟩)
      refine hm_st hR ⟨hm_le rfl, rfl, (hm_le rfl), (hm_ltN hN rfl), hm_le rfl, hm_le rfl, (0, 0), Nat.zero_le _, Nat.zero_le _, ?_⟩
      refine sp_83 hR hN hO ?_
      show R 58 51 [(2, .int (T_134 s)), (0, .ref 2), (1, .int p1)] [.int (T_83 s (T_134 s))] (N, hm_sh L g, s) _ Q
      exact hm_st hR ⟨fun z => absurd z (by decide), hm_pai hq⟩
    · rw [if_pos c29] at hq
      show R 58 32 [(2, .int (T_134 s)), (0, .ref 2), (1, .int p1)] [] (N, hm_sh L g, s) _ Q
      refine hm_st hR (hm_st hR ⟨rfl, hm_le rfl, (hm_ltN hN rfl), hm_st hR (?_)⟩)
      refine hm_st hR ⟨hm_le rfl, rfl, (hm_le rfl), (hm_ltN hN rfl), hm_le rfl, hm_le rfl, (0, 0), Nat.zero_le _, Nat.zero_le _, ?_⟩
      refine sp_82 hR hN hO ?_
      show R 58 40 [(2, .int (T_134 s)), (0, .ref 2), (1, .int p1)] [.int (T_82 s (T_134 s))] (N, hm_sh L g, s) _ Q
      refine hm_st hR (?_)
      exact hm_st hR ⟨fun z => absurd z (by decide), hm_pai hq⟩
  · rw [if_pos c9] at hq
    show R 58 12 [(2, .int (T_134 s)), (0, .ref 2), (1, .int p1)] [] (N, hm_sh L g, s) _ Q
    refine hm_st hR (hm_st hR ⟨rfl, hm_le rfl, (hm_ltN hN rfl), hm_st hR (?_)⟩)
    refine hm_st hR ⟨hm_le rfl, rfl, (hm_le rfl), (hm_ltN hN rfl), hm_le rfl, hm_le rfl, (1, 4), (by show 1 ≤ b.1 - 0; omega), (by show 4 ≤ b.2 - 0; omega), ?_⟩
    refine sp_50 hR hN (Nat.le_refl _) (Nat.le_refl _) ?_
    have hbk1 : (hm_sh L (hm_gb g N) N).1 = 0 := hm_gbk hN
    have hbt1 : 2 ≤ N := hm_two hN
    have hbl1 : N < N + 1 := Nat.lt_succ_self _
    show R 58 20 [(2, .int (T_134 s)), (0, .ref 2), (1, .int p1)] [.ref N, .ref 47] ((N + 1), hm_sh L (hm_gb g N), (T_50 N s)) _ Q
    refine hm_st hR (?_)
    refine hm_st hR ⟨hm_le rfl, rfl, (hm_le rfl), (hm_ltN (Nat.le_succ_of_le hN) rfl), hm_le rfl, hm_le rfl, (0, 0), Nat.zero_le _, Nat.zero_le _, ?_⟩
    refine sp_81 hR (Nat.le_succ_of_le hN) (bx := N) hbk1 hbt1 hbl1 (by unfold T_50; rw [N_65 (hm_cN hN), hm_snn (hm_cN hN)]; exact hO) ?_
    show R 58 24 [(2, .int (T_134 s)), (0, .ref 2), (1, .int p1)] [.int (T_81 (T_50 N s) N (T_134 s))] ((N + 1), hm_sh L (hm_gb g N), (T_50 N s)) _ Q
    refine hm_st hR (?_)
    exact hm_st hR ⟨fun z => absurd z (by decide), hm_pai hq⟩
/-- CurvekeyHouse.rival(I)I -/
def T_27 (N : Nat) (g : Nat → hm_Sh) (s : hm_St) (p1 : Int32) : hm_Er Int32 := (if ((T_34 s p1 0 2) : Int32) = 0 then (1, 0, N, g, s) else (0, (T_58 N g s p1).1, (T_58 N g s p1).2.1, (T_58 N g s p1).2.2.1, (T_58 N g s p1).2.2.2))
set_option maxRecDepth 20000 in
theorem sp_27 {R : hm_R} (hR : hm_Cm R) {N L : Nat} {g : Nat → hm_Sh} {s : hm_St} {b : hm_B} {Q : hm_Q} (hN : 68 ≤ N) (hb1 : 2 ≤ b.1) (hb2 : 10 ≤ b.2) {p1 : Int32} (hO : s 47 1 < 100000) (hq : hm_qx Q L (fun v => some (.int v)) (T_27 N g s p1)) : R 27 0 (lv_args 0 [.ref 2, .int p1]) [] (N, hm_sh L g, s) b Q := by
  unfold T_27 at hq
  show R 27 0 [(0, .ref 2), (1, .int p1)] [] (N, hm_sh L g, s) _ Q
  refine hm_st hR (hm_st hR (hm_st hR (?_)))
  refine hm_st hR ⟨hm_le rfl, hm_le rfl, hm_le rfl, (0, 0), Nat.zero_le _, Nat.zero_le _, ?_⟩
  refine sp_34 hR hN ?_
  show R 27 6 [(0, .ref 2), (1, .int p1)] [.int (T_34 s p1 0 2)] (N, hm_sh L g, s) _ Q
  show R 27 6 [(0, .ref 2), (1, .int p1)] [.int (T_34 s p1 0 2)] (N, hm_sh L g, s) _ Q
  by_cases c6 : ((T_34 s p1 0 2) : Int32) = 0
  · rw [if_pos c6] at hq
    exact hm_st hR ⟨hm_le rfl, hm_le rfl, hm_le rfl, (1, 6), (by show 1 ≤ b.1 - 0; omega), (by show 6 ≤ b.2 - 0; omega), hm_needT31 hR hN c6 (fun N2 hN2 => hm_KX (by decide) (hq N2 hN2))⟩
  · rw [if_neg c6] at hq
    refine hm_st hR ⟨hm_le rfl, hm_le rfl, hm_le rfl, (0, 0), Nat.zero_le _, Nat.zero_le _, hm_needP31 hR c6 ?_⟩
    show R 27 9 [(0, .ref 2), (1, .int p1)] [] (N, hm_sh L g, s) _ Q
    refine hm_st hR (hm_st hR (?_))
    refine hm_st hR ⟨hm_le rfl, rfl, (hm_le rfl), (hm_ltN hN rfl), hm_le rfl, hm_le rfl, (1, 4), (by show 1 ≤ b.1 - 0 - 0; omega), (by show 4 ≤ b.2 - 0 - 0; omega), ?_⟩
    refine sp_58 hR hN (Nat.le_refl _) (Nat.le_refl _) hO ?_
    show R 27 14 [(0, .ref 2), (1, .int p1)] [.int (T_58 N g s p1).1] ((T_58 N g s p1).2.1, hm_sh L ((T_58 N g s p1).2.2.1), (T_58 N g s p1).2.2.2) _ Q
    exact hm_st hR ⟨fun z => absurd z (by decide), hm_qx0 hq⟩
/-- CurvekeyHouse.rivalReads(IIII)I -/
def T_28 (N : Nat) (g : Nat → hm_Sh) (s : hm_St) (p1 : Int32) (p2 : Int32) (p3 : Int32) (p4 : Int32) : hm_Er Int32 := (if ((T_38 s p1 p2 p3 p4) : Int32) = 0 then (1, 0, N, g, s) else (0, (T_81 (T_65 (hm_sn s N) N p1 p2 p3 p4) N (T_134 (T_65 (hm_sn s N) N p1 p2 p3 p4))), (N + 1), (hm_gb g N), (T_65 (hm_sn s N) N p1 p2 p3 p4)))
set_option maxRecDepth 20000 in
theorem sp_28 {R : hm_R} (hR : hm_Cm R) {N L : Nat} {g : Nat → hm_Sh} {s : hm_St} {b : hm_B} {Q : hm_Q} (hN : 68 ≤ N) (hb1 : 2 ≤ b.1) (hb2 : 10 ≤ b.2) {p1 : Int32} {p2 : Int32} {p3 : Int32} {p4 : Int32} (hO : s 47 1 < 100000) (hq : hm_qx Q L (fun v => some (.int v)) (T_28 N g s p1 p2 p3 p4)) : R 28 0 (lv_args 0 [.ref 2, .int p1, .int p2, .int p3, .int p4]) [] (N, hm_sh L g, s) b Q := by
  unfold T_28 at hq
  show R 28 0 [(0, .ref 2), (1, .int p1), (2, .int p2), (3, .int p3), (4, .int p4)] [] (N, hm_sh L g, s) _ Q
  refine hm_st hR (hm_st hR (hm_st hR (hm_st hR (hm_st hR (?_)))))
  refine hm_st hR ⟨hm_le rfl, rfl, (hm_le rfl), (hm_ltN hN rfl), hm_le rfl, hm_le rfl, (0, 0), Nat.zero_le _, Nat.zero_le _, ?_⟩
  refine sp_38 hR hN ?_
  show R 28 9 [(0, .ref 2), (1, .int p1), (2, .int p2), (3, .int p3), (4, .int p4)] [.int (T_38 s p1 p2 p3 p4)] (N, hm_sh L g, s) _ Q
  show R 28 9 [(0, .ref 2), (1, .int p1), (2, .int p2), (3, .int p3), (4, .int p4)] [.int (T_38 s p1 p2 p3 p4)] (N, hm_sh L g, s) _ Q
  by_cases c9 : ((T_38 s p1 p2 p3 p4) : Int32) = 0
  · rw [if_pos c9] at hq
    exact hm_st hR ⟨hm_le rfl, hm_le rfl, hm_le rfl, (1, 6), (by show 1 ≤ b.1 - 0; omega), (by show 6 ≤ b.2 - 0; omega), hm_needT31 hR hN c9 (fun N2 hN2 => hm_KX (by decide) (hq N2 hN2))⟩
  · rw [if_neg c9] at hq
    refine hm_st hR ⟨hm_le rfl, hm_le rfl, hm_le rfl, (0, 0), Nat.zero_le _, Nat.zero_le _, hm_needP31 hR c9 ?_⟩
    show R 28 12 [(0, .ref 2), (1, .int p1), (2, .int p2), (3, .int p3), (4, .int p4)] [] (N, hm_sh L g, s) _ Q
    refine hm_st hR (hm_st hR ⟨rfl, hm_le rfl, (hm_ltN hN rfl), ?_⟩)
    show R 28 16 [(0, .ref 2), (1, .int p1), (2, .int p2), (3, .int p3), (4, .int p4)] [.ref 47] (N, hm_sh L g, s) _ Q
    refine hm_nwb hR hN (by show 1 ≤ b.1 - 0 - 0; omega) (by show 4 ≤ b.2 - 0 - 0; omega) (by rfl) ?_
    have hbk1 : (hm_sh L (hm_gb g N) N).1 = 0 := hm_gbk hN
    have hbt1 : 2 ≤ N := hm_two hN
    have hbl1 : N < N + 1 := Nat.lt_succ_self _
    show R 28 19 [(0, .ref 2), (1, .int p1), (2, .int p2), (3, .int p3), (4, .int p4)] [.ref N, .ref 47] ((N + 1), hm_sh L (hm_gb g N), (hm_sn s N)) _ Q
    refine hm_st hR ⟨rfl, hm_st hR (hm_st hR (hm_st hR (hm_st hR (?_))))⟩
    refine hm_st hR ⟨hm_le rfl, hbt1, hm_le rfl, hm_le rfl, (0, 0), Nat.zero_le _, Nat.zero_le _, ?_⟩
    refine sp_65 hR (Nat.le_succ_of_le hN) (bx := N) hbk1 hbt1 hbl1 ?_
    show R 28 28 [(0, .ref 2), (1, .int p1), (2, .int p2), (3, .int p3), (4, .int p4)] [.ref N, .ref 47] ((N + 1), hm_sh L (hm_gb g N), (T_65 (hm_sn s N) N p1 p2 p3 p4)) _ Q
    refine hm_st hR (hm_st hR ⟨rfl, hm_le rfl, (hm_ltN (Nat.le_succ_of_le hN) rfl), ?_⟩)
    refine hm_st hR ⟨hm_le rfl, rfl, (hm_le rfl), (hm_ltN (Nat.le_succ_of_le hN) rfl), hm_le rfl, hm_le rfl, (0, 0), Nat.zero_le _, Nat.zero_le _, ?_⟩
    refine sp_134 hR (Nat.le_succ_of_le hN) ?_
    show R 28 35 [(0, .ref 2), (1, .int p1), (2, .int p2), (3, .int p3), (4, .int p4)] [.int (T_134 (T_65 (hm_sn s N) N p1 p2 p3 p4)), .ref N, .ref 47] ((N + 1), hm_sh L (hm_gb g N), (T_65 (hm_sn s N) N p1 p2 p3 p4)) _ Q
    refine hm_st hR ⟨hm_le rfl, rfl, (hm_le rfl), (hm_ltN (Nat.le_succ_of_le hN) rfl), hm_le rfl, hm_le rfl, (0, 0), Nat.zero_le _, Nat.zero_le _, ?_⟩
    refine sp_81 hR (Nat.le_succ_of_le hN) (bx := N) hbk1 hbt1 hbl1 (by rw [N_65 (hm_cN hN), hm_snn (hm_cN hN)]; exact hO) ?_
    show R 28 38 [(0, .ref 2), (1, .int p1), (2, .int p2), (3, .int p3), (4, .int p4)] [.int (T_81 (T_65 (hm_sn s N) N p1 p2 p3 p4) N (T_134 (T_65 (hm_sn s N) N p1 p2 p3 p4)))] ((N + 1), hm_sh L (hm_gb g N), (T_65 (hm_sn s N) N p1 p2 p3 p4)) _ Q
    exact hm_st hR ⟨fun z => absurd z (by decide), hm_qx0 hq⟩
def T_154_15 : Nat → hm_St → Int32 → Int32
  | 0, s, _ => 0
  | n + 1, s, v1 => (if (s 42 4) ≤ v1 then 1 else (if (s 42 3) < (T_141 s v1) then 0 else (if (T_178 s 46 1025 v1) < (T_178 s 46 1025 (v1 + 1)) then (T_154_15 n s (v1 + 1)) else 0)))
/-- CurvekeyHouse$Pages.isOrdered()Z -/
def T_154 (s : hm_St) : Int32 := (if (T_178 s 46 1025 0) = 0 then (T_154_15 (hm_df (s 42 4) 0 + 1) s 0) else 0)
theorem B_154_15 : ∀ (n : Nat) (s : hm_St) v0, T_154_15  n s v0 = 0 ∨ T_154_15  n s v0 = 1 := by
  intro n
  induction n with
  | zero => intros; exact Or.inl rfl
  | succ n ih =>
    intros
    unfold T_154_15
    repeat' split
    all_goals first | exact Or.inl rfl | exact Or.inr rfl | exact ih _ _
theorem B_154 (s : hm_St) : T_154 s = 0 ∨ T_154 s = 1 := by
  unfold T_154
  repeat' split
  all_goals first | exact Or.inl rfl | exact Or.inr rfl | exact B_154_15 _ _ _
set_option maxRecDepth 20000 in
theorem lp_154_15 {R : hm_R} (hR : hm_Cm R) {N L : Nat} {g : Nat → hm_Sh} {b : hm_B} {Q : hm_Q} (hN : 68 ≤ N) : ∀ (n : Nat) (s : hm_St) (v1 : Int32), hm_df (s 42 4) v1 < n → (hq : Q (.inr (some (.int (T_154_15 n s v1)))) (N, hm_sh L g, s)) → R 154 15 [(1, .int v1), (0, .ref 42)] [] (N, hm_sh L g, s) b Q := by
  intro n
  induction n with
  | zero => intro s v1 hm _; exact absurd hm (Nat.not_lt_zero _)
  | succ n ih =>
    intro s v1 hm hq
    unfold T_154_15 at hq
    refine hm_st hR (hm_st hR (hm_st hR ⟨rfl, hm_le rfl, (hm_ltN hN rfl), ?_⟩))
    show R 154 20 [(1, .int v1), (0, .ref 42)] [.int (s 42 4), .int v1] (N, hm_sh L g, s) _ Q
    refine hm_st hR ⟨fun c20 => ?_, fun c20 => ?_⟩
    · rw [if_pos c20] at hq
      show R 154 64 [(1, .int v1), (0, .ref 42)] [] (N, hm_sh L g, s) _ Q
      refine hm_st hR (?_)
      exact hm_st hR ⟨fun _ => Or.inr rfl, hq⟩
    · rw [if_neg c20] at hq
      show R 154 23 [(1, .int v1), (0, .ref 42)] [] (N, hm_sh L g, s) _ Q
      refine hm_st hR (hm_st hR (?_))
      refine hm_st hR ⟨hm_le rfl, rfl, (hm_le rfl), (hm_ltN hN rfl), hm_le rfl, hm_le rfl, (0, 0), Nat.zero_le _, Nat.zero_le _, ?_⟩
      refine sp_141 hR hN ?_
      show R 154 28 [(1, .int v1), (0, .ref 42)] [.int (T_141 s v1)] (N, hm_sh L g, s) _ Q
      refine hm_st hR (hm_st hR ⟨rfl, hm_le rfl, (hm_ltN hN rfl), ?_⟩)
      show R 154 32 [(1, .int v1), (0, .ref 42)] [.int (s 42 3), .int (T_141 s v1)] (N, hm_sh L g, s) _ Q
      refine hm_st hR ⟨fun c32 => ?_, fun c32 => ?_⟩
      · rw [if_pos c32] at hq
        show R 154 56 [(1, .int v1), (0, .ref 42)] [] (N, hm_sh L g, s) _ Q
        refine hm_st hR (?_)
        exact hm_st hR ⟨fun _ => Or.inl rfl, hq⟩
      · rw [if_neg c32] at hq
        show R 154 35 [(1, .int v1), (0, .ref 42)] [] (N, hm_sh L g, s) _ Q
        refine hm_st hR (hm_st hR ⟨rfl, hm_le rfl, (hm_ltN hN rfl), hm_st hR (hm_st hR (hm_st hR (?_)))⟩)
        refine hm_st hR ⟨hm_le rfl, rfl, (hm_le rfl), (hm_ltN hN rfl), hm_le rfl, hm_le rfl, (0, 0), Nat.zero_le _, Nat.zero_le _, ?_⟩
        refine sp_178 hR hN (rr := 45) (aa := 46) (nn := 1025) rfl rfl (hm_le rfl) (hm_ltN hN rfl) rfl rfl (hm_le rfl) (hm_ltN hN rfl) (by decide) ?_
        show R 154 45 [(1, .int v1), (0, .ref 42)] [.int (T_178 s 46 1025 (v1 + 1))] (N, hm_sh L g, s) _ Q
        refine hm_st hR (hm_st hR ⟨rfl, hm_le rfl, (hm_ltN hN rfl), hm_st hR (?_)⟩)
        refine hm_st hR ⟨hm_le rfl, rfl, (hm_le rfl), (hm_ltN hN rfl), hm_le rfl, hm_le rfl, (0, 0), Nat.zero_le _, Nat.zero_le _, ?_⟩
        refine sp_178 hR hN (rr := 45) (aa := 46) (nn := 1025) rfl rfl (hm_le rfl) (hm_ltN hN rfl) rfl rfl (hm_le rfl) (hm_ltN hN rfl) (by decide) ?_
        show R 154 53 [(1, .int v1), (0, .ref 42)] [.int (T_178 s 46 1025 v1), .int (T_178 s 46 1025 (v1 + 1))] (N, hm_sh L g, s) _ Q
        show R 154 53 [(1, .int v1), (0, .ref 42)] [.int (T_178 s 46 1025 v1), .int (T_178 s 46 1025 (v1 + 1))] (N, hm_sh L g, s) _ Q
        refine hm_st hR ⟨fun c53 => ?_, fun c53 => ?_⟩
        · rw [if_pos c53] at hq
          show R 154 58 [(1, .int v1), (0, .ref 42)] [] (N, hm_sh L g, s) _ Q
          refine hm_st hR (hm_st hR (?_))
          show R 154 15 [(1, .int (v1 + 1)), (0, .ref 42)] [] (N, hm_sh L g, s) _ Q
          exact hm_lvS hR (by intro q hq; simp only [List.mem_cons, List.not_mem_nil, or_false] at hq ⊢; rcases hq with rfl | rfl <;> simp) (ih s (v1 + 1) (hm_dcx c20 hm) hq)
        · rw [if_neg c53] at hq
          show R 154 56 [(1, .int v1), (0, .ref 42)] [] (N, hm_sh L g, s) _ Q
          refine hm_st hR (?_)
          exact hm_st hR ⟨fun _ => Or.inl rfl, hq⟩
set_option maxRecDepth 20000 in
theorem sp_154 {R : hm_R} (hR : hm_Cm R) {N L : Nat} {g : Nat → hm_Sh} {s : hm_St} {b : hm_B} {Q : hm_Q} (hN : 68 ≤ N) (hq : Q (.inr (some (.int (T_154 s)))) (N, hm_sh L g, s)) : R 154 0 (lv_args 0 [.ref 42]) [] (N, hm_sh L g, s) b Q := by
  unfold T_154 at hq
  show R 154 0 [(0, .ref 42)] [] (N, hm_sh L g, s) _ Q
  refine hm_st hR (hm_st hR ⟨rfl, hm_le rfl, (hm_ltN hN rfl), hm_st hR (?_)⟩)
  refine hm_st hR ⟨hm_le rfl, rfl, (hm_le rfl), (hm_ltN hN rfl), hm_le rfl, hm_le rfl, (0, 0), Nat.zero_le _, Nat.zero_le _, ?_⟩
  refine sp_178 hR hN (rr := 45) (aa := 46) (nn := 1025) rfl rfl (hm_le rfl) (hm_ltN hN rfl) rfl rfl (hm_le rfl) (hm_ltN hN rfl) (by decide) ?_
  show R 154 8 [(0, .ref 42)] [.int (T_178 s 46 1025 0)] (N, hm_sh L g, s) _ Q
  show R 154 8 [(0, .ref 42)] [.int (T_178 s 46 1025 0)] (N, hm_sh L g, s) _ Q
  refine hm_st hR ⟨fun c8 => ?_, fun c8 => ?_⟩
  · rw [if_pos c8] at hq
    show R 154 13 [(0, .ref 42)] [] (N, hm_sh L g, s) _ Q
    refine hm_st hR (hm_st hR (?_))
    show R 154 15 [(1, .int 0), (0, .ref 42)] [] (N, hm_sh L g, s) _ Q
    exact lp_154_15 hR hN _ _ _ (Nat.lt_succ_self _) hq
  · rw [if_neg c8] at hq
    show R 154 11 [(0, .ref 42)] [] (N, hm_sh L g, s) _ Q
    refine hm_st hR (?_)
    exact hm_st hR ⟨fun _ => Or.inl rfl, hq⟩
def T_59_4 : Nat → hm_St → Int32 → Int32 → Int32
  | 0, s, _, _ => 0
  | n + 1, s, v1, v2 => (if (T_87 s) ≤ v2 then (if v1 = (T_158 s) then (1 : Int32) else 0) else (if (T_140 s v2) = (-1) then (T_59_4 n s (v1 + (if (T_140 s v2) = (-1) then (0 : Int32) else 1)) (v2 + 1)) else (if (T_160 s (T_140 s v2)) = 0 then 0 else (if (T_40 s (T_140 s v2)) = v2 then (T_59_4 n s (v1 + (if (T_140 s v2) = (-1) then (0 : Int32) else 1)) (v2 + 1)) else 0))))
/-- CurvekeyHouse.arePointsEntered()Z -/
def T_59 (s : hm_St) : Int32 := (T_59_4 (hm_df (T_87 s) 0 + 1) s 0 0)
theorem B_59_4 : ∀ (n : Nat) (s : hm_St) v0 v1, T_59_4  n s v0 v1 = 0 ∨ T_59_4  n s v0 v1 = 1 := by
  intro n
  induction n with
  | zero => intros; exact Or.inl rfl
  | succ n ih =>
    intros
    unfold T_59_4
    repeat' split
    all_goals first | exact Or.inl rfl | exact Or.inr rfl | exact ih _ _ _
theorem B_59 (s : hm_St) : T_59 s = 0 ∨ T_59 s = 1 := by
  unfold T_59
  repeat' split
  all_goals first | exact Or.inl rfl | exact Or.inr rfl | exact B_160 _ _ | exact B_59_4 _ _ _ _
set_option maxRecDepth 20000 in
theorem lp_59_4 {R : hm_R} (hR : hm_Cm R) {N L : Nat} {g : Nat → hm_Sh} {b : hm_B} {Q : hm_Q} (hN : 68 ≤ N) : ∀ (n : Nat) (s : hm_St) (v1 : Int32) (v2 : Int32), hm_df (T_87 s) v2 < n → (hq : Q (.inr (some (.int (T_59_4 n s v1 v2)))) (N, hm_sh L g, s)) → R 59 4 [(2, .int v2), (1, .int v1), (0, .ref 2)] [] (N, hm_sh L g, s) b Q := by
  intro n
  induction n with
  | zero => intro s v1 v2 hm _; exact absurd hm (Nat.not_lt_zero _)
  | succ n ih =>
    intro s v1 v2 hm hq
    unfold T_59_4 at hq
    refine hm_st hR (hm_st hR (hm_st hR ⟨rfl, hm_le rfl, (hm_ltN hN rfl), ?_⟩))
    refine hm_st hR ⟨hm_le rfl, rfl, (hm_le rfl), (hm_ltN hN rfl), hm_le rfl, hm_le rfl, (0, 0), Nat.zero_le _, Nat.zero_le _, ?_⟩
    refine sp_87 hR hN ?_
    show R 59 12 [(2, .int v2), (1, .int v1), (0, .ref 2)] [.int (T_87 s), .int v2] (N, hm_sh L g, s) _ Q
    show R 59 12 [(2, .int v2), (1, .int v1), (0, .ref 2)] [.int (T_87 s), .int v2] (N, hm_sh L g, s) _ Q
    refine hm_st hR ⟨fun c12 => ?_, fun c12 => ?_⟩
    · rw [if_pos c12] at hq
      show R 59 70 [(2, .int v2), (1, .int v1), (0, .ref 2)] [] (N, hm_sh L g, s) _ Q
      refine hm_st hR (hm_st hR (hm_st hR ⟨rfl, hm_le rfl, (hm_ltN hN rfl), ?_⟩))
      refine hm_st hR ⟨hm_le rfl, rfl, (hm_le rfl), (hm_ltN hN rfl), hm_le rfl, hm_le rfl, (0, 0), Nat.zero_le _, Nat.zero_le _, ?_⟩
      refine sp_158 hR hN ?_
      show R 59 78 [(2, .int v2), (1, .int v1), (0, .ref 2)] [.int (T_158 s), .int v1] (N, hm_sh L g, s) _ Q
      show R 59 78 [(2, .int v2), (1, .int v1), (0, .ref 2)] [.int (T_158 s), .int v1] (N, hm_sh L g, s) _ Q
      suffices G : ∀ w : Int32, w = (if v1 = (T_158 s) then (1 : Int32) else 0) → R 59 86 [(2, .int v2), (1, .int v1), (0, .ref 2)] [.int w] (N, hm_sh L g, s) (b.1 - 0 - 0, b.2 - 0 - 0) Q by
        show R 59 78 [(2, .int v2), (1, .int v1), (0, .ref 2)] [.int (T_158 s), .int v1] (N, hm_sh L g, s) _ Q
        refine hm_st hR ⟨fun c => ?_, fun c => ?_⟩
        · exact hm_st hR (G _ (if_neg c).symm)
        · exact hm_st hR (hm_st hR (G _ (if_pos c).symm))
      intro w hw
      subst hw
      show R 59 86 [(2, .int v2), (1, .int v1), (0, .ref 2)] [.int (if v1 = (T_158 s) then (1 : Int32) else 0)] (N, hm_sh L g, s) _ Q
      exact hm_st hR ⟨fun _ => (by split <;> first | exact Or.inl rfl | exact Or.inr rfl), hq⟩
    · rw [if_neg c12] at hq
      show R 59 15 [(2, .int v2), (1, .int v1), (0, .ref 2)] [] (N, hm_sh L g, s) _ Q
      refine hm_st hR (hm_st hR ⟨rfl, hm_le rfl, (hm_ltN hN rfl), hm_st hR (?_)⟩)
      refine hm_st hR ⟨hm_le rfl, rfl, (hm_le rfl), (hm_ltN hN rfl), hm_le rfl, hm_le rfl, (0, 0), Nat.zero_le _, Nat.zero_le _, ?_⟩
      refine sp_140 hR hN ?_
      show R 59 23 [(2, .int v2), (1, .int v1), (0, .ref 2)] [.int (T_140 s v2)] (N, hm_sh L g, s) _ Q
      refine hm_st hR (hm_st hR (hm_st hR (?_)))
      show R 59 26 [(3, .int (T_140 s v2)), (2, .int v2), (1, .int v1), (0, .ref 2)] [.int (-1), .int (T_140 s v2)] (N, hm_sh L g, s) _ Q
      refine hm_st hR ⟨fun c26 => ?_, fun c26 => ?_⟩
      · rw [if_pos c26] at hq
        show R 59 51 [(3, .int (T_140 s v2)), (2, .int v2), (1, .int v1), (0, .ref 2)] [] (N, hm_sh L g, s) _ Q
        refine hm_st hR (hm_st hR (hm_st hR (?_)))
        show R 59 54 [(3, .int (T_140 s v2)), (2, .int v2), (1, .int v1), (0, .ref 2)] [.int (-1), .int (T_140 s v2), .int v1] (N, hm_sh L g, s) _ Q
        suffices G : ∀ w : Int32, w = (if (T_140 s v2) = (-1) then (0 : Int32) else 1) → R 59 62 [(3, .int (T_140 s v2)), (2, .int v2), (1, .int v1), (0, .ref 2)] [.int w, .int v1] (N, hm_sh L g, s) (b.1 - 0 - 0, b.2 - 0 - 0) Q by
          show R 59 54 [(3, .int (T_140 s v2)), (2, .int v2), (1, .int v1), (0, .ref 2)] [.int (-1), .int (T_140 s v2), .int v1] (N, hm_sh L g, s) _ Q
          refine hm_st hR ⟨fun c => ?_, fun c => ?_⟩
          · exact hm_st hR (G _ (if_neg c).symm)
          · exact hm_st hR (hm_st hR (G _ (if_pos c).symm))
        intro w hw
        subst hw
        show R 59 62 [(3, .int (T_140 s v2)), (2, .int v2), (1, .int v1), (0, .ref 2)] [.int (if (T_140 s v2) = (-1) then (0 : Int32) else 1), .int v1] (N, hm_sh L g, s) _ Q
        refine hm_st hR (hm_st hR (hm_st hR (hm_st hR (?_))))
        show R 59 4 [(2, .int (v2 + 1)), (1, .int (v1 + (if (T_140 s v2) = (-1) then (0 : Int32) else 1))), (3, .int (T_140 s v2)), (0, .ref 2)] [] (N, hm_sh L g, s) _ Q
        exact hm_lvS hR (by intro q hq; simp only [List.mem_cons, List.not_mem_nil, or_false] at hq ⊢; rcases hq with rfl | rfl | rfl <;> simp) (ih s (v1 + (if (T_140 s v2) = (-1) then (0 : Int32) else 1)) (v2 + 1) (hm_dcx c12 hm) hq)
      · rw [if_neg c26] at hq
        show R 59 29 [(3, .int (T_140 s v2)), (2, .int v2), (1, .int v1), (0, .ref 2)] [] (N, hm_sh L g, s) _ Q
        refine hm_st hR (hm_st hR ⟨rfl, hm_le rfl, (hm_ltN hN rfl), hm_st hR (?_)⟩)
        refine hm_st hR ⟨hm_le rfl, rfl, (hm_le rfl), (hm_ltN hN rfl), hm_le rfl, hm_le rfl, (0, 0), Nat.zero_le _, Nat.zero_le _, ?_⟩
        refine sp_160 hR hN ?_
        show R 59 37 [(3, .int (T_140 s v2)), (2, .int v2), (1, .int v1), (0, .ref 2)] [.int (T_160 s (T_140 s v2))] (N, hm_sh L g, s) _ Q
        show R 59 37 [(3, .int (T_140 s v2)), (2, .int v2), (1, .int v1), (0, .ref 2)] [.int (T_160 s (T_140 s v2))] (N, hm_sh L g, s) _ Q
        refine hm_st hR ⟨fun c37 => ?_, fun c37 => ?_⟩
        · rw [if_pos c37] at hq
          show R 59 49 [(3, .int (T_140 s v2)), (2, .int v2), (1, .int v1), (0, .ref 2)] [] (N, hm_sh L g, s) _ Q
          refine hm_st hR (?_)
          exact hm_st hR ⟨fun _ => Or.inl rfl, hq⟩
        · rw [if_neg c37] at hq
          show R 59 40 [(3, .int (T_140 s v2)), (2, .int v2), (1, .int v1), (0, .ref 2)] [] (N, hm_sh L g, s) _ Q
          refine hm_st hR (hm_st hR (?_))
          refine hm_st hR ⟨hm_le rfl, rfl, (hm_le rfl), (hm_ltN hN rfl), hm_le rfl, hm_le rfl, (0, 0), Nat.zero_le _, Nat.zero_le _, ?_⟩
          refine sp_40 hR hN ?_
          show R 59 45 [(3, .int (T_140 s v2)), (2, .int v2), (1, .int v1), (0, .ref 2)] [.int (T_40 s (T_140 s v2))] (N, hm_sh L g, s) _ Q
          refine hm_st hR (?_)
          show R 59 46 [(3, .int (T_140 s v2)), (2, .int v2), (1, .int v1), (0, .ref 2)] [.int v2, .int (T_40 s (T_140 s v2))] (N, hm_sh L g, s) _ Q
          refine hm_st hR ⟨fun c46 => ?_, fun c46 => ?_⟩
          · rw [if_pos c46] at hq
            show R 59 51 [(3, .int (T_140 s v2)), (2, .int v2), (1, .int v1), (0, .ref 2)] [] (N, hm_sh L g, s) _ Q
            refine hm_st hR (hm_st hR (hm_st hR (?_)))
            show R 59 54 [(3, .int (T_140 s v2)), (2, .int v2), (1, .int v1), (0, .ref 2)] [.int (-1), .int (T_140 s v2), .int v1] (N, hm_sh L g, s) _ Q
            suffices G : ∀ w : Int32, w = (if (T_140 s v2) = (-1) then (0 : Int32) else 1) → R 59 62 [(3, .int (T_140 s v2)), (2, .int v2), (1, .int v1), (0, .ref 2)] [.int w, .int v1] (N, hm_sh L g, s) (b.1 - 0 - 0 - 0 - 0, b.2 - 0 - 0 - 0 - 0) Q by
              show R 59 54 [(3, .int (T_140 s v2)), (2, .int v2), (1, .int v1), (0, .ref 2)] [.int (-1), .int (T_140 s v2), .int v1] (N, hm_sh L g, s) _ Q
              refine hm_st hR ⟨fun c => ?_, fun c => ?_⟩
              · exact hm_st hR (G _ (if_neg c).symm)
              · exact hm_st hR (hm_st hR (G _ (if_pos c).symm))
            intro w hw
            subst hw
            show R 59 62 [(3, .int (T_140 s v2)), (2, .int v2), (1, .int v1), (0, .ref 2)] [.int (if (T_140 s v2) = (-1) then (0 : Int32) else 1), .int v1] (N, hm_sh L g, s) _ Q
            refine hm_st hR (hm_st hR (hm_st hR (hm_st hR (?_))))
            show R 59 4 [(2, .int (v2 + 1)), (1, .int (v1 + (if (T_140 s v2) = (-1) then (0 : Int32) else 1))), (3, .int (T_140 s v2)), (0, .ref 2)] [] (N, hm_sh L g, s) _ Q
            exact hm_lvS hR (by intro q hq; simp only [List.mem_cons, List.not_mem_nil, or_false] at hq ⊢; rcases hq with rfl | rfl | rfl <;> simp) (ih s (v1 + (if (T_140 s v2) = (-1) then (0 : Int32) else 1)) (v2 + 1) (hm_dcx c12 hm) hq)
          · rw [if_neg c46] at hq
            show R 59 49 [(3, .int (T_140 s v2)), (2, .int v2), (1, .int v1), (0, .ref 2)] [] (N, hm_sh L g, s) _ Q
            refine hm_st hR (?_)
            exact hm_st hR ⟨fun _ => Or.inl rfl, hq⟩
set_option maxRecDepth 20000 in
theorem sp_59 {R : hm_R} (hR : hm_Cm R) {N L : Nat} {g : Nat → hm_Sh} {s : hm_St} {b : hm_B} {Q : hm_Q} (hN : 68 ≤ N) (hq : Q (.inr (some (.int (T_59 s)))) (N, hm_sh L g, s)) : R 59 0 (lv_args 0 [.ref 2]) [] (N, hm_sh L g, s) b Q := by
  unfold T_59 at hq
  show R 59 0 [(0, .ref 2)] [] (N, hm_sh L g, s) _ Q
  refine hm_st hR (hm_st hR (hm_st hR (hm_st hR (?_))))
  show R 59 4 [(2, .int 0), (1, .int 0), (0, .ref 2)] [] (N, hm_sh L g, s) _ Q
  exact lp_59_4 hR hN _ _ _ _ (Nat.lt_succ_self _) hq
/-- CurvekeyHouse.isSound()Z -/
def T_29 (N : Nat) (g : Nat → hm_Sh) (s : hm_St) : (Int32 × Nat × (Nat → hm_Sh) × hm_St) := (if (T_154 s) = 0 then (0, N, g, s) else (if (T_59 s) = 0 then (0, N, g, s) else ((if (T_122 (T_50 N s) N (T_113 (T_50 N s))) = (T_158 (T_50 N s)) then (1 : Int32) else 0), (N + 1), (hm_gb g N), (T_50 N s))))
theorem G_29 (N : Nat) (g : Nat → hm_Sh) (s : hm_St) : N ≤ (T_29 N g s).2.1 := by
  unfold T_29
  repeat' split
  all_goals first | exact Nat.le_refl _ | exact Nat.le_succ _
set_option maxRecDepth 20000 in
theorem sp_29 {R : hm_R} (hR : hm_Cm R) {N L : Nat} {g : Nat → hm_Sh} {s : hm_St} {b : hm_B} {Q : hm_Q} (hN : 68 ≤ N) (hb1 : 1 ≤ b.1) (hb2 : 4 ≤ b.2) (hq : Q (.inr (some (.int (T_29 N g s).1))) ((T_29 N g s).2.1, hm_sh L (T_29 N g s).2.2.1, (T_29 N g s).2.2.2)) : R 29 0 (lv_args 0 [.ref 2]) [] (N, hm_sh L g, s) b Q := by
  unfold T_29 at hq
  show R 29 0 [(0, .ref 2)] [] (N, hm_sh L g, s) _ Q
  refine hm_st hR (hm_st hR ⟨rfl, hm_le rfl, (hm_ltN hN rfl), ?_⟩)
  refine hm_st hR ⟨hm_le rfl, rfl, (hm_le rfl), (hm_ltN hN rfl), hm_le rfl, hm_le rfl, (0, 0), Nat.zero_le _, Nat.zero_le _, ?_⟩
  refine sp_154 hR hN ?_
  show R 29 7 [(0, .ref 2)] [.int (T_154 s)] (N, hm_sh L g, s) _ Q
  show R 29 7 [(0, .ref 2)] [.int (T_154 s)] (N, hm_sh L g, s) _ Q
  refine hm_st hR ⟨fun c7 => ?_, fun c7 => ?_⟩
  · rw [if_pos c7] at hq
    show R 29 49 [(0, .ref 2)] [] (N, hm_sh L g, s) _ Q
    refine hm_st hR (?_)
    exact hm_st hR ⟨fun _ => Or.inl rfl, hm_pai hq⟩
  · rw [if_neg c7] at hq
    show R 29 10 [(0, .ref 2)] [] (N, hm_sh L g, s) _ Q
    refine hm_st hR (?_)
    refine hm_st hR ⟨hm_le rfl, rfl, (hm_le rfl), (hm_ltN hN rfl), hm_le rfl, hm_le rfl, (0, 0), Nat.zero_le _, Nat.zero_le _, ?_⟩
    refine sp_59 hR hN ?_
    show R 29 14 [(0, .ref 2)] [.int (T_59 s)] (N, hm_sh L g, s) _ Q
    show R 29 14 [(0, .ref 2)] [.int (T_59 s)] (N, hm_sh L g, s) _ Q
    refine hm_st hR ⟨fun c14 => ?_, fun c14 => ?_⟩
    · rw [if_pos c14] at hq
      show R 29 49 [(0, .ref 2)] [] (N, hm_sh L g, s) _ Q
      refine hm_st hR (?_)
      exact hm_st hR ⟨fun _ => Or.inl rfl, hm_pai hq⟩
    · rw [if_neg c14] at hq
      show R 29 17 [(0, .ref 2)] [] (N, hm_sh L g, s) _ Q
      refine hm_st hR (hm_st hR ⟨rfl, hm_le rfl, (hm_ltN hN rfl), hm_st hR (?_)⟩)
      refine hm_st hR ⟨hm_le rfl, rfl, (hm_le rfl), (hm_ltN hN rfl), hm_le rfl, hm_le rfl, (1, 4), (by show 1 ≤ b.1 - 0 - 0; omega), (by show 4 ≤ b.2 - 0 - 0; omega), ?_⟩
      refine sp_50 hR hN (Nat.le_refl _) (Nat.le_refl _) ?_
      have hbk1 : (hm_sh L (hm_gb g N) N).1 = 0 := hm_gbk hN
      have hbt1 : 2 ≤ N := hm_two hN
      have hbl1 : N < N + 1 := Nat.lt_succ_self _
      show R 29 25 [(0, .ref 2)] [.ref N, .ref 25] ((N + 1), hm_sh L (hm_gb g N), (T_50 N s)) _ Q
      refine hm_st hR (hm_st hR ⟨rfl, hm_le rfl, (hm_ltN (Nat.le_succ_of_le hN) rfl), ?_⟩)
      refine hm_st hR ⟨hm_le rfl, rfl, (hm_le rfl), (hm_ltN (Nat.le_succ_of_le hN) rfl), hm_le rfl, hm_le rfl, (0, 0), Nat.zero_le _, Nat.zero_le _, ?_⟩
      refine sp_113 hR (Nat.le_succ_of_le hN) ?_
      show R 29 32 [(0, .ref 2)] [.int (T_113 (T_50 N s)), .ref N, .ref 25] ((N + 1), hm_sh L (hm_gb g N), (T_50 N s)) _ Q
      refine hm_st hR ⟨hm_le rfl, rfl, (hm_le rfl), (hm_ltN (Nat.le_succ_of_le hN) rfl), hm_le rfl, hm_le rfl, (0, 0), Nat.zero_le _, Nat.zero_le _, ?_⟩
      refine sp_122 hR (Nat.le_succ_of_le hN) (bx := N) hbk1 hbt1 hbl1 ?_
      show R 29 35 [(0, .ref 2)] [.int (T_122 (T_50 N s) N (T_113 (T_50 N s)))] ((N + 1), hm_sh L (hm_gb g N), (T_50 N s)) _ Q
      refine hm_st hR (hm_st hR ⟨rfl, hm_le rfl, (hm_ltN (Nat.le_succ_of_le hN) rfl), ?_⟩)
      refine hm_st hR ⟨hm_le rfl, rfl, (hm_le rfl), (hm_ltN (Nat.le_succ_of_le hN) rfl), hm_le rfl, hm_le rfl, (0, 0), Nat.zero_le _, Nat.zero_le _, ?_⟩
      refine sp_158 hR (Nat.le_succ_of_le hN) ?_
      show R 29 42 [(0, .ref 2)] [.int (T_158 (T_50 N s)), .int (T_122 (T_50 N s) N (T_113 (T_50 N s)))] ((N + 1), hm_sh L (hm_gb g N), (T_50 N s)) _ Q
      show R 29 42 [(0, .ref 2)] [.int (T_158 (T_50 N s)), .int (T_122 (T_50 N s) N (T_113 (T_50 N s)))] ((N + 1), hm_sh L (hm_gb g N), (T_50 N s)) _ Q
      suffices G : ∀ w : Int32, w = (if (T_122 (T_50 N s) N (T_113 (T_50 N s))) = (T_158 (T_50 N s)) then (1 : Int32) else 0) → R 29 50 [(0, .ref 2)] [.int w] ((N + 1), hm_sh L (hm_gb g N), (T_50 N s)) (b.1 - 0 - 0 - 1 - 0 - 0 - 0, b.2 - 0 - 0 - 4 - 0 - 0 - 0) Q by
        show R 29 42 [(0, .ref 2)] [.int (T_158 (T_50 N s)), .int (T_122 (T_50 N s) N (T_113 (T_50 N s)))] ((N + 1), hm_sh L (hm_gb g N), (T_50 N s)) _ Q
        refine hm_st hR ⟨fun c => ?_, fun c => ?_⟩
        · exact hm_st hR (G _ (if_neg c).symm)
        · exact hm_st hR (hm_st hR (G _ (if_pos c).symm))
      intro w hw
      subst hw
      show R 29 50 [(0, .ref 2)] [.int (if (T_122 (T_50 N s) N (T_113 (T_50 N s))) = (T_158 (T_50 N s)) then (1 : Int32) else 0)] ((N + 1), hm_sh L (hm_gb g N), (T_50 N s)) _ Q
      exact hm_st hR ⟨fun _ => (by split <;> first | exact Or.inl rfl | exact Or.inr rfl), hm_pai hq⟩
/-- CurvekeyHouse.mix(JJ)J -/
def T_60 (s : hm_St) (p1 : Int64) (p2 : Int64) : Int64 := ((p1 * 31) + p2)
set_option maxRecDepth 20000 in
theorem sp_60 {R : hm_R} (hR : hm_Cm R) {N L : Nat} {g : Nat → hm_Sh} {s : hm_St} {b : hm_B} {Q : hm_Q} (hN : 68 ≤ N) {p1 : Int64} {p2 : Int64} (hq : Q (.inr (some (.long (T_60 s p1 p2)))) (N, hm_sh L g, s)) : R 60 0 (lv_args 0 [.long p1, .long p2]) [] (N, hm_sh L g, s) b Q := by
  unfold T_60 at hq
  show R 60 0 [(0, .long p1), (2, .long p2)] [] (N, hm_sh L g, s) _ Q
  refine hm_st hR (hm_st hR (hm_st hR (hm_st hR (hm_st hR (?_)))))
  exact hm_st hR (hq)
/-- CurvekeyHouse$Curves.factOf(II)I -/
def T_91 (s : hm_St) (p1 : Int32) (p2 : Int32) : Int32 := (T_178 s 13 24 ((p1 * 4) + p2))
set_option maxRecDepth 20000 in
theorem sp_91 {R : hm_R} (hR : hm_Cm R) {N L : Nat} {g : Nat → hm_Sh} {s : hm_St} {b : hm_B} {Q : hm_Q} (hN : 68 ≤ N) {p1 : Int32} {p2 : Int32} (hq : Q (.inr (some (.int (T_91 s p1 p2)))) (N, hm_sh L g, s)) : R 91 0 (lv_args 0 [.ref 3, .int p1, .int p2]) [] (N, hm_sh L g, s) b Q := by
  unfold T_91 at hq
  show R 91 0 [(0, .ref 3), (1, .int p1), (2, .int p2)] [] (N, hm_sh L g, s) _ Q
  refine hm_st hR (hm_st hR ⟨rfl, hm_le rfl, (hm_ltN hN rfl), hm_st hR (hm_st hR (hm_st hR (hm_st hR (hm_st hR (?_)))))⟩)
  refine hm_st hR ⟨hm_le rfl, rfl, (hm_le rfl), (hm_ltN hN rfl), hm_le rfl, hm_le rfl, (0, 0), Nat.zero_le _, Nat.zero_le _, ?_⟩
  refine sp_178 hR hN (rr := 12) (aa := 13) (nn := 24) rfl rfl (hm_le rfl) (hm_ltN hN rfl) rfl rfl (hm_le rfl) (hm_ltN hN rfl) (by decide) ?_
  show R 91 12 [(0, .ref 3), (1, .int p1), (2, .int p2)] [.int (T_178 s 13 24 ((p1 * 4) + p2))] (N, hm_sh L g, s) _ Q
  exact hm_st hR ⟨fun z => absurd z (by decide), hq⟩
def T_61_60 (O : hm_St → Int64 → Int64 → Int32 → Int64) : Nat → hm_St → Int64 → Int64 → Int32 → Int32 → Int64
  | 0, s, _, _, _, _ => 0
  | n + 1, s, v1, v3, v5, v6 => (if 4 ≤ v6 then (O s v1 v3 (v5 + 1)) else (T_61_60 O n s v1 (T_60 s v3 (((T_91 s v5 v6)).toInt64)) v5 (v6 + 1)))
def T_61_50 : Nat → hm_St → Int64 → Int64 → Int32 → Int64
  | 0, s, _, _, _ => 0
  | n + 1, s, v1, v3, v5 => (if 6 ≤ v5 then v3 else (T_61_60 (fun s v1 v3 v5 => T_61_50 n s v1 v3 v5) (hm_df 4 0 + 1) s v1 v3 v5 0))
def T_61_5 : Nat → hm_St → Int64 → Int64 → Int32 → Int64
  | 0, s, _, _, _ => 0
  | n + 1, s, v1, v3, v5 => (if 16 ≤ v5 then (T_61_50 (hm_df 6 0 + 1) s v1 v3 0) else (if 8 ≤ v5 then (T_61_5 n s v1 (T_60 s v3 (((T_56 s v5)).toInt64)) (v5 + 1)) else (T_61_5 n s v1 (T_60 s v3 (((T_55 s v5)).toInt64)) (v5 + 1))))
/-- CurvekeyHouse.mixStore(J)J -/
def T_61 (s : hm_St) (p1 : Int64) : Int64 := (T_61_5 (hm_df 16 0 + 1) s p1 p1 0)
set_option maxRecDepth 20000 in
theorem lp_61_60 {R : hm_R} (hR : hm_Cm R) {N L : Nat} {g : Nat → hm_Sh} {b : hm_B} {Q : hm_Q} (hN : 68 ≤ N) {O : hm_St → Int64 → Int64 → Int32 → Int64} {nO : Nat} (hO : ∀ (s : hm_St) (v1 : Int64) (v3 : Int64) (v5 : Int32), hm_df 6 v5 < nO → (Q (.inr (some (.long (O s v1 v3 v5)))) (N, hm_sh L g, s)) → R 61 50 [(5, .int v5), (3, .long v3), (0, .ref 2), (1, .long v1)] [] (N, hm_sh L g, s) b Q) : ∀ (n : Nat) (s : hm_St) (v1 : Int64) (v3 : Int64) (v5 : Int32) (v6 : Int32), hm_df 4 v6 < n → (hPO : hm_df 6 (v5 + 1) < nO) → (hq : Q (.inr (some (.long (T_61_60 O n s v1 v3 v5 v6)))) (N, hm_sh L g, s)) → R 61 60 [(6, .int v6), (5, .int v5), (3, .long v3), (0, .ref 2), (1, .long v1)] [] (N, hm_sh L g, s) b Q := by
  intro n
  induction n with
  | zero => intro s v1 v3 v5 v6 hm hPO _; exact absurd hm (Nat.not_lt_zero _)
  | succ n ih =>
    intro s v1 v3 v5 v6 hm hPO hq
    unfold T_61_60 at hq
    refine hm_st hR (hm_st hR (?_))
    show R 61 63 [(6, .int v6), (5, .int v5), (3, .long v3), (0, .ref 2), (1, .long v1)] [.int 4, .int v6] (N, hm_sh L g, s) _ Q
    refine hm_st hR ⟨fun c63 => ?_, fun c63 => ?_⟩
    · rw [if_pos c63] at hq
      show R 61 89 [(6, .int v6), (5, .int v5), (3, .long v3), (0, .ref 2), (1, .long v1)] [] (N, hm_sh L g, s) _ Q
      refine hm_st hR (hm_st hR (?_))
      show R 61 50 [(5, .int (v5 + 1)), (6, .int v6), (3, .long v3), (0, .ref 2), (1, .long v1)] [] (N, hm_sh L g, s) _ Q
      exact hm_lvS hR (by intro q hq; simp only [List.mem_cons, List.not_mem_nil, or_false] at hq ⊢; rcases hq with rfl | rfl | rfl | rfl <;> simp) (hO s v1 v3 (v5 + 1) hPO hq)
    · rw [if_neg c63] at hq
      show R 61 66 [(6, .int v6), (5, .int v5), (3, .long v3), (0, .ref 2), (1, .long v1)] [] (N, hm_sh L g, s) _ Q
      refine hm_st hR (hm_st hR (hm_st hR ⟨rfl, hm_le rfl, (hm_ltN hN rfl), hm_st hR (hm_st hR (?_))⟩))
      refine hm_st hR ⟨hm_le rfl, rfl, (hm_le rfl), (hm_ltN hN rfl), hm_le rfl, hm_le rfl, (0, 0), Nat.zero_le _, Nat.zero_le _, ?_⟩
      refine sp_91 hR hN ?_
      show R 61 78 [(6, .int v6), (5, .int v5), (3, .long v3), (0, .ref 2), (1, .long v1)] [.int (T_91 s v5 v6), .long v3] (N, hm_sh L g, s) _ Q
      refine hm_st hR (?_)
      refine hm_st hR ⟨hm_le rfl, hm_le rfl, hm_le rfl, (0, 0), Nat.zero_le _, Nat.zero_le _, ?_⟩
      refine sp_60 hR hN ?_
      show R 61 82 [(6, .int v6), (5, .int v5), (3, .long v3), (0, .ref 2), (1, .long v1)] [.long (T_60 s v3 (((T_91 s v5 v6)).toInt64))] (N, hm_sh L g, s) _ Q
      refine hm_st hR (hm_st hR (hm_st hR (?_)))
      show R 61 60 [(6, .int (v6 + 1)), (3, .long (T_60 s v3 (((T_91 s v5 v6)).toInt64))), (5, .int v5), (0, .ref 2), (1, .long v1)] [] (N, hm_sh L g, s) _ Q
      exact hm_lvS hR (by intro q hq; simp only [List.mem_cons, List.not_mem_nil, or_false] at hq ⊢; rcases hq with rfl | rfl | rfl | rfl | rfl <;> simp) (ih s v1 (T_60 s v3 (((T_91 s v5 v6)).toInt64)) v5 (v6 + 1) (hm_dcx c63 hm) hPO hq)
set_option maxRecDepth 20000 in
theorem lp_61_50 {R : hm_R} (hR : hm_Cm R) {N L : Nat} {g : Nat → hm_Sh} {b : hm_B} {Q : hm_Q} (hN : 68 ≤ N) : ∀ (n : Nat) (s : hm_St) (v1 : Int64) (v3 : Int64) (v5 : Int32), hm_df 6 v5 < n → (hq : Q (.inr (some (.long (T_61_50 n s v1 v3 v5)))) (N, hm_sh L g, s)) → R 61 50 [(5, .int v5), (3, .long v3), (0, .ref 2), (1, .long v1)] [] (N, hm_sh L g, s) b Q := by
  intro n
  induction n with
  | zero => intro s v1 v3 v5 hm _; exact absurd hm (Nat.not_lt_zero _)
  | succ n ih =>
    intro s v1 v3 v5 hm hq
    unfold T_61_50 at hq
    refine hm_st hR (hm_st hR (?_))
    show R 61 54 [(5, .int v5), (3, .long v3), (0, .ref 2), (1, .long v1)] [.int 6, .int v5] (N, hm_sh L g, s) _ Q
    refine hm_st hR ⟨fun c54 => ?_, fun c54 => ?_⟩
    · rw [if_pos c54] at hq
      show R 61 95 [(5, .int v5), (3, .long v3), (0, .ref 2), (1, .long v1)] [] (N, hm_sh L g, s) _ Q
      refine hm_st hR (?_)
      exact hm_st hR (hq)
    · rw [if_neg c54] at hq
      show R 61 57 [(5, .int v5), (3, .long v3), (0, .ref 2), (1, .long v1)] [] (N, hm_sh L g, s) _ Q
      refine hm_st hR (hm_st hR (?_))
      show R 61 60 [(6, .int 0), (5, .int v5), (3, .long v3), (0, .ref 2), (1, .long v1)] [] (N, hm_sh L g, s) _ Q
      exact lp_61_60 hR hN (O := (fun s v1 v3 v5 => T_61_50 n s v1 v3 v5)) (nO := n) (fun s v1 v3 v5 hm hq => ih s v1 v3 v5 hm hq) _ _ _ _ _ _ (Nat.lt_succ_self _) (hm_dcx c54 hm) hq
set_option maxRecDepth 20000 in
theorem lp_61_5 {R : hm_R} (hR : hm_Cm R) {N L : Nat} {g : Nat → hm_Sh} {b : hm_B} {Q : hm_Q} (hN : 68 ≤ N) : ∀ (n : Nat) (s : hm_St) (v1 : Int64) (v3 : Int64) (v5 : Int32), hm_df 16 v5 < n → (hq : Q (.inr (some (.long (T_61_5 n s v1 v3 v5)))) (N, hm_sh L g, s)) → R 61 5 [(5, .int v5), (3, .long v3), (0, .ref 2), (1, .long v1)] [] (N, hm_sh L g, s) b Q := by
  intro n
  induction n with
  | zero => intro s v1 v3 v5 hm _; exact absurd hm (Nat.not_lt_zero _)
  | succ n ih =>
    intro s v1 v3 v5 hm hq
    unfold T_61_5 at hq
    refine hm_st hR (hm_st hR (?_))
    show R 61 9 [(5, .int v5), (3, .long v3), (0, .ref 2), (1, .long v1)] [.int 16, .int v5] (N, hm_sh L g, s) _ Q
    refine hm_st hR ⟨fun c9 => ?_, fun c9 => ?_⟩
    · rw [if_pos c9] at hq
      show R 61 47 [(5, .int v5), (3, .long v3), (0, .ref 2), (1, .long v1)] [] (N, hm_sh L g, s) _ Q
      refine hm_st hR (hm_st hR (?_))
      show R 61 50 [(5, .int 0), (3, .long v3), (0, .ref 2), (1, .long v1)] [] (N, hm_sh L g, s) _ Q
      exact lp_61_50 hR hN _ _ _ _ _ (Nat.lt_succ_self _) hq
    · rw [if_neg c9] at hq
      show R 61 12 [(5, .int v5), (3, .long v3), (0, .ref 2), (1, .long v1)] [] (N, hm_sh L g, s) _ Q
      refine hm_st hR (hm_st hR (hm_st hR (?_)))
      show R 61 17 [(5, .int v5), (3, .long v3), (0, .ref 2), (1, .long v1)] [.int 8, .int v5, .long v3] (N, hm_sh L g, s) _ Q
      refine hm_st hR ⟨fun c17 => ?_, fun c17 => ?_⟩
      · rw [if_pos c17] at hq
        show R 61 30 [(5, .int v5), (3, .long v3), (0, .ref 2), (1, .long v1)] [.long v3] (N, hm_sh L g, s) _ Q
        refine hm_st hR (hm_st hR (?_))
        refine hm_st hR ⟨hm_le rfl, rfl, (hm_le rfl), (hm_ltN hN rfl), hm_le rfl, hm_le rfl, (0, 0), Nat.zero_le _, Nat.zero_le _, ?_⟩
        refine sp_56 hR hN ?_
        show R 61 36 [(5, .int v5), (3, .long v3), (0, .ref 2), (1, .long v1)] [.int (T_56 s v5), .long v3] (N, hm_sh L g, s) _ Q
        refine hm_st hR (?_)
        refine hm_st hR ⟨hm_le rfl, hm_le rfl, hm_le rfl, (0, 0), Nat.zero_le _, Nat.zero_le _, ?_⟩
        refine sp_60 hR hN ?_
        show R 61 40 [(5, .int v5), (3, .long v3), (0, .ref 2), (1, .long v1)] [.long (T_60 s v3 (((T_56 s v5)).toInt64))] (N, hm_sh L g, s) _ Q
        refine hm_st hR (hm_st hR (hm_st hR (?_)))
        show R 61 5 [(5, .int (v5 + 1)), (3, .long (T_60 s v3 (((T_56 s v5)).toInt64))), (0, .ref 2), (1, .long v1)] [] (N, hm_sh L g, s) _ Q
        exact hm_lvS hR (by intro q hq; simp only [List.mem_cons, List.not_mem_nil, or_false] at hq ⊢; rcases hq with rfl | rfl | rfl | rfl <;> simp) (ih s v1 (T_60 s v3 (((T_56 s v5)).toInt64)) (v5 + 1) (hm_dcx c9 hm) hq)
      · rw [if_neg c17] at hq
        show R 61 20 [(5, .int v5), (3, .long v3), (0, .ref 2), (1, .long v1)] [.long v3] (N, hm_sh L g, s) _ Q
        refine hm_st hR (hm_st hR (?_))
        refine hm_st hR ⟨hm_le rfl, rfl, (hm_le rfl), (hm_ltN hN rfl), hm_le rfl, hm_le rfl, (0, 0), Nat.zero_le _, Nat.zero_le _, ?_⟩
        refine sp_55 hR hN ?_
        show R 61 26 [(5, .int v5), (3, .long v3), (0, .ref 2), (1, .long v1)] [.int (T_55 s v5), .long v3] (N, hm_sh L g, s) _ Q
        refine hm_st hR (hm_st hR (?_))
        refine hm_st hR ⟨hm_le rfl, hm_le rfl, hm_le rfl, (0, 0), Nat.zero_le _, Nat.zero_le _, ?_⟩
        refine sp_60 hR hN ?_
        show R 61 40 [(5, .int v5), (3, .long v3), (0, .ref 2), (1, .long v1)] [.long (T_60 s v3 (((T_55 s v5)).toInt64))] (N, hm_sh L g, s) _ Q
        refine hm_st hR (hm_st hR (hm_st hR (?_)))
        show R 61 5 [(5, .int (v5 + 1)), (3, .long (T_60 s v3 (((T_55 s v5)).toInt64))), (0, .ref 2), (1, .long v1)] [] (N, hm_sh L g, s) _ Q
        exact hm_lvS hR (by intro q hq; simp only [List.mem_cons, List.not_mem_nil, or_false] at hq ⊢; rcases hq with rfl | rfl | rfl | rfl <;> simp) (ih s v1 (T_60 s v3 (((T_55 s v5)).toInt64)) (v5 + 1) (hm_dcx c9 hm) hq)
set_option maxRecDepth 20000 in
theorem sp_61 {R : hm_R} (hR : hm_Cm R) {N L : Nat} {g : Nat → hm_Sh} {s : hm_St} {b : hm_B} {Q : hm_Q} (hN : 68 ≤ N) {p1 : Int64} (hq : Q (.inr (some (.long (T_61 s p1)))) (N, hm_sh L g, s)) : R 61 0 (lv_args 0 [.ref 2, .long p1]) [] (N, hm_sh L g, s) b Q := by
  unfold T_61 at hq
  show R 61 0 [(0, .ref 2), (1, .long p1)] [] (N, hm_sh L g, s) _ Q
  refine hm_st hR (hm_st hR (hm_st hR (hm_st hR (?_))))
  show R 61 5 [(5, .int 0), (3, .long p1), (0, .ref 2), (1, .long p1)] [] (N, hm_sh L g, s) _ Q
  exact lp_61_5 hR hN _ _ _ _ _ (Nat.lt_succ_self _) hq
def T_62_20 (O : hm_St → Int64 → Int64 → Int32 → Int64) : Nat → hm_St → Int64 → Int64 → Int32 → Int32 → Int64
  | 0, s, _, _, _, _ => 0
  | n + 1, s, v1, v3, v5, v6 => (if 10 ≤ v6 then (O s v1 v3 (v5 + 1)) else (T_62_20 O n s v1 (T_60 s v3 (((T_53 s v5 v6)).toInt64)) v5 (v6 + 1)))
def T_62_5 : Nat → hm_St → Int64 → Int64 → Int32 → Int64
  | 0, s, _, _, _ => 0
  | n + 1, s, v1, v3, v5 => (if (T_157 s) ≤ v5 then v3 else (T_62_20 (fun s v1 v3 v5 => T_62_5 n s v1 v3 v5) (hm_df 10 0 + 1) s v1 v3 v5 0))
/-- CurvekeyHouse.mixPoints(J)J -/
def T_62 (s : hm_St) (p1 : Int64) : Int64 := (T_62_5 (hm_df (T_157 s) 0 + 1) s p1 p1 0)
set_option maxRecDepth 20000 in
theorem lp_62_20 {R : hm_R} (hR : hm_Cm R) {N L : Nat} {g : Nat → hm_Sh} {b : hm_B} {Q : hm_Q} (hN : 68 ≤ N) {O : hm_St → Int64 → Int64 → Int32 → Int64} {nO : Nat} (hO : ∀ (s : hm_St) (v1 : Int64) (v3 : Int64) (v5 : Int32), hm_df (T_157 s) v5 < nO → (Q (.inr (some (.long (O s v1 v3 v5)))) (N, hm_sh L g, s)) → R 62 5 [(5, .int v5), (3, .long v3), (0, .ref 2), (1, .long v1)] [] (N, hm_sh L g, s) b Q) : ∀ (n : Nat) (s : hm_St) (v1 : Int64) (v3 : Int64) (v5 : Int32) (v6 : Int32), hm_df 10 v6 < n → (hPO : hm_df (T_157 s) (v5 + 1) < nO) → (hq : Q (.inr (some (.long (T_62_20 O n s v1 v3 v5 v6)))) (N, hm_sh L g, s)) → R 62 20 [(6, .int v6), (5, .int v5), (3, .long v3), (0, .ref 2), (1, .long v1)] [] (N, hm_sh L g, s) b Q := by
  intro n
  induction n with
  | zero => intro s v1 v3 v5 v6 hm hPO _; exact absurd hm (Nat.not_lt_zero _)
  | succ n ih =>
    intro s v1 v3 v5 v6 hm hPO hq
    unfold T_62_20 at hq
    refine hm_st hR (hm_st hR (?_))
    show R 62 24 [(6, .int v6), (5, .int v5), (3, .long v3), (0, .ref 2), (1, .long v1)] [.int 10, .int v6] (N, hm_sh L g, s) _ Q
    refine hm_st hR ⟨fun c24 => ?_, fun c24 => ?_⟩
    · rw [if_pos c24] at hq
      show R 62 47 [(6, .int v6), (5, .int v5), (3, .long v3), (0, .ref 2), (1, .long v1)] [] (N, hm_sh L g, s) _ Q
      refine hm_st hR (hm_st hR (?_))
      show R 62 5 [(5, .int (v5 + 1)), (6, .int v6), (3, .long v3), (0, .ref 2), (1, .long v1)] [] (N, hm_sh L g, s) _ Q
      exact hm_lvS hR (by intro q hq; simp only [List.mem_cons, List.not_mem_nil, or_false] at hq ⊢; rcases hq with rfl | rfl | rfl | rfl <;> simp) (hO s v1 v3 (v5 + 1) hPO hq)
    · rw [if_neg c24] at hq
      show R 62 27 [(6, .int v6), (5, .int v5), (3, .long v3), (0, .ref 2), (1, .long v1)] [] (N, hm_sh L g, s) _ Q
      refine hm_st hR (hm_st hR (hm_st hR (hm_st hR (?_))))
      refine hm_st hR ⟨hm_le rfl, rfl, (hm_le rfl), (hm_ltN hN rfl), hm_le rfl, hm_le rfl, (0, 0), Nat.zero_le _, Nat.zero_le _, ?_⟩
      refine sp_53 hR hN ?_
      show R 62 36 [(6, .int v6), (5, .int v5), (3, .long v3), (0, .ref 2), (1, .long v1)] [.int (T_53 s v5 v6), .long v3] (N, hm_sh L g, s) _ Q
      refine hm_st hR (?_)
      refine hm_st hR ⟨hm_le rfl, hm_le rfl, hm_le rfl, (0, 0), Nat.zero_le _, Nat.zero_le _, ?_⟩
      refine sp_60 hR hN ?_
      show R 62 40 [(6, .int v6), (5, .int v5), (3, .long v3), (0, .ref 2), (1, .long v1)] [.long (T_60 s v3 (((T_53 s v5 v6)).toInt64))] (N, hm_sh L g, s) _ Q
      refine hm_st hR (hm_st hR (hm_st hR (?_)))
      show R 62 20 [(6, .int (v6 + 1)), (3, .long (T_60 s v3 (((T_53 s v5 v6)).toInt64))), (5, .int v5), (0, .ref 2), (1, .long v1)] [] (N, hm_sh L g, s) _ Q
      exact hm_lvS hR (by intro q hq; simp only [List.mem_cons, List.not_mem_nil, or_false] at hq ⊢; rcases hq with rfl | rfl | rfl | rfl | rfl <;> simp) (ih s v1 (T_60 s v3 (((T_53 s v5 v6)).toInt64)) v5 (v6 + 1) (hm_dcx c24 hm) hPO hq)
set_option maxRecDepth 20000 in
theorem lp_62_5 {R : hm_R} (hR : hm_Cm R) {N L : Nat} {g : Nat → hm_Sh} {b : hm_B} {Q : hm_Q} (hN : 68 ≤ N) : ∀ (n : Nat) (s : hm_St) (v1 : Int64) (v3 : Int64) (v5 : Int32), hm_df (T_157 s) v5 < n → (hq : Q (.inr (some (.long (T_62_5 n s v1 v3 v5)))) (N, hm_sh L g, s)) → R 62 5 [(5, .int v5), (3, .long v3), (0, .ref 2), (1, .long v1)] [] (N, hm_sh L g, s) b Q := by
  intro n
  induction n with
  | zero => intro s v1 v3 v5 hm _; exact absurd hm (Nat.not_lt_zero _)
  | succ n ih =>
    intro s v1 v3 v5 hm hq
    unfold T_62_5 at hq
    refine hm_st hR (hm_st hR (hm_st hR ⟨rfl, hm_le rfl, (hm_ltN hN rfl), ?_⟩))
    refine hm_st hR ⟨hm_le rfl, rfl, (hm_le rfl), (hm_ltN hN rfl), hm_le rfl, hm_le rfl, (0, 0), Nat.zero_le _, Nat.zero_le _, ?_⟩
    refine sp_157 hR hN ?_
    show R 62 14 [(5, .int v5), (3, .long v3), (0, .ref 2), (1, .long v1)] [.int (T_157 s), .int v5] (N, hm_sh L g, s) _ Q
    show R 62 14 [(5, .int v5), (3, .long v3), (0, .ref 2), (1, .long v1)] [.int (T_157 s), .int v5] (N, hm_sh L g, s) _ Q
    refine hm_st hR ⟨fun c14 => ?_, fun c14 => ?_⟩
    · rw [if_pos c14] at hq
      show R 62 53 [(5, .int v5), (3, .long v3), (0, .ref 2), (1, .long v1)] [] (N, hm_sh L g, s) _ Q
      refine hm_st hR (?_)
      exact hm_st hR (hq)
    · rw [if_neg c14] at hq
      show R 62 17 [(5, .int v5), (3, .long v3), (0, .ref 2), (1, .long v1)] [] (N, hm_sh L g, s) _ Q
      refine hm_st hR (hm_st hR (?_))
      show R 62 20 [(6, .int 0), (5, .int v5), (3, .long v3), (0, .ref 2), (1, .long v1)] [] (N, hm_sh L g, s) _ Q
      exact lp_62_20 hR hN (O := (fun s v1 v3 v5 => T_62_5 n s v1 v3 v5)) (nO := n) (fun s v1 v3 v5 hm hq => ih s v1 v3 v5 hm hq) _ _ _ _ _ _ (Nat.lt_succ_self _) (hm_dcx c14 hm) hq
set_option maxRecDepth 20000 in
theorem sp_62 {R : hm_R} (hR : hm_Cm R) {N L : Nat} {g : Nat → hm_Sh} {s : hm_St} {b : hm_B} {Q : hm_Q} (hN : 68 ≤ N) {p1 : Int64} (hq : Q (.inr (some (.long (T_62 s p1)))) (N, hm_sh L g, s)) : R 62 0 (lv_args 0 [.ref 2, .long p1]) [] (N, hm_sh L g, s) b Q := by
  unfold T_62 at hq
  show R 62 0 [(0, .ref 2), (1, .long p1)] [] (N, hm_sh L g, s) _ Q
  refine hm_st hR (hm_st hR (hm_st hR (hm_st hR (?_))))
  show R 62 5 [(5, .int 0), (3, .long p1), (0, .ref 2), (1, .long p1)] [] (N, hm_sh L g, s) _ Q
  exact lp_62_5 hR hN _ _ _ _ _ (Nat.lt_succ_self _) hq
