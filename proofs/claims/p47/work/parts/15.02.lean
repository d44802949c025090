/-! The methods as functions; the abstract machine does them. -/
def T_99_19 (O : hm_St → Int32 → Int32 → Int32 → Int32 → hm_St) : Nat → hm_St → Int32 → Int32 → Int32 → Int32 → Int32 → hm_St
  | 0, s, _, _, _, _, _ => s
  | n + 1, s, v1, v2, v3, v4, v5 => (if (s 3 6) ≤ v5 then (O s v1 v2 v3 (v4 + 1)) else (if (s 3 6) ≤ (v5 + 1) then (if (s 3 6) ≤ (v4 + 1) then (T_99_19 O n s v1 (hm_max v2 (hm_max 0 0)) (v3 + (0 + 0)) v4 (v5 + 1)) else (T_99_19 O n s v1 (hm_max v2 (hm_max 0 (hm_abs ((T_88 s v1 v5 v4) - (T_88 s v1 v5 (v4 + 1)))))) (v3 + (0 + (hm_abs ((T_88 s v1 v5 v4) - (T_88 s v1 v5 (v4 + 1)))))) v4 (v5 + 1))) else (if (s 3 6) ≤ (v4 + 1) then (T_99_19 O n s v1 (hm_max v2 (hm_max (hm_abs ((T_88 s v1 v5 v4) - (T_88 s v1 (v5 + 1) v4))) 0)) (v3 + ((hm_abs ((T_88 s v1 v5 v4) - (T_88 s v1 (v5 + 1) v4))) + 0)) v4 (v5 + 1)) else (T_99_19 O n s v1 (hm_max v2 (hm_max (hm_abs ((T_88 s v1 v5 v4) - (T_88 s v1 (v5 + 1) v4))) (hm_abs ((T_88 s v1 v5 v4) - (T_88 s v1 v5 (v4 + 1)))))) (v3 + ((hm_abs ((T_88 s v1 v5 v4) - (T_88 s v1 (v5 + 1) v4))) + (hm_abs ((T_88 s v1 v5 v4) - (T_88 s v1 v5 (v4 + 1)))))) v4 (v5 + 1)))))
def T_99_7 : Nat → hm_St → Int32 → Int32 → Int32 → Int32 → hm_St
  | 0, s, _, _, _, _ => s
  | n + 1, s, v1, v2, v3, v4 => (if (s 3 6) ≤ v4 then (T_179 (T_179 s 13 24 ((v1 * 4) + 1) v2) 13 24 ((v1 * 4) + 2) v3) else (T_99_19 (fun s v1 v2 v3 v4 => T_99_7 n s v1 v2 v3 v4) (hm_df (s 3 6) 0 + 1) s v1 v2 v3 v4 0))
/-- CurvekeyHouse$Curves.weighNeighbours(I)V -/
def T_99 (s : hm_St) (p1 : Int32) : hm_St := (T_99_7 (hm_df (s 3 6) 0 + 1) s p1 0 0 0)
theorem N_99_19 (O : hm_St → Int32 → Int32 → Int32 → Int32 → hm_St) {c j : Nat} (hOO : ∀ (s : hm_St) (o0 o1 o2 o3 : Int32), (O s o0 o1 o2 o3) c j = s c j) (h13 : c ≠ 13) : ∀ (n : Nat) (s : hm_St) (v0 v1 v2 v3 v4 : Int32), (T_99_19 O n s v0 v1 v2 v3 v4) c j = s c j := by
  intro n
  induction n with
  | zero => intros; rfl
  | succ n ih =>
    intros
    unfold T_99_19
    repeat' split
    all_goals first | with_reducible rfl | simp only [ih, hOO, hm_w1n h13, N_179 h13]
theorem N_99_7 {c j : Nat} (h13 : c ≠ 13) : ∀ (n : Nat) (s : hm_St) (v0 v1 v2 v3 : Int32), (T_99_7  n s v0 v1 v2 v3) c j = s c j := by
  intro n
  induction n with
  | zero => intros; rfl
  | succ n ih =>
    intros
    unfold T_99_7
    repeat' split
    all_goals first | with_reducible rfl | simp only [ih, hm_w1n h13, N_179 h13, N_99_19 _ (fun s o0 o1 o2 o3 => ih s o0 o1 o2 o3) h13]
theorem N_99 {c j : Nat} (h13 : c ≠ 13) {s : hm_St} {p1 : Int32} : (T_99 s p1) c j = s c j := by
  unfold T_99
  repeat' split
  all_goals first | with_reducible rfl | simp only [hm_w1n h13, N_179 h13, N_99_7 h13]
set_option maxRecDepth 20000 in
theorem lp_99_19 {R : hm_R} (hR : hm_Cm R) {N L : Nat} {g : Nat → hm_Sh} {b : hm_B} {Q : hm_Q} (hN : 68 ≤ N) {O : hm_St → Int32 → Int32 → Int32 → Int32 → hm_St} {nO : Nat} (hO : ∀ (s : hm_St) (v1 : Int32) (v2 : Int32) (v3 : Int32) (v4 : Int32), hm_df (s 3 6) v4 < nO → (Q (.inr none) (N, hm_sh L g, (O s v1 v2 v3 v4))) → R 99 7 [(4, .int v4), (3, .int v3), (2, .int v2), (0, .ref 3), (1, .int v1)] [] (N, hm_sh L g, s) b Q) : ∀ (n : Nat) (s : hm_St) (v1 : Int32) (v2 : Int32) (v3 : Int32) (v4 : Int32) (v5 : Int32), hm_df (s 3 6) v5 < n → (hPO : hm_df (s 3 6) (v4 + 1) < nO) → (hq : Q (.inr none) (N, hm_sh L g, (T_99_19 O n s v1 v2 v3 v4 v5))) → R 99 19 [(5, .int v5), (4, .int v4), (3, .int v3), (2, .int v2), (0, .ref 3), (1, .int v1)] [] (N, hm_sh L g, s) b Q := by
  intro n
  induction n with
  | zero => intro s v1 v2 v3 v4 v5 hm hPO _; exact absurd hm (Nat.not_lt_zero _)
  | succ n ih =>
    intro s v1 v2 v3 v4 v5 hm hPO hq
    unfold T_99_19 at hq
    refine hm_st hR (hm_st hR (hm_st hR ⟨rfl, hm_le rfl, (hm_ltN hN rfl), ?_⟩))
    show R 99 25 [(5, .int v5), (4, .int v4), (3, .int v3), (2, .int v2), (0, .ref 3), (1, .int v1)] [.int (s 3 6), .int v5] (N, hm_sh L g, s) _ Q
    refine hm_st hR ⟨fun c25 => ?_, fun c25 => ?_⟩
    · rw [if_pos c25] at hq
      show R 99 136 [(5, .int v5), (4, .int v4), (3, .int v3), (2, .int v2), (0, .ref 3), (1, .int v1)] [] (N, hm_sh L g, s) _ Q
      refine hm_st hR (hm_st hR (?_))
      show R 99 7 [(4, .int (v4 + 1)), (5, .int v5), (3, .int v3), (2, .int v2), (0, .ref 3), (1, .int v1)] [] (N, hm_sh L g, s) _ Q
      exact hm_lvS hR (by intro q hq; simp only [List.mem_cons, List.not_mem_nil, or_false] at hq ⊢; rcases hq with rfl | rfl | rfl | rfl | rfl <;> simp) (hO s v1 v2 v3 (v4 + 1) hPO hq)
    · rw [if_neg c25] at hq
      show R 99 28 [(5, .int v5), (4, .int v4), (3, .int v3), (2, .int v2), (0, .ref 3), (1, .int v1)] [] (N, hm_sh L g, s) _ Q
      refine hm_st hR (hm_st hR (hm_st hR (hm_st hR (hm_st hR ⟨rfl, hm_le rfl, (hm_ltN hN rfl), ?_⟩))))
      show R 99 36 [(5, .int v5), (4, .int v4), (3, .int v3), (2, .int v2), (0, .ref 3), (1, .int v1)] [.int (s 3 6), .int (v5 + 1)] (N, hm_sh L g, s) _ Q
      refine hm_st hR ⟨fun c36 => ?_, fun c36 => ?_⟩
      · rw [if_pos c36] at hq
        show R 99 66 [(5, .int v5), (4, .int v4), (3, .int v3), (2, .int v2), (0, .ref 3), (1, .int v1)] [] (N, hm_sh L g, s) _ Q
        refine hm_st hR (hm_st hR (hm_st hR (hm_st hR (hm_st hR (hm_st hR (hm_st hR ⟨rfl, hm_le rfl, (hm_ltN hN rfl), ?_⟩))))))
        show R 99 77 [(6, .int 0), (5, .int v5), (4, .int v4), (3, .int v3), (2, .int v2), (0, .ref 3), (1, .int v1)] [.int (s 3 6), .int (v4 + 1)] (N, hm_sh L g, s) _ Q
        refine hm_st hR ⟨fun c77 => ?_, fun c77 => ?_⟩
        · rw [if_pos c77] at hq
          show R 99 107 [(6, .int 0), (5, .int v5), (4, .int v4), (3, .int v3), (2, .int v2), (0, .ref 3), (1, .int v1)] [] (N, hm_sh L g, s) _ Q
          refine hm_st hR (hm_st hR (hm_st hR (hm_st hR (hm_st hR (hm_st hR ⟨hm_le rfl, ?_⟩)))))
          show R 99 118 [(7, .int 0), (6, .int 0), (5, .int v5), (4, .int v4), (3, .int v3), (2, .int v2), (0, .ref 3), (1, .int v1)] [.int (hm_max 0 0), .int v2] (N, hm_sh L g, s) _ Q
          refine hm_st hR ⟨hm_le rfl, ?_⟩
          show R 99 121 [(7, .int 0), (6, .int 0), (5, .int v5), (4, .int v4), (3, .int v3), (2, .int v2), (0, .ref 3), (1, .int v1)] [.int (hm_max v2 (hm_max 0 0))] (N, hm_sh L g, s) _ Q
          refine hm_st hR (hm_st hR (hm_st hR (hm_st hR (hm_st hR (hm_st hR (hm_st hR (hm_st hR (hm_st hR (?_)))))))))
          show R 99 19 [(5, .int (v5 + 1)), (3, .int (v3 + (0 + 0))), (2, .int (hm_max v2 (hm_max 0 0))), (7, .int 0), (6, .int 0), (4, .int v4), (0, .ref 3), (1, .int v1)] [] (N, hm_sh L g, s) _ Q
          exact hm_lvS hR (by intro q hq; simp only [List.mem_cons, List.not_mem_nil, or_false] at hq ⊢; rcases hq with rfl | rfl | rfl | rfl | rfl | rfl <;> simp) (ih s v1 (hm_max v2 (hm_max 0 0)) (v3 + (0 + 0)) v4 (v5 + 1) (hm_dcx c25 hm) hPO hq)
        · rw [if_neg c77] at hq
          show R 99 80 [(6, .int 0), (5, .int v5), (4, .int v4), (3, .int v3), (2, .int v2), (0, .ref 3), (1, .int v1)] [] (N, hm_sh L g, s) _ Q
          refine hm_st hR (hm_st hR (hm_st hR (hm_st hR (?_))))
          refine hm_st hR ⟨hm_le rfl, rfl, (hm_le rfl), (hm_ltN hN rfl), hm_le rfl, hm_le rfl, (0, 0), Nat.zero_le _, Nat.zero_le _, ?_⟩
          refine sp_88 hR hN ?_
          show R 99 89 [(6, .int 0), (5, .int v5), (4, .int v4), (3, .int v3), (2, .int v2), (0, .ref 3), (1, .int v1)] [.int (T_88 s v1 v5 v4)] (N, hm_sh L g, s) _ Q
          refine hm_st hR (hm_st hR (hm_st hR (hm_st hR (hm_st hR (hm_st hR (?_))))))
          refine hm_st hR ⟨hm_le rfl, rfl, (hm_le rfl), (hm_ltN hN rfl), hm_le rfl, hm_le rfl, (0, 0), Nat.zero_le _, Nat.zero_le _, ?_⟩
          refine sp_88 hR hN ?_
          show R 99 100 [(6, .int 0), (5, .int v5), (4, .int v4), (3, .int v3), (2, .int v2), (0, .ref 3), (1, .int v1)] [.int (T_88 s v1 v5 (v4 + 1)), .int (T_88 s v1 v5 v4)] (N, hm_sh L g, s) _ Q
          refine hm_st hR (hm_st hR ⟨hm_le rfl, ?_⟩)
          show R 99 104 [(6, .int 0), (5, .int v5), (4, .int v4), (3, .int v3), (2, .int v2), (0, .ref 3), (1, .int v1)] [.int (hm_abs ((T_88 s v1 v5 v4) - (T_88 s v1 v5 (v4 + 1))))] (N, hm_sh L g, s) _ Q
          refine hm_st hR (hm_st hR (hm_st hR (hm_st hR (hm_st hR (hm_st hR ⟨hm_le rfl, ?_⟩)))))
          show R 99 118 [(7, .int (hm_abs ((T_88 s v1 v5 v4) - (T_88 s v1 v5 (v4 + 1))))), (6, .int 0), (5, .int v5), (4, .int v4), (3, .int v3), (2, .int v2), (0, .ref 3), (1, .int v1)] [.int (hm_max 0 (hm_abs ((T_88 s v1 v5 v4) - (T_88 s v1 v5 (v4 + 1))))), .int v2] (N, hm_sh L g, s) _ Q
          refine hm_st hR ⟨hm_le rfl, ?_⟩
          show R 99 121 [(7, .int (hm_abs ((T_88 s v1 v5 v4) - (T_88 s v1 v5 (v4 + 1))))), (6, .int 0), (5, .int v5), (4, .int v4), (3, .int v3), (2, .int v2), (0, .ref 3), (1, .int v1)] [.int (hm_max v2 (hm_max 0 (hm_abs ((T_88 s v1 v5 v4) - (T_88 s v1 v5 (v4 + 1))))))] (N, hm_sh L g, s) _ Q
          refine hm_st hR (hm_st hR (hm_st hR (hm_st hR (hm_st hR (hm_st hR (hm_st hR (hm_st hR (hm_st hR (?_)))))))))
          show R 99 19 [(5, .int (v5 + 1)), (3, .int (v3 + (0 + (hm_abs ((T_88 s v1 v5 v4) - (T_88 s v1 v5 (v4 + 1))))))), (2, .int (hm_max v2 (hm_max 0 (hm_abs ((T_88 s v1 v5 v4) - (T_88 s v1 v5 (v4 + 1))))))), (7, .int (hm_abs ((T_88 s v1 v5 v4) - (T_88 s v1 v5 (v4 + 1))))), (6, .int 0), (4, .int v4), (0, .ref 3), (1, .int v1)] [] (N, hm_sh L g, s) _ Q
          exact hm_lvS hR (by intro q hq; simp only [List.mem_cons, List.not_mem_nil, or_false] at hq ⊢; rcases hq with rfl | rfl | rfl | rfl | rfl | rfl <;> simp) (ih s v1 (hm_max v2 (hm_max 0 (hm_abs ((T_88 s v1 v5 v4) - (T_88 s v1 v5 (v4 + 1)))))) (v3 + (0 + (hm_abs ((T_88 s v1 v5 v4) - (T_88 s v1 v5 (v4 + 1)))))) v4 (v5 + 1) (hm_dcx c25 hm) hPO hq)
      · rw [if_neg c36] at hq
        show R 99 39 [(5, .int v5), (4, .int v4), (3, .int v3), (2, .int v2), (0, .ref 3), (1, .int v1)] [] (N, hm_sh L g, s) _ Q
        refine hm_st hR (hm_st hR (hm_st hR (hm_st hR (?_))))
        refine hm_st hR ⟨hm_le rfl, rfl, (hm_le rfl), (hm_ltN hN rfl), hm_le rfl, hm_le rfl, (0, 0), Nat.zero_le _, Nat.zero_le _, ?_⟩
        refine sp_88 hR hN ?_
        show R 99 48 [(5, .int v5), (4, .int v4), (3, .int v3), (2, .int v2), (0, .ref 3), (1, .int v1)] [.int (T_88 s v1 v5 v4)] (N, hm_sh L g, s) _ Q
        refine hm_st hR (hm_st hR (hm_st hR (hm_st hR (hm_st hR (hm_st hR (?_))))))
        refine hm_st hR ⟨hm_le rfl, rfl, (hm_le rfl), (hm_ltN hN rfl), hm_le rfl, hm_le rfl, (0, 0), Nat.zero_le _, Nat.zero_le _, ?_⟩
        refine sp_88 hR hN ?_
        show R 99 59 [(5, .int v5), (4, .int v4), (3, .int v3), (2, .int v2), (0, .ref 3), (1, .int v1)] [.int (T_88 s v1 (v5 + 1) v4), .int (T_88 s v1 v5 v4)] (N, hm_sh L g, s) _ Q
        refine hm_st hR (hm_st hR ⟨hm_le rfl, ?_⟩)
        show R 99 63 [(5, .int v5), (4, .int v4), (3, .int v3), (2, .int v2), (0, .ref 3), (1, .int v1)] [.int (hm_abs ((T_88 s v1 v5 v4) - (T_88 s v1 (v5 + 1) v4)))] (N, hm_sh L g, s) _ Q
        refine hm_st hR (hm_st hR (hm_st hR (hm_st hR (hm_st hR (hm_st hR (hm_st hR ⟨rfl, hm_le rfl, (hm_ltN hN rfl), ?_⟩))))))
        show R 99 77 [(6, .int (hm_abs ((T_88 s v1 v5 v4) - (T_88 s v1 (v5 + 1) v4)))), (5, .int v5), (4, .int v4), (3, .int v3), (2, .int v2), (0, .ref 3), (1, .int v1)] [.int (s 3 6), .int (v4 + 1)] (N, hm_sh L g, s) _ Q
        refine hm_st hR ⟨fun c77 => ?_, fun c77 => ?_⟩
        · rw [if_pos c77] at hq
          show R 99 107 [(6, .int (hm_abs ((T_88 s v1 v5 v4) - (T_88 s v1 (v5 + 1) v4)))), (5, .int v5), (4, .int v4), (3, .int v3), (2, .int v2), (0, .ref 3), (1, .int v1)] [] (N, hm_sh L g, s) _ Q
          refine hm_st hR (hm_st hR (hm_st hR (hm_st hR (hm_st hR (hm_st hR ⟨hm_le rfl, ?_⟩)))))
          show R 99 118 [(7, .int 0), (6, .int (hm_abs ((T_88 s v1 v5 v4) - (T_88 s v1 (v5 + 1) v4)))), (5, .int v5), (4, .int v4), (3, .int v3), (2, .int v2), (0, .ref 3), (1, .int v1)] [.int (hm_max (hm_abs ((T_88 s v1 v5 v4) - (T_88 s v1 (v5 + 1) v4))) 0), .int v2] (N, hm_sh L g, s) _ Q
          refine hm_st hR ⟨hm_le rfl, ?_⟩
          show R 99 121 [(7, .int 0), (6, .int (hm_abs ((T_88 s v1 v5 v4) - (T_88 s v1 (v5 + 1) v4)))), (5, .int v5), (4, .int v4), (3, .int v3), (2, .int v2), (0, .ref 3), (1, .int v1)] [.int (hm_max v2 (hm_max (hm_abs ((T_88 s v1 v5 v4) - (T_88 s v1 (v5 + 1) v4))) 0))] (N, hm_sh L g, s) _ Q
          refine hm_st hR (hm_st hR (hm_st hR (hm_st hR (hm_st hR (hm_st hR (hm_st hR (hm_st hR (hm_st hR (?_)))))))))
          show R 99 19 [(5, .int (v5 + 1)), (3, .int (v3 + ((hm_abs ((T_88 s v1 v5 v4) - (T_88 s v1 (v5 + 1) v4))) + 0))), (2, .int (hm_max v2 (hm_max (hm_abs ((T_88 s v1 v5 v4) - (T_88 s v1 (v5 + 1) v4))) 0))), (7, .int 0), (6, .int (hm_abs ((T_88 s v1 v5 v4) - (T_88 s v1 (v5 + 1) v4)))), (4, .int v4), (0, .ref 3), (1, .int v1)] [] (N, hm_sh L g, s) _ Q
          exact hm_lvS hR (by intro q hq; simp only [List.mem_cons, List.not_mem_nil, or_false] at hq ⊢; rcases hq with rfl | rfl | rfl | rfl | rfl | rfl <;> simp) (ih s v1 (hm_max v2 (hm_max (hm_abs ((T_88 s v1 v5 v4) - (T_88 s v1 (v5 + 1) v4))) 0)) (v3 + ((hm_abs ((T_88 s v1 v5 v4) - (T_88 s v1 (v5 + 1) v4))) + 0)) v4 (v5 + 1) (hm_dcx c25 hm) hPO hq)
        · rw [if_neg c77] at hq
          show R 99 80 [(6, .int (hm_abs ((T_88 s v1 v5 v4) - (T_88 s v1 (v5 + 1) v4)))), (5, .int v5), (4, .int v4), (3, .int v3), (2, .int v2), (0, .ref 3), (1, .int v1)] [] (N, hm_sh L g, s) _ Q
          refine hm_st hR (hm_st hR (hm_st hR (hm_st hR (?_))))
          refine hm_st hR ⟨hm_le rfl, rfl, (hm_le rfl), (hm_ltN hN rfl), hm_le rfl, hm_le rfl, (0, 0), Nat.zero_le _, Nat.zero_le _, ?_⟩
          refine sp_88 hR hN ?_
          show R 99 89 [(6, .int (hm_abs ((T_88 s v1 v5 v4) - (T_88 s v1 (v5 + 1) v4)))), (5, .int v5), (4, .int v4), (3, .int v3), (2, .int v2), (0, .ref 3), (1, .int v1)] [.int (T_88 s v1 v5 v4)] (N, hm_sh L g, s) _ Q
          refine hm_st hR (hm_st hR (hm_st hR (hm_st hR (hm_st hR (hm_st hR (?_))))))
          refine hm_st hR ⟨hm_le rfl, rfl, (hm_le rfl), (hm_ltN hN rfl), hm_le rfl, hm_le rfl, (0, 0), Nat.zero_le _, Nat.zero_le _, ?_⟩
          refine sp_88 hR hN ?_
          show R 99 100 [(6, .int (hm_abs ((T_88 s v1 v5 v4) - (T_88 s v1 (v5 + 1) v4)))), (5, .int v5), (4, .int v4), (3, .int v3), (2, .int v2), (0, .ref 3), (1, .int v1)] [.int (T_88 s v1 v5 (v4 + 1)), .int (T_88 s v1 v5 v4)] (N, hm_sh L g, s) _ Q
          refine hm_st hR (hm_st hR ⟨hm_le rfl, ?_⟩)
          show R 99 104 [(6, .int (hm_abs ((T_88 s v1 v5 v4) - (T_88 s v1 (v5 + 1) v4)))), (5, .int v5), (4, .int v4), (3, .int v3), (2, .int v2), (0, .ref 3), (1, .int v1)] [.int (hm_abs ((T_88 s v1 v5 v4) - (T_88 s v1 v5 (v4 + 1))))] (N, hm_sh L g, s) _ Q
          refine hm_st hR (hm_st hR (hm_st hR (hm_st hR (hm_st hR (hm_st hR ⟨hm_le rfl, ?_⟩)))))
          show R 99 118 [(7, .int (hm_abs ((T_88 s v1 v5 v4) - (T_88 s v1 v5 (v4 + 1))))), (6, .int (hm_abs ((T_88 s v1 v5 v4) - (T_88 s v1 (v5 + 1) v4)))), (5, .int v5), (4, .int v4), (3, .int v3), (2, .int v2), (0, .ref 3), (1, .int v1)] [.int (hm_max (hm_abs ((T_88 s v1 v5 v4) - (T_88 s v1 (v5 + 1) v4))) (hm_abs ((T_88 s v1 v5 v4) - (T_88 s v1 v5 (v4 + 1))))), .int v2] (N, hm_sh L g, s) _ Q
          refine hm_st hR ⟨hm_le rfl, ?_⟩
          show R 99 121 [(7, .int (hm_abs ((T_88 s v1 v5 v4) - (T_88 s v1 v5 (v4 + 1))))), (6, .int (hm_abs ((T_88 s v1 v5 v4) - (T_88 s v1 (v5 + 1) v4)))), (5, .int v5), (4, .int v4), (3, .int v3), (2, .int v2), (0, .ref 3), (1, .int v1)] [.int (hm_max v2 (hm_max (hm_abs ((T_88 s v1 v5 v4) - (T_88 s v1 (v5 + 1) v4))) (hm_abs ((T_88 s v1 v5 v4) - (T_88 s v1 v5 (v4 + 1))))))] (N, hm_sh L g, s) _ Q
          refine hm_st hR (hm_st hR (hm_st hR (hm_st hR (hm_st hR (hm_st hR (hm_st hR (hm_st hR (hm_st hR (?_)))))))))
          show R 99 19 [(5, .int (v5 + 1)), (3, .int (v3 + ((hm_abs ((T_88 s v1 v5 v4) - (T_88 s v1 (v5 + 1) v4))) + (hm_abs ((T_88 s v1 v5 v4) - (T_88 s v1 v5 (v4 + 1))))))), (2, .int (hm_max v2 (hm_max (hm_abs ((T_88 s v1 v5 v4) - (T_88 s v1 (v5 + 1) v4))) (hm_abs ((T_88 s v1 v5 v4) - (T_88 s v1 v5 (v4 + 1))))))), (7, .int (hm_abs ((T_88 s v1 v5 v4) - (T_88 s v1 v5 (v4 + 1))))), (6, .int (hm_abs ((T_88 s v1 v5 v4) - (T_88 s v1 (v5 + 1) v4)))), (4, .int v4), (0, .ref 3), (1, .int v1)] [] (N, hm_sh L g, s) _ Q
          exact hm_lvS hR (by intro q hq; simp only [List.mem_cons, List.not_mem_nil, or_false] at hq ⊢; rcases hq with rfl | rfl | rfl | rfl | rfl | rfl <;> simp) (ih s v1 (hm_max v2 (hm_max (hm_abs ((T_88 s v1 v5 v4) - (T_88 s v1 (v5 + 1) v4))) (hm_abs ((T_88 s v1 v5 v4) - (T_88 s v1 v5 (v4 + 1)))))) (v3 + ((hm_abs ((T_88 s v1 v5 v4) - (T_88 s v1 (v5 + 1) v4))) + (hm_abs ((T_88 s v1 v5 v4) - (T_88 s v1 v5 (v4 + 1)))))) v4 (v5 + 1) (hm_dcx c25 hm) hPO hq)
set_option maxRecDepth 20000 in
theorem lp_99_7 {R : hm_R} (hR : hm_Cm R) {N L : Nat} {g : Nat → hm_Sh} {b : hm_B} {Q : hm_Q} (hN : 68 ≤ N) : ∀ (n : Nat) (s : hm_St) (v1 : Int32) (v2 : Int32) (v3 : Int32) (v4 : Int32), hm_df (s 3 6) v4 < n → (hq : Q (.inr none) (N, hm_sh L g, (T_99_7 n s v1 v2 v3 v4))) → R 99 7 [(4, .int v4), (3, .int v3), (2, .int v2), (0, .ref 3), (1, .int v1)] [] (N, hm_sh L g, s) b Q := by
  intro n
  induction n with
  | zero => intro s v1 v2 v3 v4 hm _; exact absurd hm (Nat.not_lt_zero _)
  | succ n ih =>
    intro s v1 v2 v3 v4 hm hq
    unfold T_99_7 at hq
    refine hm_st hR (hm_st hR (hm_st hR ⟨rfl, hm_le rfl, (hm_ltN hN rfl), ?_⟩))
    show R 99 13 [(4, .int v4), (3, .int v3), (2, .int v2), (0, .ref 3), (1, .int v1)] [.int (s 3 6), .int v4] (N, hm_sh L g, s) _ Q
    refine hm_st hR ⟨fun c13 => ?_, fun c13 => ?_⟩
    · rw [if_pos c13] at hq
      show R 99 142 [(4, .int v4), (3, .int v3), (2, .int v2), (0, .ref 3), (1, .int v1)] [] (N, hm_sh L g, s) _ Q
      refine hm_st hR (hm_st hR ⟨rfl, hm_le rfl, (hm_ltN hN rfl), hm_st hR (hm_st hR (hm_st hR (hm_st hR (hm_st hR (hm_st hR (?_))))))⟩)
      refine hm_st hR ⟨hm_le rfl, rfl, (hm_le rfl), (hm_ltN hN rfl), hm_le rfl, hm_le rfl, (0, 0), Nat.zero_le _, Nat.zero_le _, ?_⟩
      refine sp_179 hR hN (rr := 12) (aa := 13) (nn := 24) rfl rfl (hm_le rfl) (hm_ltN hN rfl) rfl rfl (hm_le rfl) (hm_ltN hN rfl) (by decide) ?_
      show R 99 155 [(4, .int v4), (3, .int v3), (2, .int v2), (0, .ref 3), (1, .int v1)] [] (N, hm_sh L g, (T_179 s 13 24 ((v1 * 4) + 1) v2)) _ Q
      refine hm_st hR (hm_st hR ⟨rfl, hm_le rfl, (hm_ltN hN rfl), hm_st hR (hm_st hR (hm_st hR (hm_st hR (hm_st hR (hm_st hR (?_))))))⟩)
      refine hm_st hR ⟨hm_le rfl, rfl, (hm_le rfl), (hm_ltN hN rfl), hm_le rfl, hm_le rfl, (0, 0), Nat.zero_le _, Nat.zero_le _, ?_⟩
      refine sp_179 hR hN (rr := 12) (aa := 13) (nn := 24) rfl rfl (hm_le rfl) (hm_ltN hN rfl) rfl rfl (hm_le rfl) (hm_ltN hN rfl) (by decide) ?_
      show R 99 168 [(4, .int v4), (3, .int v3), (2, .int v2), (0, .ref 3), (1, .int v1)] [] (N, hm_sh L g, (T_179 (T_179 s 13 24 ((v1 * 4) + 1) v2) 13 24 ((v1 * 4) + 2) v3)) _ Q
      exact hm_st hR (hq)
    · rw [if_neg c13] at hq
      show R 99 16 [(4, .int v4), (3, .int v3), (2, .int v2), (0, .ref 3), (1, .int v1)] [] (N, hm_sh L g, s) _ Q
      refine hm_st hR (hm_st hR (?_))
      show R 99 19 [(5, .int 0), (4, .int v4), (3, .int v3), (2, .int v2), (0, .ref 3), (1, .int v1)] [] (N, hm_sh L g, s) _ Q
      exact lp_99_19 hR hN (O := (fun s v1 v2 v3 v4 => T_99_7 n s v1 v2 v3 v4)) (nO := n) (fun s v1 v2 v3 v4 hm hq => ih s v1 v2 v3 v4 hm hq) _ _ _ _ _ _ _ (Nat.lt_succ_self _) (hm_dcx c13 hm) hq
set_option maxRecDepth 20000 in
theorem sp_99 {R : hm_R} (hR : hm_Cm R) {N L : Nat} {g : Nat → hm_Sh} {s : hm_St} {b : hm_B} {Q : hm_Q} (hN : 68 ≤ N) {p1 : Int32} (hq : Q (.inr none) (N, hm_sh L g, (T_99 s p1))) : R 99 0 (lv_args 0 [.ref 3, .int p1]) [] (N, hm_sh L g, s) b Q := by
  unfold T_99 at hq
  show R 99 0 [(0, .ref 3), (1, .int p1)] [] (N, hm_sh L g, s) _ Q
  refine hm_st hR (hm_st hR (hm_st hR (hm_st hR (hm_st hR (hm_st hR (?_))))))
  show R 99 7 [(4, .int 0), (3, .int 0), (2, .int 0), (0, .ref 3), (1, .int p1)] [] (N, hm_sh L g, s) _ Q
  exact lp_99_7 hR hN _ _ _ _ _ _ (Nat.lt_succ_self _) hq
def T_94_19 (O : hm_St → Int32 → Int32 → Int32 → hm_St) : Nat → hm_St → Int32 → Int32 → Int32 → Int32 → hm_St
  | 0, s, _, _, _, _ => s
  | n + 1, s, v1, v2, v3, v4 => (if (s 3 6) ≤ v4 then (O s v1 v2 (v3 + 1)) else (T_94_19 O n (T_179 (T_179 s 9 6144 ((v2 + (v3 * (s 3 6))) + v4) (T_95 s v1 v4 v3)) 11 6144 (v2 + (T_95 s v1 v4 v3)) ((v3 * ((T_179 s 9 6144 ((v2 + (v3 * (s 3 6))) + v4) (T_95 s v1 v4 v3)) 3 6)) + v4)) v1 v2 v3 (v4 + 1)))
def T_94_8 : Nat → hm_St → Int32 → Int32 → Int32 → hm_St
  | 0, s, _, _, _ => s
  | n + 1, s, v1, v2, v3 => (if (s 3 6) ≤ v3 then (T_179 (T_99 (T_179 s 13 24 (v1 * 4) (T_97 s v1)) v1) 13 24 ((v1 * 4) + 3) (if (T_98 (T_99 (T_179 s 13 24 (v1 * 4) (T_97 s v1)) v1) v1 0 ((T_87 (T_99 (T_179 s 13 24 (v1 * 4) (T_97 s v1)) v1)) - 1)) = 0 then (0 : Int32) else 1)) else (T_94_19 (fun s v1 v2 v3 => T_94_8 n s v1 v2 v3) (hm_df (s 3 6) 0 + 1) s v1 v2 v3 0))
/-- CurvekeyHouse$Curves.walk(I)V -/
def T_94 (s : hm_St) (p1 : Int32) : hm_St := (T_94_8 (hm_df (s 3 6) 0 + 1) s p1 (p1 * 1024) 0)
theorem N_94_19 (O : hm_St → Int32 → Int32 → Int32 → hm_St) {c j : Nat} (hOO : ∀ (s : hm_St) (o0 o1 o2 : Int32), (O s o0 o1 o2) c j = s c j) (h9 : c ≠ 9) (h11 : c ≠ 11) (h13 : c ≠ 13) : ∀ (n : Nat) (s : hm_St) (v0 v1 v2 v3 : Int32), (T_94_19 O n s v0 v1 v2 v3) c j = s c j := by
  intro n
  induction n with
  | zero => intros; rfl
  | succ n ih =>
    intros
    unfold T_94_19
    repeat' split
    all_goals first | with_reducible rfl | simp only [ih, hOO, hm_w1n h9, hm_w1n h11, hm_w1n h13, N_99 h13, N_179 h9, N_179 h11, N_179 h13]
theorem N_94_8 {c j : Nat} (h9 : c ≠ 9) (h11 : c ≠ 11) (h13 : c ≠ 13) : ∀ (n : Nat) (s : hm_St) (v0 v1 v2 : Int32), (T_94_8  n s v0 v1 v2) c j = s c j := by
  intro n
  induction n with
  | zero => intros; rfl
  | succ n ih =>
    intros
    unfold T_94_8
    repeat' split
    all_goals first | with_reducible rfl | simp only [ih, hm_w1n h9, hm_w1n h11, hm_w1n h13, N_99 h13, N_179 h9, N_179 h11, N_179 h13, N_94_19 _ (fun s o0 o1 o2 => ih s o0 o1 o2) h9 h11 h13]
theorem N_94 {c j : Nat} (h9 : c ≠ 9) (h11 : c ≠ 11) (h13 : c ≠ 13) {s : hm_St} {p1 : Int32} : (T_94 s p1) c j = s c j := by
  unfold T_94
  repeat' split
  all_goals first | with_reducible rfl | simp only [hm_w1n h9, hm_w1n h11, hm_w1n h13, N_99 h13, N_179 h9, N_179 h11, N_179 h13, N_94_8 h9 h11 h13]
set_option maxRecDepth 20000 in
theorem lp_94_19 {R : hm_R} (hR : hm_Cm R) {N L : Nat} {g : Nat → hm_Sh} {b : hm_B} {Q : hm_Q} (hN : 68 ≤ N) {d : Int32} {O : hm_St → Int32 → Int32 → Int32 → hm_St} {nO : Nat} (hO : ∀ (s : hm_St) (v1 : Int32) (v2 : Int32) (v3 : Int32), hm_df d v3 < nO → (s 3 6 = d) → (Q (.inr none) (N, hm_sh L g, (O s v1 v2 v3))) → R 94 8 [(3, .int v3), (2, .int v2), (0, .ref 3), (1, .int v1)] [] (N, hm_sh L g, s) b Q) : ∀ (n : Nat) (s : hm_St) (v1 : Int32) (v2 : Int32) (v3 : Int32) (v4 : Int32), hm_df d v4 < n → (hPO : hm_df d (v3 + 1) < nO) → (hinv : s 3 6 = d) → (hq : Q (.inr none) (N, hm_sh L g, (T_94_19 O n s v1 v2 v3 v4))) → R 94 19 [(4, .int v4), (3, .int v3), (2, .int v2), (0, .ref 3), (1, .int v1)] [] (N, hm_sh L g, s) b Q := by
  intro n
  induction n with
  | zero => intro s v1 v2 v3 v4 hm hPO hinv _; exact absurd hm (Nat.not_lt_zero _)
  | succ n ih =>
    intro s v1 v2 v3 v4 hm hPO hinv hq
    unfold T_94_19 at hq
    refine hm_st hR (hm_st hR (hm_st hR ⟨rfl, hm_le rfl, (hm_ltN hN rfl), ?_⟩))
    show R 94 25 [(4, .int v4), (3, .int v3), (2, .int v2), (0, .ref 3), (1, .int v1)] [.int (s 3 6), .int v4] (N, hm_sh L g, s) _ Q
    refine hm_st hR ⟨fun c25 => ?_, fun c25 => ?_⟩
    · rw [if_pos c25] at hq
      show R 94 84 [(4, .int v4), (3, .int v3), (2, .int v2), (0, .ref 3), (1, .int v1)] [] (N, hm_sh L g, s) _ Q
      refine hm_st hR (hm_st hR (?_))
      show R 94 8 [(3, .int (v3 + 1)), (4, .int v4), (2, .int v2), (0, .ref 3), (1, .int v1)] [] (N, hm_sh L g, s) _ Q
      exact hm_lvS hR (by intro q hq; simp only [List.mem_cons, List.not_mem_nil, or_false] at hq ⊢; rcases hq with rfl | rfl | rfl | rfl <;> simp) (hO s v1 v2 (v3 + 1) hPO hinv hq)
    · rw [if_neg c25] at hq
      show R 94 28 [(4, .int v4), (3, .int v3), (2, .int v2), (0, .ref 3), (1, .int v1)] [] (N, hm_sh L g, s) _ Q
      refine hm_st hR (hm_st hR (hm_st hR (hm_st hR (?_))))
      refine hm_st hR ⟨hm_le rfl, rfl, (hm_le rfl), (hm_ltN hN rfl), hm_le rfl, hm_le rfl, (0, 0), Nat.zero_le _, Nat.zero_le _, ?_⟩
      refine sp_95 hR hN ?_
      show R 94 36 [(4, .int v4), (3, .int v3), (2, .int v2), (0, .ref 3), (1, .int v1)] [.int (T_95 s v1 v4 v3)] (N, hm_sh L g, s) _ Q
      refine hm_st hR (hm_st hR (hm_st hR ⟨rfl, hm_le rfl, (hm_ltN hN rfl), hm_st hR (hm_st hR (hm_st hR (hm_st hR ⟨rfl, hm_le rfl, (hm_ltN hN rfl), hm_st hR (hm_st hR (hm_st hR (hm_st hR (hm_st hR (?_)))))⟩)))⟩))
      refine hm_st hR ⟨hm_le rfl, rfl, (hm_le rfl), (hm_ltN hN rfl), hm_le rfl, hm_le rfl, (0, 0), Nat.zero_le _, Nat.zero_le _, ?_⟩
      refine sp_179 hR hN (rr := 8) (aa := 9) (nn := 6144) rfl rfl (hm_le rfl) (hm_ltN hN rfl) rfl rfl (hm_le rfl) (hm_ltN hN rfl) (by decide) ?_
      show R 94 58 [(5, .int (T_95 s v1 v4 v3)), (4, .int v4), (3, .int v3), (2, .int v2), (0, .ref 3), (1, .int v1)] [] (N, hm_sh L g, (T_179 s 9 6144 ((v2 + (v3 * (s 3 6))) + v4) (T_95 s v1 v4 v3))) _ Q
      refine hm_st hR (hm_st hR ⟨rfl, hm_le rfl, (hm_ltN hN rfl), hm_st hR (hm_st hR (hm_st hR (hm_st hR (hm_st hR (hm_st hR ⟨rfl, hm_le rfl, (hm_ltN hN rfl), hm_st hR (hm_st hR (hm_st hR (?_)))⟩)))))⟩)
      refine hm_st hR ⟨hm_le rfl, rfl, (hm_le rfl), (hm_ltN hN rfl), hm_le rfl, hm_le rfl, (0, 0), Nat.zero_le _, Nat.zero_le _, ?_⟩
      refine sp_179 hR hN (rr := 10) (aa := 11) (nn := 6144) rfl rfl (hm_le rfl) (hm_ltN hN rfl) rfl rfl (hm_le rfl) (hm_ltN hN rfl) (by decide) ?_
      show R 94 78 [(5, .int (T_95 s v1 v4 v3)), (4, .int v4), (3, .int v3), (2, .int v2), (0, .ref 3), (1, .int v1)] [] (N, hm_sh L g, (T_179 (T_179 s 9 6144 ((v2 + (v3 * (s 3 6))) + v4) (T_95 s v1 v4 v3)) 11 6144 (v2 + (T_95 s v1 v4 v3)) ((v3 * ((T_179 s 9 6144 ((v2 + (v3 * (s 3 6))) + v4) (T_95 s v1 v4 v3)) 3 6)) + v4))) _ Q
      refine hm_st hR (hm_st hR (?_))
      show R 94 19 [(4, .int (v4 + 1)), (5, .int (T_95 s v1 v4 v3)), (3, .int v3), (2, .int v2), (0, .ref 3), (1, .int v1)] [] (N, hm_sh L g, (T_179 (T_179 s 9 6144 ((v2 + (v3 * (s 3 6))) + v4) (T_95 s v1 v4 v3)) 11 6144 (v2 + (T_95 s v1 v4 v3)) ((v3 * ((T_179 s 9 6144 ((v2 + (v3 * (s 3 6))) + v4) (T_95 s v1 v4 v3)) 3 6)) + v4))) _ Q
      exact hm_lvS hR (by intro q hq; simp only [List.mem_cons, List.not_mem_nil, or_false] at hq ⊢; rcases hq with rfl | rfl | rfl | rfl | rfl <;> simp) (ih (T_179 (T_179 s 9 6144 ((v2 + (v3 * (s 3 6))) + v4) (T_95 s v1 v4 v3)) 11 6144 (v2 + (T_95 s v1 v4 v3)) ((v3 * ((T_179 s 9 6144 ((v2 + (v3 * (s 3 6))) + v4) (T_95 s v1 v4 v3)) 3 6)) + v4)) v1 v2 v3 (v4 + 1) (hm_dcg hinv c25 hm) hPO (by simp only [N_179 (show (3 : Nat) ≠ 9 by decide), N_179 (show (3 : Nat) ≠ 11 by decide)]; exact hinv) hq)
set_option maxRecDepth 20000 in
theorem lp_94_8 {R : hm_R} (hR : hm_Cm R) {N L : Nat} {g : Nat → hm_Sh} {b : hm_B} {Q : hm_Q} (hN : 68 ≤ N) {d : Int32} : ∀ (n : Nat) (s : hm_St) (v1 : Int32) (v2 : Int32) (v3 : Int32), hm_df d v3 < n → (hinv : s 3 6 = d) → (hq : Q (.inr none) (N, hm_sh L g, (T_94_8 n s v1 v2 v3))) → R 94 8 [(3, .int v3), (2, .int v2), (0, .ref 3), (1, .int v1)] [] (N, hm_sh L g, s) b Q := by
  intro n
  induction n with
  | zero => intro s v1 v2 v3 hm hinv _; exact absurd hm (Nat.not_lt_zero _)
  | succ n ih =>
    intro s v1 v2 v3 hm hinv hq
    unfold T_94_8 at hq
    refine hm_st hR (hm_st hR (hm_st hR ⟨rfl, hm_le rfl, (hm_ltN hN rfl), ?_⟩))
    show R 94 13 [(3, .int v3), (2, .int v2), (0, .ref 3), (1, .int v1)] [.int (s 3 6), .int v3] (N, hm_sh L g, s) _ Q
    refine hm_st hR ⟨fun c13 => ?_, fun c13 => ?_⟩
    · rw [if_pos c13] at hq
      show R 94 90 [(3, .int v3), (2, .int v2), (0, .ref 3), (1, .int v1)] [] (N, hm_sh L g, s) _ Q
      refine hm_st hR (hm_st hR ⟨rfl, hm_le rfl, (hm_ltN hN rfl), hm_st hR (hm_st hR (hm_st hR (hm_st hR (hm_st hR (?_)))))⟩)
      refine hm_st hR ⟨hm_le rfl, rfl, (hm_le rfl), (hm_ltN hN rfl), hm_le rfl, hm_le rfl, (0, 0), Nat.zero_le _, Nat.zero_le _, ?_⟩
      refine sp_97 hR hN ?_
      show R 94 102 [(3, .int v3), (2, .int v2), (0, .ref 3), (1, .int v1)] [.int (T_97 s v1), .int (v1 * 4), .ref 12] (N, hm_sh L g, s) _ Q
      refine hm_st hR ⟨hm_le rfl, rfl, (hm_le rfl), (hm_ltN hN rfl), hm_le rfl, hm_le rfl, (0, 0), Nat.zero_le _, Nat.zero_le _, ?_⟩
      refine sp_179 hR hN (rr := 12) (aa := 13) (nn := 24) rfl rfl (hm_le rfl) (hm_ltN hN rfl) rfl rfl (hm_le rfl) (hm_ltN hN rfl) (by decide) ?_
      show R 94 105 [(3, .int v3), (2, .int v2), (0, .ref 3), (1, .int v1)] [] (N, hm_sh L g, (T_179 s 13 24 (v1 * 4) (T_97 s v1))) _ Q
      refine hm_st hR (hm_st hR (?_))
      refine hm_st hR ⟨hm_le rfl, rfl, (hm_le rfl), (hm_ltN hN rfl), hm_le rfl, hm_le rfl, (0, 0), Nat.zero_le _, Nat.zero_le _, ?_⟩
      refine sp_99 hR hN ?_
      show R 94 110 [(3, .int v3), (2, .int v2), (0, .ref 3), (1, .int v1)] [] (N, hm_sh L g, (T_99 (T_179 s 13 24 (v1 * 4) (T_97 s v1)) v1)) _ Q
      refine hm_st hR (hm_st hR ⟨rfl, hm_le rfl, (hm_ltN hN rfl), hm_st hR (hm_st hR (hm_st hR (hm_st hR (hm_st hR (hm_st hR (hm_st hR (hm_st hR (hm_st hR (?_)))))))))⟩)
      refine hm_st hR ⟨hm_le rfl, rfl, (hm_le rfl), (hm_ltN hN rfl), hm_le rfl, hm_le rfl, (0, 0), Nat.zero_le _, Nat.zero_le _, ?_⟩
      refine sp_87 hR hN ?_
      show R 94 126 [(3, .int v3), (2, .int v2), (0, .ref 3), (1, .int v1)] [.int (T_87 (T_99 (T_179 s 13 24 (v1 * 4) (T_97 s v1)) v1)), .int 0, .int v1, .ref 3, .int ((v1 * 4) + 3), .ref 12] (N, hm_sh L g, (T_99 (T_179 s 13 24 (v1 * 4) (T_97 s v1)) v1)) _ Q
      refine hm_st hR (hm_st hR (?_))
      refine hm_st hR ⟨hm_le rfl, rfl, (hm_le rfl), (hm_ltN hN rfl), hm_le rfl, hm_le rfl, (0, 0), Nat.zero_le _, Nat.zero_le _, ?_⟩
      refine sp_98 hR hN ?_
      show R 94 131 [(3, .int v3), (2, .int v2), (0, .ref 3), (1, .int v1)] [.int (T_98 (T_99 (T_179 s 13 24 (v1 * 4) (T_97 s v1)) v1) v1 0 ((T_87 (T_99 (T_179 s 13 24 (v1 * 4) (T_97 s v1)) v1)) - 1)), .int ((v1 * 4) + 3), .ref 12] (N, hm_sh L g, (T_99 (T_179 s 13 24 (v1 * 4) (T_97 s v1)) v1)) _ Q
      show R 94 131 [(3, .int v3), (2, .int v2), (0, .ref 3), (1, .int v1)] [.int (T_98 (T_99 (T_179 s 13 24 (v1 * 4) (T_97 s v1)) v1) v1 0 ((T_87 (T_99 (T_179 s 13 24 (v1 * 4) (T_97 s v1)) v1)) - 1)), .int ((v1 * 4) + 3), .ref 12] (N, hm_sh L g, (T_99 (T_179 s 13 24 (v1 * 4) (T_97 s v1)) v1)) _ Q
      suffices G : ∀ w : Int32, w = (if (T_98 (T_99 (T_179 s 13 24 (v1 * 4) (T_97 s v1)) v1) v1 0 ((T_87 (T_99 (T_179 s 13 24 (v1 * 4) (T_97 s v1)) v1)) - 1)) = 0 then (0 : Int32) else 1) → R 94 139 [(3, .int v3), (2, .int v2), (0, .ref 3), (1, .int v1)] [.int w, .int ((v1 * 4) + 3), .ref 12] (N, hm_sh L g, (T_99 (T_179 s 13 24 (v1 * 4) (T_97 s v1)) v1)) (b.1 - 0 - 0 - 0 - 0 - 0, b.2 - 0 - 0 - 0 - 0 - 0) Q by
        show R 94 131 [(3, .int v3), (2, .int v2), (0, .ref 3), (1, .int v1)] [.int (T_98 (T_99 (T_179 s 13 24 (v1 * 4) (T_97 s v1)) v1) v1 0 ((T_87 (T_99 (T_179 s 13 24 (v1 * 4) (T_97 s v1)) v1)) - 1)), .int ((v1 * 4) + 3), .ref 12] (N, hm_sh L g, (T_99 (T_179 s 13 24 (v1 * 4) (T_97 s v1)) v1)) _ Q
        refine hm_st hR ⟨fun c => ?_, fun c => ?_⟩
        · exact hm_st hR (G _ (if_pos c).symm)
        · exact hm_st hR (hm_st hR (G _ (if_neg c).symm))
      intro w hw
      subst hw
      show R 94 139 [(3, .int v3), (2, .int v2), (0, .ref 3), (1, .int v1)] [.int (if (T_98 (T_99 (T_179 s 13 24 (v1 * 4) (T_97 s v1)) v1) v1 0 ((T_87 (T_99 (T_179 s 13 24 (v1 * 4) (T_97 s v1)) v1)) - 1)) = 0 then (0 : Int32) else 1), .int ((v1 * 4) + 3), .ref 12] (N, hm_sh L g, (T_99 (T_179 s 13 24 (v1 * 4) (T_97 s v1)) v1)) _ Q
      refine hm_st hR ⟨hm_le rfl, rfl, (hm_le rfl), (hm_ltN hN rfl), hm_le rfl, hm_le rfl, (0, 0), Nat.zero_le _, Nat.zero_le _, ?_⟩
      refine sp_179 hR hN (rr := 12) (aa := 13) (nn := 24) rfl rfl (hm_le rfl) (hm_ltN hN rfl) rfl rfl (hm_le rfl) (hm_ltN hN rfl) (by decide) ?_
      show R 94 142 [(3, .int v3), (2, .int v2), (0, .ref 3), (1, .int v1)] [] (N, hm_sh L g, (T_179 (T_99 (T_179 s 13 24 (v1 * 4) (T_97 s v1)) v1) 13 24 ((v1 * 4) + 3) (if (T_98 (T_99 (T_179 s 13 24 (v1 * 4) (T_97 s v1)) v1) v1 0 ((T_87 (T_99 (T_179 s 13 24 (v1 * 4) (T_97 s v1)) v1)) - 1)) = 0 then (0 : Int32) else 1))) _ Q
      exact hm_st hR (hq)
    · rw [if_neg c13] at hq
      show R 94 16 [(3, .int v3), (2, .int v2), (0, .ref 3), (1, .int v1)] [] (N, hm_sh L g, s) _ Q
      refine hm_st hR (hm_st hR (?_))
      show R 94 19 [(4, .int 0), (3, .int v3), (2, .int v2), (0, .ref 3), (1, .int v1)] [] (N, hm_sh L g, s) _ Q
      exact lp_94_19 hR hN (d := d) (O := (fun s v1 v2 v3 => T_94_8 n s v1 v2 v3)) (nO := n) (fun s v1 v2 v3 hm hi hq => ih s v1 v2 v3 hm hi hq) _ _ _ _ _ _ (by rw [hinv]; exact Nat.lt_succ_self _) (hm_dcg hinv c13 hm) hinv hq
set_option maxRecDepth 20000 in
theorem sp_94 {R : hm_R} (hR : hm_Cm R) {N L : Nat} {g : Nat → hm_Sh} {s : hm_St} {b : hm_B} {Q : hm_Q} (hN : 68 ≤ N) {p1 : Int32} (hq : Q (.inr none) (N, hm_sh L g, (T_94 s p1))) : R 94 0 (lv_args 0 [.ref 3, .int p1]) [] (N, hm_sh L g, s) b Q := by
  unfold T_94 at hq
  show R 94 0 [(0, .ref 3), (1, .int p1)] [] (N, hm_sh L g, s) _ Q
  refine hm_st hR (hm_st hR (hm_st hR (hm_st hR (hm_st hR (hm_st hR (?_))))))
  show R 94 8 [(3, .int 0), (2, .int (p1 * 1024)), (0, .ref 3), (1, .int p1)] [] (N, hm_sh L g, s) _ Q
  exact lp_94_8 hR hN _ _ _ _ _ (Nat.lt_succ_self _) rfl hq
def T_92_23 : Nat → hm_St → Int32 → Int32 → hm_St
  | 0, s, _, _ => s
  | n + 1, s, v1, v2 => (if 6 ≤ v2 then s else (T_92_23 n (T_94 s v2) v1 (v2 + 1)))
/-- CurvekeyHouse$Curves.resize(I)V -/
def T_92 (s : hm_St) (p1 : Int32) : hm_St := (if p1 = (s 3 5) then s else (T_92_23 (hm_df 6 0 + 1) (hm_w1 (hm_w1 s 3 5 p1) 3 6 (1 <<< ((p1 : Int32) &&& 31))) p1 0))
theorem N_92_23 {c j : Nat} (h3 : c ≠ 3) (h9 : c ≠ 9) (h11 : c ≠ 11) (h13 : c ≠ 13) : ∀ (n : Nat) (s : hm_St) (v0 v1 : Int32), (T_92_23  n s v0 v1) c j = s c j := by
  intro n
  induction n with
  | zero => intros; rfl
  | succ n ih =>
    intros
    unfold T_92_23
    repeat' split
    all_goals first | with_reducible rfl | simp only [ih, hm_w1n h3, hm_w1n h9, hm_w1n h11, hm_w1n h13, N_94 h9 h11 h13]
theorem N_92 {c j : Nat} (h3 : c ≠ 3) (h9 : c ≠ 9) (h11 : c ≠ 11) (h13 : c ≠ 13) {s : hm_St} {p1 : Int32} : (T_92 s p1) c j = s c j := by
  unfold T_92
  repeat' split
  all_goals first | with_reducible rfl | simp only [hm_w1n h3, hm_w1n h9, hm_w1n h11, hm_w1n h13, N_94 h9 h11 h13, N_92_23 h3 h9 h11 h13]
set_option maxRecDepth 20000 in
theorem lp_92_23 {R : hm_R} (hR : hm_Cm R) {N L : Nat} {g : Nat → hm_Sh} {b : hm_B} {Q : hm_Q} (hN : 68 ≤ N) : ∀ (n : Nat) (s : hm_St) (v1 : Int32) (v2 : Int32), hm_df 6 v2 < n → (hq : Q (.inr none) (N, hm_sh L g, (T_92_23 n s v1 v2))) → R 92 23 [(2, .int v2), (0, .ref 3), (1, .int v1)] [] (N, hm_sh L g, s) b Q := by
  intro n
  induction n with
  | zero => intro s v1 v2 hm _; exact absurd hm (Nat.not_lt_zero _)
  | succ n ih =>
    intro s v1 v2 hm hq
    unfold T_92_23 at hq
    refine hm_st hR (hm_st hR (?_))
    show R 92 26 [(2, .int v2), (0, .ref 3), (1, .int v1)] [.int 6, .int v2] (N, hm_sh L g, s) _ Q
    refine hm_st hR ⟨fun c26 => ?_, fun c26 => ?_⟩
    · rw [if_pos c26] at hq
      show R 92 40 [(2, .int v2), (0, .ref 3), (1, .int v1)] [] (N, hm_sh L g, s) _ Q
      exact hm_st hR (hq)
    · rw [if_neg c26] at hq
      show R 92 29 [(2, .int v2), (0, .ref 3), (1, .int v1)] [] (N, hm_sh L g, s) _ Q
      refine hm_st hR (hm_st hR (?_))
      refine hm_st hR ⟨hm_le rfl, rfl, (hm_le rfl), (hm_ltN hN rfl), hm_le rfl, hm_le rfl, (0, 0), Nat.zero_le _, Nat.zero_le _, ?_⟩
      refine sp_94 hR hN ?_
      show R 92 34 [(2, .int v2), (0, .ref 3), (1, .int v1)] [] (N, hm_sh L g, (T_94 s v2)) _ Q
      refine hm_st hR (hm_st hR (?_))
      show R 92 23 [(2, .int (v2 + 1)), (0, .ref 3), (1, .int v1)] [] (N, hm_sh L g, (T_94 s v2)) _ Q
      exact hm_lvS hR (by intro q hq; simp only [List.mem_cons, List.not_mem_nil, or_false] at hq ⊢; rcases hq with rfl | rfl | rfl <;> simp) (ih (T_94 s v2) v1 (v2 + 1) (hm_dcx c26 hm) hq)
set_option maxRecDepth 20000 in
theorem sp_92 {R : hm_R} (hR : hm_Cm R) {N L : Nat} {g : Nat → hm_Sh} {s : hm_St} {b : hm_B} {Q : hm_Q} (hN : 68 ≤ N) {p1 : Int32} (hq : Q (.inr none) (N, hm_sh L g, (T_92 s p1))) : R 92 0 (lv_args 0 [.ref 3, .int p1]) [] (N, hm_sh L g, s) b Q := by
  unfold T_92 at hq
  show R 92 0 [(0, .ref 3), (1, .int p1)] [] (N, hm_sh L g, s) _ Q
  refine hm_st hR (hm_st hR (hm_st hR ⟨rfl, hm_le rfl, (hm_ltN hN rfl), ?_⟩))
  show R 92 5 [(0, .ref 3), (1, .int p1)] [.int (s 3 5), .int p1] (N, hm_sh L g, s) _ Q
  refine hm_st hR ⟨fun c5 => ?_, fun c5 => ?_⟩
  · rw [if_neg c5] at hq
    show R 92 9 [(0, .ref 3), (1, .int p1)] [] (N, hm_sh L g, s) _ Q
    refine hm_st hR (hm_st hR (hm_st hR ⟨rfl, rfl, hm_le rfl, (hm_ltN hN rfl), ?_⟩))
    show R 92 14 [(0, .ref 3), (1, .int p1)] [] (N, hm_sh L g, (hm_w1 s 3 5 p1)) _ Q
    refine hm_st hR (hm_st hR (hm_st hR (hm_st hR (hm_st hR ⟨rfl, rfl, hm_le rfl, (hm_ltN hN rfl), ?_⟩))))
    show R 92 21 [(0, .ref 3), (1, .int p1)] [] (N, hm_sh L g, (hm_w1 (hm_w1 s 3 5 p1) 3 6 (1 <<< ((p1 : Int32) &&& 31)))) _ Q
    refine hm_st hR (hm_st hR (?_))
    show R 92 23 [(2, .int 0), (0, .ref 3), (1, .int p1)] [] (N, hm_sh L g, (hm_w1 (hm_w1 s 3 5 p1) 3 6 (1 <<< ((p1 : Int32) &&& 31)))) _ Q
    exact lp_92_23 hR hN _ _ _ _ (Nat.lt_succ_self _) hq
  · rw [if_pos c5] at hq
    show R 92 8 [(0, .ref 3), (1, .int p1)] [] (N, hm_sh L g, s) _ Q
    exact hm_st hR (hq)
/-- CurvekeyHouse$Points.clear()V -/
def T_156 (s : hm_St) : hm_St := (hm_w1 (hm_w1 s 14 5 0) 14 6 0)
theorem N_156 {c j : Nat} (h14 : c ≠ 14) {s : hm_St} : (T_156 s) c j = s c j := by
  unfold T_156
  repeat' split
  all_goals first | with_reducible rfl | simp only [hm_w1n h14]
set_option maxRecDepth 20000 in
theorem sp_156 {R : hm_R} (hR : hm_Cm R) {N L : Nat} {g : Nat → hm_Sh} {s : hm_St} {b : hm_B} {Q : hm_Q} (hN : 68 ≤ N) (hq : Q (.inr none) (N, hm_sh L g, (T_156 s))) : R 156 0 (lv_args 0 [.ref 14]) [] (N, hm_sh L g, s) b Q := by
  unfold T_156 at hq
  show R 156 0 [(0, .ref 14)] [] (N, hm_sh L g, s) _ Q
  refine hm_st hR (hm_st hR (hm_st hR ⟨rfl, rfl, hm_le rfl, (hm_ltN hN rfl), ?_⟩))
  show R 156 5 [(0, .ref 14)] [] (N, hm_sh L g, (hm_w1 s 14 5 0)) _ Q
  refine hm_st hR (hm_st hR (hm_st hR ⟨rfl, rfl, hm_le rfl, (hm_ltN hN rfl), ?_⟩))
  show R 156 10 [(0, .ref 14)] [] (N, hm_sh L g, (hm_w1 (hm_w1 s 14 5 0) 14 6 0)) _ Q
  exact hm_st hR (hq)
/-- CurvekeyHouse$History.clear()V -/
def T_111 (s : hm_St) : hm_St := (hm_w1 (hm_w1 s 25 8 0) 25 9 0)
theorem N_111 {c j : Nat} (h25 : c ≠ 25) {s : hm_St} : (T_111 s) c j = s c j := by
  unfold T_111
  repeat' split
  all_goals first | with_reducible rfl | simp only [hm_w1n h25]
set_option maxRecDepth 20000 in
theorem sp_111 {R : hm_R} (hR : hm_Cm R) {N L : Nat} {g : Nat → hm_Sh} {s : hm_St} {b : hm_B} {Q : hm_Q} (hN : 68 ≤ N) (hq : Q (.inr none) (N, hm_sh L g, (T_111 s))) : R 111 0 (lv_args 0 [.ref 25]) [] (N, hm_sh L g, s) b Q := by
  unfold T_111 at hq
  show R 111 0 [(0, .ref 25)] [] (N, hm_sh L g, s) _ Q
  refine hm_st hR (hm_st hR (hm_st hR ⟨rfl, rfl, hm_le rfl, (hm_ltN hN rfl), ?_⟩))
  show R 111 5 [(0, .ref 25)] [] (N, hm_sh L g, (hm_w1 s 25 8 0)) _ Q
  refine hm_st hR (hm_st hR (hm_st hR ⟨rfl, rfl, hm_le rfl, (hm_ltN hN rfl), ?_⟩))
  show R 111 10 [(0, .ref 25)] [] (N, hm_sh L g, (hm_w1 (hm_w1 s 25 8 0) 25 9 0)) _ Q
  exact hm_st hR (hq)
def T_181_2 (aa : Nat) (nn : Nat) : Nat → hm_St → Int32 → Int32 → hm_St
  | 0, s, _, _ => s
  | n + 1, s, v1, v2 => (if (Int32.ofNat nn) ≤ v2 then s else (T_181_2 aa nn n (hm_w1 s aa (v2).toNatClampNeg v1) v1 (v2 + 1)))
/-- CurvekeyHouse$Row.fill(I)V -/
def T_181 (s : hm_St) (aa : Nat) (nn : Nat) (p1 : Int32) : hm_St := (T_181_2 aa nn (hm_df (Int32.ofNat nn) 0 + 1) s p1 0)
theorem N_181_2 (aa : Nat) (nn : Nat) {c j : Nat} (haa : c ≠ aa) : ∀ (n : Nat) (s : hm_St) (v0 v1 : Int32), (T_181_2 aa nn n s v0 v1) c j = s c j := by
  intro n
  induction n with
  | zero => intros; rfl
  | succ n ih =>
    intros
    unfold T_181_2
    repeat' split
    all_goals first | with_reducible rfl | simp only [ih, hm_w1n haa]
theorem N_181 {c j : Nat} {aa nn : Nat} (haa : c ≠ aa) {s : hm_St} {p1 : Int32} : (T_181 s aa nn p1) c j = s c j := by
  unfold T_181
  repeat' split
  all_goals first | with_reducible rfl | simp only [hm_w1n haa, N_181_2 _ _ haa]
set_option maxRecDepth 20000 in
theorem lp_181_2 {R : hm_R} (hR : hm_Cm R) {N L : Nat} {g : Nat → hm_Sh} {b : hm_B} {Q : hm_Q} (hN : 68 ≤ N) {rr aa nn : Nat} (hrk : (hm_sh L g rr).1 = 8) (hra : (hm_sh L g rr).2.2 0 = some aa) (hr2 : 2 ≤ rr) (hrl : rr < N) (hak : (hm_sh L g aa).1 = 1000) (han : (hm_sh L g aa).2.1 = nn) (ha2 : 2 ≤ aa) (hal : aa < N) (hnn : nn < 2 ^ 31) : ∀ (n : Nat) (s : hm_St) (v1 : Int32) (v2 : Int32), hm_df (Int32.ofNat nn) v2 < n → (hinv : 0 ≤ v2) → (hq : Q (.inr none) (N, hm_sh L g, (T_181_2 aa nn n s v1 v2))) → R 181 2 [(2, .int v2), (0, .ref rr), (1, .int v1)] [] (N, hm_sh L g, s) b Q := by
  intro n
  induction n with
  | zero => intro s v1 v2 hm hinv _; exact absurd hm (Nat.not_lt_zero _)
  | succ n ih =>
    intro s v1 v2 hm hinv hq
    unfold T_181_2 at hq
    refine hm_st hR (hm_st hR (?_))
    show R 181 4 [(2, .int v2), (0, .ref rr), (1, .int v1)] [.ref rr, .int v2] (N, hm_sh L g, s) _ Q
    refine hm_rwf hR hrk hra hr2 hrl (by rfl) ?_
    show R 181 7 [(2, .int v2), (0, .ref rr), (1, .int v1)] [.ref aa, .int v2] (N, hm_sh L g, s) _ Q
    show R 181 7 [(2, .int v2), (0, .ref rr), (1, .int v1)] [.ref aa, .int v2] (N, hm_sh L g, s) _ Q
    refine hm_aln hR hak han hal (by rfl) ?_
    show R 181 8 [(2, .int v2), (0, .ref rr), (1, .int v1)] [.int (Int32.ofNat nn), .int v2] (N, hm_sh L g, s) _ Q
    show R 181 8 [(2, .int v2), (0, .ref rr), (1, .int v1)] [.int (Int32.ofNat nn), .int v2] (N, hm_sh L g, s) _ Q
    refine hm_st hR ⟨fun c8 => ?_, fun c8 => ?_⟩
    · rw [if_pos c8] at hq
      show R 181 24 [(2, .int v2), (0, .ref rr), (1, .int v1)] [] (N, hm_sh L g, s) _ Q
      exact hm_st hR (hq)
    · rw [if_neg c8] at hq
      show R 181 11 [(2, .int v2), (0, .ref rr), (1, .int v1)] [] (N, hm_sh L g, s) _ Q
      refine hm_st hR (?_)
      show R 181 12 [(2, .int v2), (0, .ref rr), (1, .int v1)] [.ref rr] (N, hm_sh L g, s) _ Q
      refine hm_rwf hR hrk hra hr2 hrl (by rfl) ?_
      show R 181 15 [(2, .int v2), (0, .ref rr), (1, .int v1)] [.ref aa] (N, hm_sh L g, s) _ Q
      refine hm_st hR (hm_st hR (?_))
      show R 181 17 [(2, .int v2), (0, .ref rr), (1, .int v1)] [.int v1, .int v2, .ref aa] (N, hm_sh L g, s) _ Q
      refine hm_ast hR hak han ha2 hal (by rfl) (hm_vin (hm_nl hinv) c8 hnn) ?_
      show R 181 18 [(2, .int v2), (0, .ref rr), (1, .int v1)] [] (N, hm_sh L g, (hm_w1 s aa (v2).toNatClampNeg v1)) _ Q
      refine hm_st hR (hm_st hR (?_))
      show R 181 2 [(2, .int (v2 + 1)), (0, .ref rr), (1, .int v1)] [] (N, hm_sh L g, (hm_w1 s aa (v2).toNatClampNeg v1)) _ Q
      exact hm_lvS hR (by intro q hq; simp only [List.mem_cons, List.not_mem_nil, or_false] at hq ⊢; rcases hq with rfl | rfl | rfl <;> simp) (ih (hm_w1 s aa (v2).toNatClampNeg v1) v1 (v2 + 1) (hm_dcx c8 hm) (hm_inc0 hinv c8) hq)
set_option maxRecDepth 20000 in
theorem sp_181 {R : hm_R} (hR : hm_Cm R) {N L : Nat} {g : Nat → hm_Sh} {s : hm_St} {b : hm_B} {Q : hm_Q} (hN : 68 ≤ N) {rr aa nn : Nat} (hrk : (hm_sh L g rr).1 = 8) (hra : (hm_sh L g rr).2.2 0 = some aa) (hr2 : 2 ≤ rr) (hrl : rr < N) (hak : (hm_sh L g aa).1 = 1000) (han : (hm_sh L g aa).2.1 = nn) (ha2 : 2 ≤ aa) (hal : aa < N) (hnn : nn < 2 ^ 31) {p1 : Int32} (hq : Q (.inr none) (N, hm_sh L g, (T_181 s aa nn p1))) : R 181 0 (lv_args 0 [.ref rr, .int p1]) [] (N, hm_sh L g, s) b Q := by
  unfold T_181 at hq
  show R 181 0 [(0, .ref rr), (1, .int p1)] [] (N, hm_sh L g, s) _ Q
  refine hm_st hR (hm_st hR (?_))
  show R 181 2 [(2, .int 0), (0, .ref rr), (1, .int p1)] [] (N, hm_sh L g, s) _ Q
  exact lp_181_2 hR hN hrk hra hr2 hrl hak han ha2 hal hnn _ _ _ _ (Nat.lt_succ_self _) (by decide) hq
/-- CurvekeyHouse$Pages.clear(II)V -/
def T_132 (s : hm_St) (p1 : Int32) (p2 : Int32) : hm_St := (hm_w1 (hm_w1 (hm_w1 (T_179 (T_179 (T_181 (hm_w1 (hm_w1 s 42 2 (1 <<< (((2 * p1) : Int32) &&& 31))) 42 3 p2) 44 1024 (-1)) 46 1025 0 0) 46 1025 1 ((T_179 (T_181 (hm_w1 (hm_w1 s 42 2 (1 <<< (((2 * p1) : Int32) &&& 31))) 42 3 p2) 44 1024 (-1)) 46 1025 0 0) 42 2)) 42 4 1) 42 5 0) 42 6 0)
theorem N_132 {c j : Nat} (h42 : c ≠ 42) (h44 : c ≠ 44) (h46 : c ≠ 46) {s : hm_St} {p1 : Int32} {p2 : Int32} : (T_132 s p1 p2) c j = s c j := by
  unfold T_132
  repeat' split
  all_goals first | with_reducible rfl | simp only [hm_w1n h42, hm_w1n h44, hm_w1n h46, N_179 h42, N_179 h44, N_179 h46, N_181 h42, N_181 h44, N_181 h46]
set_option maxRecDepth 20000 in
theorem sp_132 {R : hm_R} (hR : hm_Cm R) {N L : Nat} {g : Nat → hm_Sh} {s : hm_St} {b : hm_B} {Q : hm_Q} (hN : 68 ≤ N) {p1 : Int32} {p2 : Int32} (hq : Q (.inr none) (N, hm_sh L g, (T_132 s p1 p2))) : R 132 0 (lv_args 0 [.ref 42, .int p1, .int p2]) [] (N, hm_sh L g, s) b Q := by
  unfold T_132 at hq
  show R 132 0 [(0, .ref 42), (1, .int p1), (2, .int p2)] [] (N, hm_sh L g, s) _ Q
  refine hm_st hR (hm_st hR (hm_st hR (hm_st hR (hm_st hR (hm_st hR (hm_st hR ⟨rfl, rfl, hm_le rfl, (hm_ltN hN rfl), ?_⟩))))))
  show R 132 9 [(0, .ref 42), (1, .int p1), (2, .int p2)] [] (N, hm_sh L g, (hm_w1 s 42 2 (1 <<< (((2 * p1) : Int32) &&& 31)))) _ Q
  refine hm_st hR (hm_st hR (hm_st hR ⟨rfl, rfl, hm_le rfl, (hm_ltN hN rfl), ?_⟩))
  show R 132 14 [(0, .ref 42), (1, .int p1), (2, .int p2)] [] (N, hm_sh L g, (hm_w1 (hm_w1 s 42 2 (1 <<< (((2 * p1) : Int32) &&& 31))) 42 3 p2)) _ Q
  refine hm_st hR (hm_st hR ⟨rfl, hm_le rfl, (hm_ltN hN rfl), hm_st hR (?_)⟩)
  refine hm_st hR ⟨hm_le rfl, rfl, (hm_le rfl), (hm_ltN hN rfl), hm_le rfl, hm_le rfl, (0, 0), Nat.zero_le _, Nat.zero_le _, ?_⟩
  refine sp_181 hR hN (rr := 43) (aa := 44) (nn := 1024) rfl rfl (hm_le rfl) (hm_ltN hN rfl) rfl rfl (hm_le rfl) (hm_ltN hN rfl) (by decide) ?_
  show R 132 22 [(0, .ref 42), (1, .int p1), (2, .int p2)] [] (N, hm_sh L g, (T_181 (hm_w1 (hm_w1 s 42 2 (1 <<< (((2 * p1) : Int32) &&& 31))) 42 3 p2) 44 1024 (-1))) _ Q
  refine hm_st hR (hm_st hR ⟨rfl, hm_le rfl, (hm_ltN hN rfl), hm_st hR (hm_st hR (?_))⟩)
  refine hm_st hR ⟨hm_le rfl, rfl, (hm_le rfl), (hm_ltN hN rfl), hm_le rfl, hm_le rfl, (0, 0), Nat.zero_le _, Nat.zero_le _, ?_⟩
  refine sp_179 hR hN (rr := 45) (aa := 46) (nn := 1025) rfl rfl (hm_le rfl) (hm_ltN hN rfl) rfl rfl (hm_le rfl) (hm_ltN hN rfl) (by decide) ?_
  show R 132 31 [(0, .ref 42), (1, .int p1), (2, .int p2)] [] (N, hm_sh L g, (T_179 (T_181 (hm_w1 (hm_w1 s 42 2 (1 <<< (((2 * p1) : Int32) &&& 31))) 42 3 p2) 44 1024 (-1)) 46 1025 0 0)) _ Q
  refine hm_st hR (hm_st hR ⟨rfl, hm_le rfl, (hm_ltN hN rfl), hm_st hR (hm_st hR (hm_st hR ⟨rfl, hm_le rfl, (hm_ltN hN rfl), ?_⟩))⟩)
  refine hm_st hR ⟨hm_le rfl, rfl, (hm_le rfl), (hm_ltN hN rfl), hm_le rfl, hm_le rfl, (0, 0), Nat.zero_le _, Nat.zero_le _, ?_⟩
  refine sp_179 hR hN (rr := 45) (aa := 46) (nn := 1025) rfl rfl (hm_le rfl) (hm_ltN hN rfl) rfl rfl (hm_le rfl) (hm_ltN hN rfl) (by decide) ?_
  show R 132 43 [(0, .ref 42), (1, .int p1), (2, .int p2)] [] (N, hm_sh L g, (T_179 (T_179 (T_181 (hm_w1 (hm_w1 s 42 2 (1 <<< (((2 * p1) : Int32) &&& 31))) 42 3 p2) 44 1024 (-1)) 46 1025 0 0) 46 1025 1 ((T_179 (T_181 (hm_w1 (hm_w1 s 42 2 (1 <<< (((2 * p1) : Int32) &&& 31))) 42 3 p2) 44 1024 (-1)) 46 1025 0 0) 42 2))) _ Q
  refine hm_st hR (hm_st hR (hm_st hR ⟨rfl, rfl, hm_le rfl, (hm_ltN hN rfl), ?_⟩))
  show R 132 48 [(0, .ref 42), (1, .int p1), (2, .int p2)] [] (N, hm_sh L g, (hm_w1 (T_179 (T_179 (T_181 (hm_w1 (hm_w1 s 42 2 (1 <<< (((2 * p1) : Int32) &&& 31))) 42 3 p2) 44 1024 (-1)) 46 1025 0 0) 46 1025 1 ((T_179 (T_181 (hm_w1 (hm_w1 s 42 2 (1 <<< (((2 * p1) : Int32) &&& 31))) 42 3 p2) 44 1024 (-1)) 46 1025 0 0) 42 2)) 42 4 1)) _ Q
  refine hm_st hR (hm_st hR (hm_st hR ⟨rfl, rfl, hm_le rfl, (hm_ltN hN rfl), ?_⟩))
  show R 132 53 [(0, .ref 42), (1, .int p1), (2, .int p2)] [] (N, hm_sh L g, (hm_w1 (hm_w1 (T_179 (T_179 (T_181 (hm_w1 (hm_w1 s 42 2 (1 <<< (((2 * p1) : Int32) &&& 31))) 42 3 p2) 44 1024 (-1)) 46 1025 0 0) 46 1025 1 ((T_179 (T_181 (hm_w1 (hm_w1 s 42 2 (1 <<< (((2 * p1) : Int32) &&& 31))) 42 3 p2) 44 1024 (-1)) 46 1025 0 0) 42 2)) 42 4 1) 42 5 0)) _ Q
  refine hm_st hR (hm_st hR (hm_st hR ⟨rfl, rfl, hm_le rfl, (hm_ltN hN rfl), ?_⟩))
  show R 132 58 [(0, .ref 42), (1, .int p1), (2, .int p2)] [] (N, hm_sh L g, (hm_w1 (hm_w1 (hm_w1 (T_179 (T_179 (T_181 (hm_w1 (hm_w1 s 42 2 (1 <<< (((2 * p1) : Int32) &&& 31))) 42 3 p2) 44 1024 (-1)) 46 1025 0 0) 46 1025 1 ((T_179 (T_181 (hm_w1 (hm_w1 s 42 2 (1 <<< (((2 * p1) : Int32) &&& 31))) 42 3 p2) 44 1024 (-1)) 46 1025 0 0) 42 2)) 42 4 1) 42 5 0) 42 6 0)) _ Q
  exact hm_st hR (hq)
/-- CurvekeyHouse$Cells.clear(I)V -/
def T_69 (s : hm_St) (p1 : Int32) : hm_St := (T_181 (hm_w1 s 47 1 p1) 49 1365 0)
theorem N_69 {c j : Nat} (h47 : c ≠ 47) (h49 : c ≠ 49) {s : hm_St} {p1 : Int32} : (T_69 s p1) c j = s c j := by
  unfold T_69
  repeat' split
  all_goals first | with_reducible rfl | simp only [hm_w1n h47, hm_w1n h49, N_181 h47, N_181 h49]
set_option maxRecDepth 20000 in
theorem sp_69 {R : hm_R} (hR : hm_Cm R) {N L : Nat} {g : Nat → hm_Sh} {s : hm_St} {b : hm_B} {Q : hm_Q} (hN : 68 ≤ N) {p1 : Int32} (hq : Q (.inr none) (N, hm_sh L g, (T_69 s p1))) : R 69 0 (lv_args 0 [.ref 47, .int p1]) [] (N, hm_sh L g, s) b Q := by
  unfold T_69 at hq
  show R 69 0 [(0, .ref 47), (1, .int p1)] [] (N, hm_sh L g, s) _ Q
  refine hm_st hR (hm_st hR (hm_st hR ⟨rfl, rfl, hm_le rfl, (hm_ltN hN rfl), ?_⟩))
  show R 69 5 [(0, .ref 47), (1, .int p1)] [] (N, hm_sh L g, (hm_w1 s 47 1 p1)) _ Q
  refine hm_st hR (hm_st hR ⟨rfl, hm_le rfl, (hm_ltN hN rfl), hm_st hR (?_)⟩)
  refine hm_st hR ⟨hm_le rfl, rfl, (hm_le rfl), (hm_ltN hN rfl), hm_le rfl, hm_le rfl, (0, 0), Nat.zero_le _, Nat.zero_le _, ?_⟩
  refine sp_181 hR hN (rr := 48) (aa := 49) (nn := 1365) rfl rfl (hm_le rfl) (hm_ltN hN rfl) rfl rfl (hm_le rfl) (hm_ltN hN rfl) (by decide) ?_
  show R 69 13 [(0, .ref 47), (1, .int p1)] [] (N, hm_sh L g, (T_181 (hm_w1 s 47 1 p1) 49 1365 0)) _ Q
  exact hm_st hR (hq)
/-- CurvekeyHouse$Tiles.clear()V -/
def T_185 (s : hm_St) : hm_St := (hm_w1 s 50 4 0)
theorem N_185 {c j : Nat} (h50 : c ≠ 50) {s : hm_St} : (T_185 s) c j = s c j := by
  unfold T_185
  repeat' split
  all_goals first | with_reducible rfl | simp only [hm_w1n h50]
set_option maxRecDepth 20000 in
theorem sp_185 {R : hm_R} (hR : hm_Cm R) {N L : Nat} {g : Nat → hm_Sh} {s : hm_St} {b : hm_B} {Q : hm_Q} (hN : 68 ≤ N) (hq : Q (.inr none) (N, hm_sh L g, (T_185 s))) : R 185 0 (lv_args 0 [.ref 50]) [] (N, hm_sh L g, s) b Q := by
  unfold T_185 at hq
  show R 185 0 [(0, .ref 50)] [] (N, hm_sh L g, s) _ Q
  refine hm_st hR (hm_st hR (hm_st hR ⟨rfl, rfl, hm_le rfl, (hm_ltN hN rfl), ?_⟩))
  show R 185 5 [(0, .ref 50)] [] (N, hm_sh L g, (hm_w1 s 50 4 0)) _ Q
  exact hm_st hR (hq)
/-- CurvekeyHouse.found(III)I -/
def T_4 (N : Nat) (g : Nat → hm_Sh) (s : hm_St) (p1 : Int32) (p2 : Int32) (p3 : Int32) : hm_Er Int32 := (if (T_34 s p1 1 5) = 0 then (1, 0, N, g, s) else (if (T_35 s p2) = 0 then (1, 0, N, g, s) else (if ((if (T_34 s p3 2 8) = 0 then (0 : Int32) else 1) : Int32) = 0 then (1, 0, N, g, s) else (0, (T_87 (hm_w1 (hm_w1 (hm_w1 (hm_w1 (T_185 (T_69 (T_132 (T_111 (T_156 (T_92 (hm_w1 s 2 8 p2) p1))) p1 p3) p1)) 2 9 1) 2 10 0) 2 11 0) 2 12 0)), N, g, (hm_w1 (hm_w1 (hm_w1 (hm_w1 (T_185 (T_69 (T_132 (T_111 (T_156 (T_92 (hm_w1 s 2 8 p2) p1))) p1 p3) p1)) 2 9 1) 2 10 0) 2 11 0) 2 12 0)))))
theorem N_4 {c j : Nat} (h2 : c ≠ 2) (h3 : c ≠ 3) (h9 : c ≠ 9) (h11 : c ≠ 11) (h13 : c ≠ 13) (h14 : c ≠ 14) (h25 : c ≠ 25) (h42 : c ≠ 42) (h44 : c ≠ 44) (h46 : c ≠ 46) (h47 : c ≠ 47) (h49 : c ≠ 49) (h50 : c ≠ 50) {N : Nat} {g : Nat → hm_Sh} {s : hm_St} {p1 : Int32} {p2 : Int32} {p3 : Int32} : (T_4 N g s p1 p2 p3).2.2.2.2 c j = s c j := by
  unfold T_4
  repeat' split
  all_goals first | with_reducible rfl | simp only [hm_w1n h2, hm_w1n h3, hm_w1n h9, hm_w1n h11, hm_w1n h13, hm_w1n h14, hm_w1n h25, hm_w1n h42, hm_w1n h44, hm_w1n h46, hm_w1n h47, hm_w1n h49, hm_w1n h50, N_69 h47 h49, N_92 h3 h9 h11 h13, N_111 h25, N_132 h42 h44 h46, N_156 h14, N_185 h50]
set_option maxRecDepth 20000 in
theorem sp_4 {R : hm_R} (hR : hm_Cm R) {N L : Nat} {g : Nat → hm_Sh} {s : hm_St} {b : hm_B} {Q : hm_Q} (hN : 68 ≤ N) (hb1 : 1 ≤ b.1) (hb2 : 6 ≤ b.2) {p1 : Int32} {p2 : Int32} {p3 : Int32} (hq : hm_qx Q L (fun v => some (.int v)) (T_4 N g s p1 p2 p3)) : R 4 0 (lv_args 0 [.ref 2, .int p1, .int p2, .int p3]) [] (N, hm_sh L g, s) b Q := by
  unfold T_4 at hq
  show R 4 0 [(0, .ref 2), (1, .int p1), (2, .int p2), (3, .int p3)] [] (N, hm_sh L g, s) _ Q
  refine hm_st hR (hm_st hR (hm_st hR (?_)))
  refine hm_st hR ⟨hm_le rfl, hm_le rfl, hm_le rfl, (0, 0), Nat.zero_le _, Nat.zero_le _, ?_⟩
  refine sp_34 hR hN ?_
  show R 4 6 [(0, .ref 2), (1, .int p1), (2, .int p2), (3, .int p3)] [.int (T_34 s p1 1 5)] (N, hm_sh L g, s) _ Q
  show R 4 6 [(0, .ref 2), (1, .int p1), (2, .int p2), (3, .int p3)] [.int (T_34 s p1 1 5)] (N, hm_sh L g, s) _ Q
  refine hm_st hR ⟨fun c6 => ?_, fun c6 => ?_⟩
  · rw [if_pos c6] at hq
    show R 4 30 [(0, .ref 2), (1, .int p1), (2, .int p2), (3, .int p3)] [] (N, hm_sh L g, s) _ Q
    refine hm_st hR (?_)
    show R 4 31 [(0, .ref 2), (1, .int p1), (2, .int p2), (3, .int p3)] [.int 0] (N, hm_sh L g, s) _ Q
    exact hm_st hR ⟨hm_le rfl, hm_le rfl, hm_le rfl, (1, 6), (by show 1 ≤ b.1 - 0; omega), (by show 6 ≤ b.2 - 0; omega), hm_needT31 hR hN rfl (fun N2 hN2 => hm_KX (by decide) (hq N2 hN2))⟩
  · rw [if_neg c6] at hq
    show R 4 9 [(0, .ref 2), (1, .int p1), (2, .int p2), (3, .int p3)] [] (N, hm_sh L g, s) _ Q
    refine hm_st hR (?_)
    refine hm_st hR ⟨hm_le rfl, hm_le rfl, hm_le rfl, (0, 0), Nat.zero_le _, Nat.zero_le _, ?_⟩
    refine sp_35 hR hN ?_
    show R 4 13 [(0, .ref 2), (1, .int p1), (2, .int p2), (3, .int p3)] [.int (T_35 s p2)] (N, hm_sh L g, s) _ Q
    show R 4 13 [(0, .ref 2), (1, .int p1), (2, .int p2), (3, .int p3)] [.int (T_35 s p2)] (N, hm_sh L g, s) _ Q
    refine hm_st hR ⟨fun c13 => ?_, fun c13 => ?_⟩
    · rw [if_pos c13] at hq
      show R 4 30 [(0, .ref 2), (1, .int p1), (2, .int p2), (3, .int p3)] [] (N, hm_sh L g, s) _ Q
      refine hm_st hR (?_)
      show R 4 31 [(0, .ref 2), (1, .int p1), (2, .int p2), (3, .int p3)] [.int 0] (N, hm_sh L g, s) _ Q
      exact hm_st hR ⟨hm_le rfl, hm_le rfl, hm_le rfl, (1, 6), (by show 1 ≤ b.1 - 0 - 0; omega), (by show 6 ≤ b.2 - 0 - 0; omega), hm_needT31 hR hN rfl (fun N2 hN2 => hm_KX (by decide) (hq N2 hN2))⟩
    · rw [if_neg c13] at hq
      show R 4 16 [(0, .ref 2), (1, .int p1), (2, .int p2), (3, .int p3)] [] (N, hm_sh L g, s) _ Q
      refine hm_st hR (hm_st hR (hm_st hR (?_)))
      refine hm_st hR ⟨hm_le rfl, hm_le rfl, hm_le rfl, (0, 0), Nat.zero_le _, Nat.zero_le _, ?_⟩
      refine sp_34 hR hN ?_
      show R 4 23 [(0, .ref 2), (1, .int p1), (2, .int p2), (3, .int p3)] [.int (T_34 s p3 2 8)] (N, hm_sh L g, s) _ Q
      show R 4 23 [(0, .ref 2), (1, .int p1), (2, .int p2), (3, .int p3)] [.int (T_34 s p3 2 8)] (N, hm_sh L g, s) _ Q
      suffices G : ∀ w : Int32, w = (if (T_34 s p3 2 8) = 0 then (0 : Int32) else 1) → R 4 31 [(0, .ref 2), (1, .int p1), (2, .int p2), (3, .int p3)] [.int w] (N, hm_sh L g, s) (b.1 - 0 - 0 - 0, b.2 - 0 - 0 - 0) Q by
        show R 4 23 [(0, .ref 2), (1, .int p1), (2, .int p2), (3, .int p3)] [.int (T_34 s p3 2 8)] (N, hm_sh L g, s) _ Q
        refine hm_st hR ⟨fun c => ?_, fun c => ?_⟩
        · exact hm_st hR (G _ (if_pos c).symm)
        · exact hm_st hR (hm_st hR (G _ (if_neg c).symm))
      intro w hw
      subst hw
      show R 4 31 [(0, .ref 2), (1, .int p1), (2, .int p2), (3, .int p3)] [.int (if (T_34 s p3 2 8) = 0 then (0 : Int32) else 1)] (N, hm_sh L g, s) _ Q
      show R 4 31 [(0, .ref 2), (1, .int p1), (2, .int p2), (3, .int p3)] [.int (if (T_34 s p3 2 8) = 0 then (0 : Int32) else 1)] (N, hm_sh L g, s) _ Q
      by_cases c31 : ((if (T_34 s p3 2 8) = 0 then (0 : Int32) else 1) : Int32) = 0
      · rw [if_pos c31] at hq
        exact hm_st hR ⟨hm_le rfl, hm_le rfl, hm_le rfl, (1, 6), (by show 1 ≤ b.1 - 0 - 0 - 0; omega), (by show 6 ≤ b.2 - 0 - 0 - 0; omega), hm_needT31 hR hN c31 (fun N2 hN2 => hm_KX (by decide) (hq N2 hN2))⟩
      · rw [if_neg c31] at hq
        refine hm_st hR ⟨hm_le rfl, hm_le rfl, hm_le rfl, (0, 0), Nat.zero_le _, Nat.zero_le _, hm_needP31 hR c31 ?_⟩
        show R 4 34 [(0, .ref 2), (1, .int p1), (2, .int p2), (3, .int p3)] [] (N, hm_sh L g, s) _ Q
        refine hm_st hR (hm_st hR (hm_st hR ⟨rfl, rfl, hm_le rfl, (hm_ltN hN rfl), ?_⟩))
        show R 4 39 [(0, .ref 2), (1, .int p1), (2, .int p2), (3, .int p3)] [] (N, hm_sh L g, (hm_w1 s 2 8 p2)) _ Q
        refine hm_st hR (hm_st hR ⟨rfl, hm_le rfl, (hm_ltN hN rfl), hm_st hR (?_)⟩)
        refine hm_st hR ⟨hm_le rfl, rfl, (hm_le rfl), (hm_ltN hN rfl), hm_le rfl, hm_le rfl, (0, 0), Nat.zero_le _, Nat.zero_le _, ?_⟩
        refine sp_92 hR hN ?_
        show R 4 47 [(0, .ref 2), (1, .int p1), (2, .int p2), (3, .int p3)] [] (N, hm_sh L g, (T_92 (hm_w1 s 2 8 p2) p1)) _ Q
        refine hm_st hR (hm_st hR ⟨rfl, hm_le rfl, (hm_ltN hN rfl), ?_⟩)
        refine hm_st hR ⟨hm_le rfl, rfl, (hm_le rfl), (hm_ltN hN rfl), hm_le rfl, hm_le rfl, (0, 0), Nat.zero_le _, Nat.zero_le _, ?_⟩
        refine sp_156 hR hN ?_
        show R 4 54 [(0, .ref 2), (1, .int p1), (2, .int p2), (3, .int p3)] [] (N, hm_sh L g, (T_156 (T_92 (hm_w1 s 2 8 p2) p1))) _ Q
        refine hm_st hR (hm_st hR ⟨rfl, hm_le rfl, (hm_ltN hN rfl), ?_⟩)
        refine hm_st hR ⟨hm_le rfl, rfl, (hm_le rfl), (hm_ltN hN rfl), hm_le rfl, hm_le rfl, (0, 0), Nat.zero_le _, Nat.zero_le _, ?_⟩
        refine sp_111 hR hN ?_
        show R 4 61 [(0, .ref 2), (1, .int p1), (2, .int p2), (3, .int p3)] [] (N, hm_sh L g, (T_111 (T_156 (T_92 (hm_w1 s 2 8 p2) p1)))) _ Q
        refine hm_st hR (hm_st hR ⟨rfl, hm_le rfl, (hm_ltN hN rfl), hm_st hR (hm_st hR (?_))⟩)
        refine hm_st hR ⟨hm_le rfl, rfl, (hm_le rfl), (hm_ltN hN rfl), hm_le rfl, hm_le rfl, (0, 0), Nat.zero_le _, Nat.zero_le _, ?_⟩
        refine sp_132 hR hN ?_
        show R 4 70 [(0, .ref 2), (1, .int p1), (2, .int p2), (3, .int p3)] [] (N, hm_sh L g, (T_132 (T_111 (T_156 (T_92 (hm_w1 s 2 8 p2) p1))) p1 p3)) _ Q
        refine hm_st hR (hm_st hR ⟨rfl, hm_le rfl, (hm_ltN hN rfl), hm_st hR (?_)⟩)
        refine hm_st hR ⟨hm_le rfl, rfl, (hm_le rfl), (hm_ltN hN rfl), hm_le rfl, hm_le rfl, (0, 0), Nat.zero_le _, Nat.zero_le _, ?_⟩
        refine sp_69 hR hN ?_
        show R 4 78 [(0, .ref 2), (1, .int p1), (2, .int p2), (3, .int p3)] [] (N, hm_sh L g, (T_69 (T_132 (T_111 (T_156 (T_92 (hm_w1 s 2 8 p2) p1))) p1 p3) p1)) _ Q
        refine hm_st hR (hm_st hR ⟨rfl, hm_le rfl, (hm_ltN hN rfl), ?_⟩)
        refine hm_st hR ⟨hm_le rfl, rfl, (hm_le rfl), (hm_ltN hN rfl), hm_le rfl, hm_le rfl, (0, 0), Nat.zero_le _, Nat.zero_le _, ?_⟩
        refine sp_185 hR hN ?_
        show R 4 85 [(0, .ref 2), (1, .int p1), (2, .int p2), (3, .int p3)] [] (N, hm_sh L g, (T_185 (T_69 (T_132 (T_111 (T_156 (T_92 (hm_w1 s 2 8 p2) p1))) p1 p3) p1))) _ Q
        refine hm_st hR (hm_st hR (hm_st hR ⟨rfl, rfl, hm_le rfl, (hm_ltN hN rfl), ?_⟩))
        show R 4 90 [(0, .ref 2), (1, .int p1), (2, .int p2), (3, .int p3)] [] (N, hm_sh L g, (hm_w1 (T_185 (T_69 (T_132 (T_111 (T_156 (T_92 (hm_w1 s 2 8 p2) p1))) p1 p3) p1)) 2 9 1)) _ Q
        refine hm_st hR (hm_st hR (hm_st hR ⟨rfl, rfl, hm_le rfl, (hm_ltN hN rfl), ?_⟩))
        show R 4 95 [(0, .ref 2), (1, .int p1), (2, .int p2), (3, .int p3)] [] (N, hm_sh L g, (hm_w1 (hm_w1 (T_185 (T_69 (T_132 (T_111 (T_156 (T_92 (hm_w1 s 2 8 p2) p1))) p1 p3) p1)) 2 9 1) 2 10 0)) _ Q
        refine hm_st hR (hm_st hR (hm_st hR ⟨rfl, rfl, hm_le rfl, (hm_ltN hN rfl), ?_⟩))
        show R 4 100 [(0, .ref 2), (1, .int p1), (2, .int p2), (3, .int p3)] [] (N, hm_sh L g, (hm_w1 (hm_w1 (hm_w1 (T_185 (T_69 (T_132 (T_111 (T_156 (T_92 (hm_w1 s 2 8 p2) p1))) p1 p3) p1)) 2 9 1) 2 10 0) 2 11 0)) _ Q
        refine hm_st hR (hm_st hR (hm_st hR ⟨rfl, rfl, hm_le rfl, (hm_ltN hN rfl), ?_⟩))
        show R 4 105 [(0, .ref 2), (1, .int p1), (2, .int p2), (3, .int p3)] [] (N, hm_sh L g, (hm_w1 (hm_w1 (hm_w1 (hm_w1 (T_185 (T_69 (T_132 (T_111 (T_156 (T_92 (hm_w1 s 2 8 p2) p1))) p1 p3) p1)) 2 9 1) 2 10 0) 2 11 0) 2 12 0)) _ Q
        refine hm_st hR (hm_st hR ⟨rfl, hm_le rfl, (hm_ltN hN rfl), ?_⟩)
        refine hm_st hR ⟨hm_le rfl, rfl, (hm_le rfl), (hm_ltN hN rfl), hm_le rfl, hm_le rfl, (0, 0), Nat.zero_le _, Nat.zero_le _, ?_⟩
        refine sp_87 hR hN ?_
        show R 4 112 [(0, .ref 2), (1, .int p1), (2, .int p2), (3, .int p3)] [.int (T_87 (hm_w1 (hm_w1 (hm_w1 (hm_w1 (T_185 (T_69 (T_132 (T_111 (T_156 (T_92 (hm_w1 s 2 8 p2) p1))) p1 p3) p1)) 2 9 1) 2 10 0) 2 11 0) 2 12 0))] (N, hm_sh L g, (hm_w1 (hm_w1 (hm_w1 (hm_w1 (T_185 (T_69 (T_132 (T_111 (T_156 (T_92 (hm_w1 s 2 8 p2) p1))) p1 p3) p1)) 2 9 1) 2 10 0) 2 11 0) 2 12 0)) _ Q
        exact hm_st hR ⟨fun z => absurd z (by decide), hm_qx0 hq⟩
/-- CurvekeyHouse.keyAt(II)I -/
def T_39 (s : hm_St) (p1 : Int32) (p2 : Int32) : Int32 := (T_88 s (s 2 8) p1 p2)
set_option maxRecDepth 20000 in
theorem sp_39 {R : hm_R} (hR : hm_Cm R) {N L : Nat} {g : Nat → hm_Sh} {s : hm_St} {b : hm_B} {Q : hm_Q} (hN : 68 ≤ N) {p1 : Int32} {p2 : Int32} (hq : Q (.inr (some (.int (T_39 s p1 p2)))) (N, hm_sh L g, s)) : R 39 0 (lv_args 0 [.ref 2, .int p1, .int p2]) [] (N, hm_sh L g, s) b Q := by
  unfold T_39 at hq
  show R 39 0 [(0, .ref 2), (1, .int p1), (2, .int p2)] [] (N, hm_sh L g, s) _ Q
  refine hm_st hR (hm_st hR ⟨rfl, hm_le rfl, (hm_ltN hN rfl), hm_st hR (hm_st hR ⟨rfl, hm_le rfl, (hm_ltN hN rfl), hm_st hR (hm_st hR (?_))⟩)⟩)
  refine hm_st hR ⟨hm_le rfl, rfl, (hm_le rfl), (hm_ltN hN rfl), hm_le rfl, hm_le rfl, (0, 0), Nat.zero_le _, Nat.zero_le _, ?_⟩
  refine sp_88 hR hN ?_
  show R 39 13 [(0, .ref 2), (1, .int p1), (2, .int p2)] [.int (T_88 s (s 2 8) p1 p2)] (N, hm_sh L g, s) _ Q
  exact hm_st hR ⟨fun z => absurd z (by decide), hq⟩
/-- CurvekeyHouse$Pages.holder(I)I -/
def T_140 (s : hm_St) (p1 : Int32) : Int32 := (hm_max (-1) (T_178 s 44 1024 p1))
set_option maxRecDepth 20000 in
theorem sp_140 {R : hm_R} (hR : hm_Cm R) {N L : Nat} {g : Nat → hm_Sh} {s : hm_St} {b : hm_B} {Q : hm_Q} (hN : 68 ≤ N) {p1 : Int32} (hq : Q (.inr (some (.int (T_140 s p1)))) (N, hm_sh L g, s)) : R 140 0 (lv_args 0 [.ref 42, .int p1]) [] (N, hm_sh L g, s) b Q := by
  unfold T_140 at hq
  show R 140 0 [(0, .ref 42), (1, .int p1)] [] (N, hm_sh L g, s) _ Q
  refine hm_st hR (hm_st hR (hm_st hR ⟨rfl, hm_le rfl, (hm_ltN hN rfl), hm_st hR (?_)⟩))
  refine hm_st hR ⟨hm_le rfl, rfl, (hm_le rfl), (hm_ltN hN rfl), hm_le rfl, hm_le rfl, (0, 0), Nat.zero_le _, Nat.zero_le _, ?_⟩
  refine sp_178 hR hN (rr := 43) (aa := 44) (nn := 1024) rfl rfl (hm_le rfl) (hm_ltN hN rfl) rfl rfl (hm_le rfl) (hm_ltN hN rfl) (by decide) ?_
  show R 140 9 [(0, .ref 42), (1, .int p1)] [.int (T_178 s 44 1024 p1), .int (-1)] (N, hm_sh L g, s) _ Q
  refine hm_st hR ⟨hm_le rfl, ?_⟩
  show R 140 12 [(0, .ref 42), (1, .int p1)] [.int (hm_max (-1) (T_178 s 44 1024 p1))] (N, hm_sh L g, s) _ Q
  exact hm_st hR ⟨fun z => absurd z (by decide), hq⟩
