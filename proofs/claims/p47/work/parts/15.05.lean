/-! The methods as functions; the abstract machine does them. -/
def T_99_19 (O : hm_St → Int32 → Int32 → Int32 → Int32 → hm_St) : Nat → hm_St → Int32 → Int32 → Int32 → Int32 → Int32 → hm_St
  | 0, s, _, _, _, _, _ => s
  | n + 1, s, v1, v2, v3, v4, v5 => (if (s 3 6) ≤ v5 then (O s v1 v2 v3 (v4 + 1)) else (if (s 3 6) ≤ (v5 + 1) then (if (s 3 6) ≤ (v4 + 1) then (T_99_19 O n s v1 (hm_max v2 (hm_max 0 0)) (v3 + (0 + 0)) v4 (v5 + 1)) else (T_99_19 O n s v1 (hm_max v2 (hm_max 0 (hm_abs ((T_88 s v1 v5 v4) - (T_88 s v1 v5 (v4 + 1)))))) (v3 + (0 + (hm_abs ((T_88 s v1 v5 v4) - (T_88 s v1 v5 (v4 + 1)))))) v4 (v5 + 1))) else (if (s 3 6) ≤ (v4 + 1) then (T_99_19 O n s v1 (hm_max v2 (hm_max (hm_abs ((T_88 s v1 v5 v4) - (T_88 s v1 (v5 + 1) v4))) 0)) (v3 + ((hm_abs ((T_88 s v1 v5 v4) - (T_88 s v1 (v5 + 1) v4))) + 0)) v4 (v5 + 1)) else (T_99_19 O n s v1 (hm_max v2 (hm_max (hm_abs ((T_88 s v1 v5 v4) - (T_88 s v1 (v5 + 1) v4))) (hm_abs ((T_88 s v1 v5 v4) - (T_88 s v1 v5 (v4 + 1)))))) (v3 + ((hm_abs ((T_88 s v1 v5 v4) - (T_88 s v1 (v5 + 1) v4))) + (hm_abs ((T_88 s v1 v5 v4) - (T_88 s v1 v5 (v4 + 1)))))) v4 (v5 + 1)))))
def T_99_7 : Nat → hm_St → Int32 → Int32 → Int32 → Int32 → hm_St
  | 0, s, _, _, _, _ => s
  | n + 1, s, v1, v2, v3, v4 => (if (s 3 6) ≤ v4 then (T_179 (T_179 s 13 24 ((v1 * 4) + 1) v2) 13 24 ((v1 * 4) + 2) v3) else (T_99_19 (fun s v1 v2 v3 v4 => T_99_7 n s v1 v2 v3 v4) (hm_df (s 3 6) 0 + 1) s v1 v2 v3 v4 0))
/-- CurvekeyHouse$Curves.weighNeighbours(I)V -/
def T_99 (s : hm_St) (p1 : Int32) : hm_St := (T_99_7 (hm_df (s 3 6) 0 + 1) s p1 0 0 0)
set_option maxRecDepth 20000 in
theorem lp_99_19 {R : hm_R} (hR : hm_Cm R) {N L : Nat} {g : Nat → hm_Sh} {b : hm_B} {Q : hm_Q} (hN : 68 ≤ N) {O : hm_St → Int32 → Int32 → Int32 → Int32 → hm_St} {nO : Nat} (hO : ∀ (s : hm_St) (v1 : Int32) (v2 : Int32) (v3 : Int32) (v4 : Int32), hm_df (s 3 6) v4 < nO → (Q (.inr none) (N, hm_sh L g, (O s v1 v2 v3 v4))) → R 99 7 [(4, .int v4), (3, .int v3), (2, .int v2), (0, .ref 3), (1, .int v1)] [] (N, hm_sh L g, s) b Q) : ∀ (n : Nat) (s : hm_St) (v1 : Int32) (v2 : Int32) (v3 : Int32) (v4 : Int32) (v5 : Int32), hm_df (s 3 6) v5 < n → (hPO : hm_df (s 3 6) (v4 + 1) < nO) → (hq : Q (.inr none) (N, hm_sh L g, (T_99_19 O n s v1 v2 v3 v4 v5))) → R 99 19 [(5, .int v5), (4, .int v4), (3, .int v3), (2, .int v2), (0, .ref 3), (1, .int v1)] [] (N, hm_sh L g, s) b Q := by
  intro n
  induction n with
  | zero => intro s v1 v2 v3 v4 v5 hm hPO _; exact absurd hm (Nat.not_lt_zero _)
  | succ n ih =>
    intro s v1 v2 v3 v4 v5 hm hPO hq
    unfold T_99_19 at hq
    refine hm_st hR (hm_st hR (hm_st hR ⟨rfl, hm_le rfl, (hm_ltN hN rfl), ?_⟩))
    show R 99 25 [(5, .int v5), (4, .int v4), (3, .int v3), (2, .int v2), (0, .ref 3), (1, .int v1)] [.int (s 3 6), .int v5] (N, hm_sh L g, s) _ Q
    refine hm_st hR ⟨fun c25 => ?_, fun c25 => ?_⟩
    · rw [if_pos c25] at hq
      show R 99 136 [(5, .int v5), (4, .int v4), (3, .int v3), (2, .int v2), (0, .ref 3), (1, .int v1)] [] (N, hm_sh L g, s) _ Q
      refine hm_st hR (hm_st hR (?_))
      show R 99 7 [(4, .int (v4 + 1)), (5, .int v5), (3, .int v3), (2, .int v2), (0, .ref 3), (1, .int v1)] [] (N, hm_sh L g, s) _ Q
      exact hm_lvS hR (by intro q hq; simp only [List.mem_cons, List.not_mem_nil, or_false] at hq ⊢; rcases hq with rfl | rfl | rfl | rfl | rfl <;> simp) (hO s v1 v2 v3 (v4 + 1) hPO hq)
    · rw [if_neg c25] at hq
      show R 99 28 [(5, .int v5), (4, .int v4), (3, .int v3), (2, .int v2), (0, .ref 3), (1, .int v1)] [] (N, hm_sh L g, s) _ Q
      refine hm_st hR (hm_st hR (hm_st hR (hm_st hR (hm_st hR ⟨rfl, hm_le rfl, (hm_ltN hN rfl), ?_⟩))))
      show R 99 36 [(5, .int v5), (4, .int v4), (3, .int v3), (2, .int v2), (0, .ref 3), (1, .int v1)] [.int (s 3 6), .int (v5 + 1)] (N, hm_sh L g, s) _ Q
      refine hm_st hR ⟨fun c36 => ?_, fun c36 => ?_⟩
      · rw [if_pos c36] at hq
        show R 99 66 [(5, .int v5), (4, .int v4), (3, .int v3), (2, .int v2), (0, .ref 3), (1, .int v1)] [] (N, hm_sh L g, s) _ Q
        refine hm_st hR (hm_st hR (hm_st hR (hm_st hR (hm_st hR (hm_st hR (hm_st hR ⟨rfl, hm_le rfl, (hm_ltN hN rfl), ?_⟩))))))
        show R 99 77 [(6, .int 0), (5, .int v5), (4, .int v4), (3, .int v3), (2, .int v2), (0, .ref 3), (1, .int v1)] [.int (s 3 6), .int (v4 + 1)] (N, hm_sh L g, s) _ Q
        refine hm_st hR ⟨fun c77 => ?_, fun c77 => ?_⟩
        · rw [if_pos c77] at hq
          show R 99 107 [(6, .int 0), (5, .int v5), (4, .int v4), (3, .int v3), (2, .int v2), (0, .ref 3), (1, .int v1)] [] (N, hm_sh L g, s) _ Q
          refine hm_st hR (hm_st hR (hm_st hR (hm_st hR (hm_st hR (hm_st hR ⟨hm_le rfl, ?_⟩)))))
          show R 99 118 [(7, .int 0), (6, .int 0), (5, .int v5), (4, .int v4), (3, .int v3), (2, .int v2), (0, .ref 3), (1, .int v1)] [.int (hm_max 0 0), .int v2] (N, hm_sh L g, s) _ Q
          refine hm_st hR ⟨hm_le rfl, ?_⟩
          show R 99 121 [(7, .int 0), (6, .int 0), (5, .int v5), (4, .int v4), (3, .int v3), (2, .int v2), (0, .ref 3), (1, .int v1)] [.int (hm_max v2 (hm_max 0 0))] (N, hm_sh L g, s) _ Q
          refine hm_st hR (hm_st hR (hm_st hR (hm_st hR (hm_st hR (hm_st hR (hm_st hR (hm_st hR (hm_st hR (?_)))))))))
          show R 99 19 [(5, .int (v5 + 1)), (3, .int (v3 + (0 + 0))), (2, .int (hm_max v2 (hm_max 0 0))), (7, .int 0), (6, .int 0), (4, .int v4), (0, .ref 3), (1, .int v1)] [] (N, hm_sh L g, s) _ Q
          exact hm_lvS hR (by intro q hq; simp only [List.mem_cons, List.not_mem_nil, or_false] at hq ⊢; rcases hq with rfl | rfl | rfl | rfl | rfl | rfl <;> simp) (ih s v1 (hm_max v2 (hm_max 0 0)) (v3 + (0 + 0)) v4 (v5 + 1) (hm_dcx c25 hm) hPO hq)
        · rw [if_neg c77] at hq
          show R 99 80 [(6, .int 0), (5, .int v5), (4, .int v4), (3, .int v3), (2, .int v2), (0, .ref 3), (1, .int v1)] [] (N, hm_sh L g, s) _ Q
          refine hm_st hR (hm_st hR (hm_st hR (hm_st hR (?_))))
          refine hm_st hR ⟨hm_le rfl, rfl, (hm_le rfl), (hm_ltN hN rfl), hm_le rfl, hm_le rfl, (0, 0), Nat.zero_le _, Nat.zero_le _, ?_⟩
          refine sp_88 hR hN ?_
          show R 99 89 [(6, .int 0), (5, .int v5), (4, .int v4), (3, .int v3), (2, .int v2), (0, .ref 3), (1, .int v1)] [.int (T_88 s v1 v5 v4)] (N, hm_sh L g, s) _ Q
          refine hm_st hR (hm_st hR (hm_st hR (hm_st hR (hm_st hR (hm_st hR (?_))))))
          refine hm_st hR ⟨hm_le rfl, rfl, (hm_le rfl), (hm_ltN hN rfl), hm_le rfl, hm_le rfl, (0, 0), Nat.zero_le _, Nat.zero_le _, ?_⟩
          refine sp_88 hR hN ?_
          show R 99 100 [(6, .int 0), (5, .int v5), (4, .int v4), (3, .int v3), (2, .int v2), (0, .ref 3), (1, .int v1)] [.int (T_88 s v1 v5 (v4 + 1)), .int (T_88 s v1 v5 v4)] (N, hm_sh L g, s) _ Q
          refine hm_st hR (hm_st hR ⟨hm_le rfl, ?_⟩)
          show R 99 104 [(6, .int 0), (5, .int v5), (4, .int v4), (3, .int v3), (2, .int v2), (0, .ref 3), (1, .int v1)] [.int (hm_abs ((T_88 s v1 v5 v4) - (T_88 s v1 v5 (v4 + 1))))] (N, hm_sh L g, s) _ Q
          refine hm_st hR (hm_st hR (hm_st hR (hm_st hR (hm_st hR (hm_st hR ⟨hm_le rfl, ?_⟩)))))
          show R 99 118 [(7, .int (hm_abs ((T_88 s v1 v5 v4) - (T_88 s v1 v5 (v4 + 1))))), (6, .int 0), (5, .int v5), (4, .int v4), (3, .int v3), (2, .int v2), (0, .ref 3), (1, .int v1)] [.int (hm_max 0 (hm_abs ((T_88 s v1 v5 v4) - (T_88 s v1 v5 (v4 + 1))))), .int v2] (N, hm_sh L g, s) _ Q
          refine hm_st hR ⟨hm_le rfl, ?_⟩
          show R 99 121 [(7, .int (hm_abs ((T_88 s v1 v5 v4) - (T_88 s v1 v5 (v4 + 1))))), (6, .int 0), (5, .int v5), (4, .int v4), (3, .int v3), (2, .int v2), (0, .ref 3), (1, .int v1)] [.int (hm_max v2 (hm_max 0 (hm_abs ((T_88 s v1 v5 v4) - (T_88 s v1 v5 (v4 + 1))))))] (N, hm_sh L g, s) _ Q
          refine hm_st hR (hm_st hR (hm_st hR (hm_st hR (hm_st hR (hm_st hR (hm_st hR (hm_st hR (hm_st hR (?_)))))))))
          show R 99 19 [(5, .int (v5 + 1)), (3, .int (v3 + (0 + (hm_abs ((T_88 s v1 v5 v4) - (T_88 s v1 v5 (v4 + 1))))))), (2, .int (hm_max v2 (hm_max 0 (hm_abs ((T_88 s v1 v5 v4) - (T_88 s v1 v5 (v4 + 1))))))), (7, .int (hm_abs ((T_88 s v1 v5 v4) - (T_88 s v1 v5 (v4 + 1))))), (6, .int 0), (4, .int v4), (0, .ref 3), (1, .int v1)] [] (N, hm_sh L g, s) _ Q
          exact hm_lvS hR (by intro q hq; simp only [List.mem_cons, List.not_mem_nil, or_false] at hq ⊢; rcases hq with rfl | rfl | rfl | rfl | rfl | rfl <;> simp) (ih s v1 (hm_max v2 (hm_max 0 (hm_abs ((T_88 s v1 v5 v4) - (T_88 s v1 v5 (v4 + 1)))))) (v3 + (0 + (hm_abs ((T_88 s v1 v5 v4) - (T_88 s v1 v5 (v4 + 1)))))) v4 (v5 + 1) (hm_dcx c25 hm) hPO hq)
      · rw [if_neg c36] at hq
        show R 99 39 [(5, .int v5), (4, .int v4), (3, .int v3), (2, .int v2), (0, .ref 3), (1, .int v1)] [] (N, hm_sh L g, s) _ Q
        refine hm_st hR (hm_st hR (hm_st hR (hm_st hR (?_))))
        refine hm_st hR ⟨hm_le rfl, rfl, (hm_le rfl), (hm_ltN hN rfl), hm_le rfl, hm_le rfl, (0, 0), Nat.zero_le _, Nat.zero_le _, ?_⟩
        refine sp_88 hR hN ?_
        show R 99 48 [(5, .int v5), (4, .int v4), (3, .int v3), (2, .int v2), (0, .ref 3), (1, .int v1)] [.int (T_88 s v1 v5 v4)] (N, hm_sh L g, s) _ Q
        refine hm_st hR (hm_st hR (hm_st hR (hm_st hR (hm_st hR (hm_st hR (?_))))))
        refine hm_st hR ⟨hm_le rfl, rfl, (hm_le rfl), (hm_ltN hN rfl), hm_le rfl, hm_le rfl, (0, 0), Nat.zero_le _, Nat.zero_le _, ?_⟩
        refine sp_88 hR hN ?_
        show R 99 59 [(5, .int v5), (4, .int v4), (3, .int v3), (2, .int v2), (0, .ref 3), (1, .int v1)] [.int (T_88 s v1 (v5 + 1) v4), .int (T_88 s v1 v5 v4)] (N, hm_sh L g, s) _ Q
        refine hm_st hR (hm_st hR ⟨hm_le rfl, ?_⟩)
        show R 99 63 [(5, .int v5), (4, .int v4), (3, .int v3), (2, .int v2), (0, .ref 3), (1, .int v1)] [.int (hm_abs ((T_88 s v1 v5 v4) - (T_88 s v1 (v5 + 1) v4)))] (N, hm_sh L g, s) _ Q
        refine hm_st hR (hm_st hR (hm_st hR (hm_st hR (hm_st hR (hm_st hR (hm_st hR ⟨rfl, hm_le rfl, (hm_ltN hN rfl), ?_⟩))))))
        show R 99 77 [(6, .int (hm_abs ((T_88 s v1 v5 v4) - (T_88 s v1 (v5 + 1) v4)))), (5, .int v5), (4, .int v4), (3, .int v3), (2, .int v2), (0, .ref 3), (1, .int v1)] [.int (s 3 6), .int (v4 + 1)] (N, hm_sh L g, s) _ Q
        refine hm_st hR ⟨fun c77 => ?_, fun c77 => ?_⟩
        · rw [if_pos c77] at hq
          show R 99 107 [(6, .int (hm_abs ((T_88 s v1 v5 v4) - (T_88 s v1 (v5 + 1) v4)))), (5, .int v5), (4, .int v4), (3, .int v3), (2, .int v2), (0, .ref 3), (1, .int v1)] [] (N, hm_sh L g, s) _ Q
          refine hm_st hR (hm_st hR (hm_st hR (hm_st hR (hm_st hR (hm_st hR ⟨hm_le rfl, ?_⟩)))))
          show R 99 118 [(7, .int 0), (6, .int (hm_abs ((T_88 s v1 v5 v4) - (T_88 s v1 (v5 + 1) v4)))), (5, .int v5), (4, .int v4), (3, .int v3), (2, .int v2), (0, .ref 3), (1, .int v1)] [.int (hm_max (hm_abs ((T_88 s v1 v5 v4) - (T_88 s v1 (v5 + 1) v4))) 0), .int v2] (N, hm_sh L g, s) _ Q
          refine hm_st hR ⟨hm_le rfl, ?_⟩
          show R 99 121 [(7, .int 0), (6, .int (hm_abs ((T_88 s v1 v5 v4) - (T_88 s v1 (v5 + 1) v4)))), (5, .int v5), (4, .int v4), (3, .int v3), (2, .int v2), (0, .ref 3), (1, .int v1)] [.int (hm_max v2 (hm_max (hm_abs ((T_88 s v1 v5 v4) - (T_88 s v1 (v5 + 1) v4))) 0))] (N, hm_sh L g, s) _ Q
          refine hm_st hR (hm_st hR (hm_st hR (hm_st hR (hm_st hR (hm_st hR (hm_st hR (hm_st hR (hm_st hR (?_)))))))))
          show R 99 19 [(5, .int (v5 + 1)), (3, .int (v3 + ((hm_abs ((T_88 s v1 v5 v4) - (T_88 s v1 (v5 + 1) v4))) + 0))), (2, .int (hm_max v2 (hm_max (hm_abs ((T_88 s v1 v5 v4) - (T_88 s v1 (v5 + 1) v4))) 0))), (7, .int 0), (6, .int (hm_abs ((T_88 s v1 v5 v4) - (T_88 s v1 (v5 + 1) v4)))), (4, .int v4), (0, .ref 3), (1, .int v1)] [] (N, hm_sh L g, s) _ Q
          exact hm_lvS hR (by intro q hq; simp only [List.mem_cons, List.not_mem_nil, or_false] at hq ⊢; rcases hq with rfl | rfl | rfl | rfl | rfl | rfl <;> simp) (ih s v1 (hm_max v2 (hm_max (hm_abs ((T_88 s v1 v5 v4) - (T_88 s v1 (v5 + 1) v4))) 0)) (v3 + ((hm_abs ((T_88 s v1 v5 v4) - (T_88 s v1 (v5 + 1) v4))) + 0)) v4 (v5 + 1) (hm_dcx c25 hm) hPO hq)
        · rw [if_neg c77] at hq
          show R 99 80 [(6, .int (hm_abs ((T_88 s v1 v5 v4) - (T_88 s v1 (v5 + 1) v4)))), (5, .int v5), (4, .int v4), (3, .int v3), (2, .int v2), (0, .ref 3), (1, .int v1)] [] (N, hm_sh L g, s) _ Q
          refine hm_st hR (hm_st hR (hm_st hR (hm_st hR (?_))))
          refine hm_st hR ⟨hm_le rfl, rfl, (hm_le rfl), (hm_ltN hN rfl), hm_le rfl, hm_le rfl, (0, 0), Nat.zero_le _, Nat.zero_le _, ?_⟩
          refine sp_88 hR hN ?_
          show R 99 89 [(6, .int (hm_abs ((T_88 s v1 v5 v4) - (T_88 s v1 (v5 + 1) v4)))), (5, .int v5), (4, .int v4), (3, .int v3), (2, .int v2), (0, .ref 3), (1, .int v1)] [.int (T_88 s v1 v5 v4)] (N, hm_sh L g, s) _ Q
          refine hm_st hR (hm_st hR (hm_st hR (hm_st hR (hm_st hR (hm_st hR (?_))))))
          refine hm_st hR ⟨hm_le rfl, rfl, (hm_le rfl), (hm_ltN hN rfl), hm_le rfl, hm_le rfl, (0, 0), Nat.zero_le _, Nat.zero_le _, ?_⟩
          refine sp_88 hR hN ?_
          show R 99 100 [(6, .int (hm_abs ((T_88 s v1 v5 v4) - (T_88 s v1 (v5 + 1) v4)))), (5, .int v5), (4, .int v4), (3, .int v3), (2, .int v2), (0, .ref 3), (1, .int v1)] [.int (T_88 s v1 v5 (v4 + 1)), .int (T_88 s v1 v5 v4)] (N, hm_sh L g, s) _ Q
          refine hm_st hR (hm_st hR ⟨hm_le rfl, ?_⟩)
          show R 99 104 [(6, .int (hm_abs ((T_88 s v1 v5 v4) - (T_88 s v1 (v5 + 1) v4)))), (5, .int v5), (4, .int v4), (3, .int v3), (2, .int v2), (0, .ref 3), (1, .int v1)] [.int (hm_abs ((T_88 s v1 v5 v4) - (T_88 s v1 v5 (v4 + 1))))] (N, hm_sh L g, s) _ Q
          refine hm_st hR (hm_st hR (hm_st hR (hm_st hR (hm_st hR (hm_st hR ⟨hm_le rfl, ?_⟩)))))
          show R 99 118 [(7, .int (hm_abs ((T_88 s v1 v5 v4) - (T_88 s v1 v5 (v4 + 1))))), (6, .int (hm_abs ((T_88 s v1 v5 v4) - (T_88 s v1 (v5 + 1) v4)))), (5, .int v5), (4, .int v4), (3, .int v3), (2, .int v2), (0, .ref 3), (1, .int v1)] [.int (hm_max (hm_abs ((T_88 s v1 v5 v4) - (T_88 s v1 (v5 + 1) v4))) (hm_abs ((T_88 s v1 v5 v4) - (T_88 s v1 v5 (v4 + 1))))), .int v2] (N, hm_sh L g, s) _ Q
          refine hm_st hR ⟨hm_le rfl, ?_⟩
          show R 99 121 [(7, .int (hm_abs ((T_88 s v1 v5 v4) - (T_88 s v1 v5 (v4 + 1))))), (6, .int (hm_abs ((T_88 s v1 v5 v4) - (T_88 s v1 (v5 + 1) v4)))), (5, .int v5), (4, .int v4), (3, .int v3), (2, .int v2), (0, .ref 3), (1, .int v1)] [.int (hm_max v2 (hm_max (hm_abs ((T_88 s v1 v5 v4) - (T_88 s v1 (v5 + 1) v4))) (hm_abs ((T_88 s v1 v5 v4) - (T_88 s v1 v5 (v4 + 1))))))] (N, hm_sh L g, s) _ Q
          refine hm_st hR (hm_st hR (hm_st hR (hm_st hR (hm_st hR (hm_st hR (hm_st hR (hm_st hR (hm_st hR (?_)))))))))
          show R 99 19 [(5, .int (v5 + 1)), (3, .int (v3 + ((hm_abs ((T_88 s v1 v5 v4) - (T_88 s v1 (v5 + 1) v4))) + (hm_abs ((T_88 s v1 v5 v4) - (T_88 s v1 v5 (v4 + 1))))))), (2, .int (hm_max v2 (hm_max (hm_abs ((T_88 s v1 v5 v4) - (T_88 s v1 (v5 + 1) v4))) (hm_abs ((T_88 s v1 v5 v4) - (T_88 s v1 v5 (v4 + 1))))))), (7, .int (hm_abs ((T_88 s v1 v5 v4) - (T_88 s v1 v5 (v4 + 1))))), (6, .int (hm_abs ((T_88 s v1 v5 v4) - (T_88 s v1 (v5 + 1) v4)))), (4, .int v4), (0, .ref 3), (1, .int v1)] [] (N, hm_sh L g, s) _ Q
          exact hm_lvS hR (by intro q hq; simp only [List.mem_cons, List.not_mem_nil, or_false] at hq ⊢; rcases hq with rfl | rfl | rfl | rfl | rfl | rfl <;> simp) (ih s v1 (hm_max v2 (hm_max (hm_abs ((T_88 s v1 v5 v4) - (T_88 s v1 (v5 + 1) v4))) (hm_abs ((T_88 s v1 v5 v4) - (T_88 s v1 v5 (v4 + 1)))))) (v3 + ((hm_abs ((T_88 s v1 v5 v4) - (T_88 s v1 (v5 + 1) v4))) + (hm_abs ((T_88 s v1 v5 v4) - (T_88 s v1 v5 (v4 + 1)))))) v4 (v5 + 1) (hm_dcx c25 hm) hPO hq)
set_option maxRecDepth 20000 in
theorem lp_99_7 {R : hm_R} (hR : hm_Cm R) {N L : Nat} {g : Nat → hm_Sh} {b : hm_B} {Q : hm_Q} (hN : 68 ≤ N) : ∀ (n : Nat) (s : hm_St) (v1 : Int32) (v2 : Int32) (v3 : Int32) (v4 : Int32), hm_df (s 3 6) v4 < n → (hq : Q (.inr none) (N, hm_sh L g, (T_99_7 n s v1 v2 v3 v4))) → R 99 7 [(4, .int v4), (3, .int v3), (2, .int v2), (0, .ref 3), (1, .int v1)] [] (N, hm_sh L g, s) b Q := by
  intro n
  induction n with
  | zero => intro s v1 v2 v3 v4 hm _; exact absurd hm (Nat.not_lt_zero _)
  | succ n ih =>
    intro s v1 v2 v3 v4 hm hq
    unfold T_99_7 at hq
    refine hm_st hR (hm_st hR (hm_st hR ⟨rfl, hm_le rfl, (hm_ltN hN rfl), ?_⟩))
    show R 99 13 [(4, .int v4), (3, .int v3), (2, .int v2), (0, .ref 3), (1, .int v1)] [.int (s 3 6), .int v4] (N, hm_sh L g, s) _ Q
    refine hm_st hR ⟨fun c13 => ?_, fun c13 => ?_⟩
    · rw [if_pos c13] at hq
      show R 99 142 [(4, .int v4), (3, .int v3), (2, .int v2), (0, .ref 3), (1, .int v1)] [] (N, hm_sh L g, s) _ Q
      refine hm_st hR (hm_st hR ⟨rfl, hm_le rfl, (hm_ltN hN rfl), hm_st hR (hm_st hR (hm_st hR (hm_st hR (hm_st hR (hm_st hR (?_))))))⟩)
      refine hm_st hR ⟨hm_le rfl, rfl, (hm_le rfl), (hm_ltN hN rfl), hm_le rfl, hm_le rfl, (0, 0), Nat.zero_le _, Nat.zero_le _, ?_⟩
      refine sp_179 hR hN (rr := 12) (aa := 13) (nn := 24) rfl rfl (hm_le rfl) (hm_ltN hN rfl) rfl rfl (hm_le rfl) (hm_ltN hN rfl) (by decide) ?_
      show R 99 155 [(4, .int v4), (3, .int v3), (2, .int v2), (0, .ref 3), (1, .int v1)] [] (N, hm_sh L g, (T_179 s 13 24 ((v1 * 4) + 1) v2)) _ Q
      refine hm_st hR (hm_st hR ⟨rfl, hm_le rfl, (hm_ltN hN rfl), hm_st hR (hm_st hR (hm_st hR (hm_st hR (hm_st hR (hm_st hR (?_))))))⟩)
      refine hm_st hR ⟨hm_le rfl, rfl, (hm_le rfl), (hm_ltN hN rfl), hm_le rfl, hm_le rfl, (0, 0), Nat.zero_le _, Nat.zero_le _, ?_⟩
      refine sp_179 hR hN (rr := 12) (aa := 13) (nn := 24) rfl rfl (hm_le rfl) (hm_ltN hN rfl) rfl rfl (hm_le rfl) (hm_ltN hN rfl) (by decide) ?_
      show R 99 168 [(4, .int v4), (3, .int v3), (2, .int v2), (0, .ref 3), (1, .int v1)] [] (N, hm_sh L g, (T_179 (T_179 s 13 24 ((v1 * 4) + 1) v2) 13 24 ((v1 * 4) + 2) v3)) _ Q
      exact hm_st hR hq
    · rw [if_neg c13] at hq
      show R 99 16 [(4, .int v4), (3, .int v3), (2, .int v2), (0, .ref 3), (1, .int v1)] [] (N, hm_sh L g, s) _ Q
      refine hm_st hR (hm_st hR (?_))
      show R 99 19 [(5, .int 0), (4, .int v4), (3, .int v3), (2, .int v2), (0, .ref 3), (1, .int v1)] [] (N, hm_sh L g, s) _ Q
      exact lp_99_19 hR hN (O := (fun s v1 v2 v3 v4 => T_99_7 n s v1 v2 v3 v4)) (nO := n) (fun s v1 v2 v3 v4 hm hq => ih s v1 v2 v3 v4 hm hq) _ _ _ _ _ _ _ (Nat.lt_succ_self _) (hm_dcx c13 hm) hq
set_option maxRecDepth 20000 in
theorem sp_99 {R : hm_R} (hR : hm_Cm R) {N L : Nat} {g : Nat → hm_Sh} {s : hm_St} {b : hm_B} {Q : hm_Q} (hN : 68 ≤ N) {p1 : Int32} (hq : Q (.inr none) (N, hm_sh L g, (T_99 s p1))) : R 99 0 (lv_args 0 [.ref 3, .int p1]) [] (N, hm_sh L g, s) b Q := by
  unfold T_99 at hq
  show R 99 0 [(0, .ref 3), (1, .int p1)] [] (N, hm_sh L g, s) _ Q
  refine hm_st hR (hm_st hR (hm_st hR (hm_st hR (hm_st hR (hm_st hR (?_))))))
  show R 99 7 [(4, .int 0), (3, .int 0), (2, .int 0), (0, .ref 3), (1, .int p1)] [] (N, hm_sh L g, s) _ Q
  exact lp_99_7 hR hN _ _ _ _ _ _ (Nat.lt_succ_self _) hq
/-- CurvekeyHouse$Curves.enterStep(III)V -/
def T_93 (s : hm_St) (p1 : Int32) (p2 : Int32) (p3 : Int32) : hm_St := (T_179 (T_179 s 5 16 ((4 * (p1 - 2)) + (p3 >>> (3 &&& 31))) p2) 7 16 ((4 * (p1 - 2)) + (p3 >>> (3 &&& 31))) (p3 &&& 7))
theorem N_93 {c j : Nat} (h5 : c ≠ 5) (h7 : c ≠ 7) {s : hm_St} {p1 : Int32} {p2 : Int32} {p3 : Int32} : (T_93 s p1 p2 p3) c j = s c j := by
  unfold T_93
  repeat' split
  all_goals first | rfl | simp only [hm_w1n h5, hm_w1n h7, N_179 h5, N_179 h7]
set_option maxRecDepth 20000 in
theorem sp_93 {R : hm_R} (hR : hm_Cm R) {N L : Nat} {g : Nat → hm_Sh} {s : hm_St} {b : hm_B} {Q : hm_Q} (hN : 68 ≤ N) {p1 : Int32} {p2 : Int32} {p3 : Int32} (hq : Q (.inr none) (N, hm_sh L g, (T_93 s p1 p2 p3))) : R 93 0 (lv_args 0 [.ref 3, .int p1, .int p2, .int p3]) [] (N, hm_sh L g, s) b Q := by
  unfold T_93 at hq
  show R 93 0 [(0, .ref 3), (1, .int p1), (2, .int p2), (3, .int p3)] [] (N, hm_sh L g, s) _ Q
  refine hm_st hR (hm_st hR (hm_st hR (hm_st hR (hm_st hR (hm_st hR (hm_st hR (hm_st hR (hm_st hR (hm_st hR (hm_st hR (hm_st hR ⟨rfl, hm_le rfl, (hm_ltN hN rfl), hm_st hR (hm_st hR (?_))⟩)))))))))))
  refine hm_st hR ⟨hm_le rfl, rfl, (hm_le rfl), (hm_ltN hN rfl), hm_le rfl, hm_le rfl, (0, 0), Nat.zero_le _, Nat.zero_le _, ?_⟩
  refine sp_179 hR hN (rr := 4) (aa := 5) (nn := 16) rfl rfl (hm_le rfl) (hm_ltN hN rfl) rfl rfl (hm_le rfl) (hm_ltN hN rfl) (by decide) ?_
  show R 93 21 [(4, .int ((4 * (p1 - 2)) + (p3 >>> (3 &&& 31)))), (0, .ref 3), (1, .int p1), (2, .int p2), (3, .int p3)] [] (N, hm_sh L g, (T_179 s 5 16 ((4 * (p1 - 2)) + (p3 >>> (3 &&& 31))) p2)) _ Q
  refine hm_st hR (hm_st hR ⟨rfl, hm_le rfl, (hm_ltN hN rfl), hm_st hR (hm_st hR (hm_st hR (hm_st hR (?_))))⟩)
  refine hm_st hR ⟨hm_le rfl, rfl, (hm_le rfl), (hm_ltN hN rfl), hm_le rfl, hm_le rfl, (0, 0), Nat.zero_le _, Nat.zero_le _, ?_⟩
  refine sp_179 hR hN (rr := 6) (aa := 7) (nn := 16) rfl rfl (hm_le rfl) (hm_ltN hN rfl) rfl rfl (hm_le rfl) (hm_ltN hN rfl) (by decide) ?_
  show R 93 34 [(4, .int ((4 * (p1 - 2)) + (p3 >>> (3 &&& 31)))), (0, .ref 3), (1, .int p1), (2, .int p2), (3, .int p3)] [] (N, hm_sh L g, (T_179 (T_179 s 5 16 ((4 * (p1 - 2)) + (p3 >>> (3 &&& 31))) p2) 7 16 ((4 * (p1 - 2)) + (p3 >>> (3 &&& 31))) (p3 &&& 7))) _ Q
  exact hm_st hR hq
/-- CurvekeyHouse$Cut.falseKeys()I -/
def T_102 (s : hm_St) : Int32 := (s 59 3)
set_option maxRecDepth 20000 in
theorem sp_102 {R : hm_R} (hR : hm_Cm R) {N L : Nat} {g : Nat → hm_Sh} {s : hm_St} {b : hm_B} {Q : hm_Q} (hN : 68 ≤ N) (hq : Q (.inr (some (.int (T_102 s)))) (N, hm_sh L g, s)) : R 102 0 (lv_args 0 [.ref 59]) [] (N, hm_sh L g, s) b Q := by
  unfold T_102 at hq
  show R 102 0 [(0, .ref 59)] [] (N, hm_sh L g, s) _ Q
  refine hm_st hR (hm_st hR ⟨rfl, hm_le rfl, (hm_ltN hN rfl), ?_⟩)
  exact hm_st hR ⟨fun z => absurd z (by decide), hq⟩
/-- CurvekeyHouse$Cut.lastBegin()I -/
def T_103 (s : hm_St) : Int32 := (T_178 s 61 1024 ((s 59 2) - 1))
set_option maxRecDepth 20000 in
theorem sp_103 {R : hm_R} (hR : hm_Cm R) {N L : Nat} {g : Nat → hm_Sh} {s : hm_St} {b : hm_B} {Q : hm_Q} (hN : 68 ≤ N) (hq : Q (.inr (some (.int (T_103 s)))) (N, hm_sh L g, s)) : R 103 0 (lv_args 0 [.ref 59]) [] (N, hm_sh L g, s) b Q := by
  unfold T_103 at hq
  show R 103 0 [(0, .ref 59)] [] (N, hm_sh L g, s) _ Q
  refine hm_st hR (hm_st hR ⟨rfl, hm_le rfl, (hm_ltN hN rfl), hm_st hR (hm_st hR ⟨rfl, hm_le rfl, (hm_ltN hN rfl), hm_st hR (hm_st hR (?_))⟩)⟩)
  refine hm_st hR ⟨hm_le rfl, rfl, (hm_le rfl), (hm_ltN hN rfl), hm_le rfl, hm_le rfl, (0, 0), Nat.zero_le _, Nat.zero_le _, ?_⟩
  refine sp_178 hR hN (rr := 60) (aa := 61) (nn := 1024) rfl rfl (hm_le rfl) (hm_ltN hN rfl) rfl rfl (hm_le rfl) (hm_ltN hN rfl) (by decide) ?_
  show R 103 13 [(0, .ref 59)] [.int (T_178 s 61 1024 ((s 59 2) - 1))] (N, hm_sh L g, s) _ Q
  exact hm_st hR ⟨fun z => absurd z (by decide), hq⟩
def T_109_7 : Nat → hm_St → Int32 → Int32 → Int32 → Int32
  | 0, s, _, _, _ => 0
  | n + 1, s, v2, v3, v4 => (if (s 59 2) ≤ v4 then v2 else (T_109_7 n s (v2 + (((T_139 s (T_178 s 63 1024 v4)) - (hm_max (v3 + 1) (T_139 s (T_178 s 61 1024 v4)))) + 1)) (T_139 s (T_178 s 63 1024 v4)) (v4 + 1)))
/-- CurvekeyHouse$Cut.pagesRead(LCurvekeyHouse$Pages;)I -/
def T_109 (s : hm_St) : Int32 := (T_109_7 (hm_df (s 59 2) 0 + 1) s 0 (-1) 0)
set_option maxRecDepth 20000 in
theorem lp_109_7 {R : hm_R} (hR : hm_Cm R) {N L : Nat} {g : Nat → hm_Sh} {b : hm_B} {Q : hm_Q} (hN : 68 ≤ N) : ∀ (n : Nat) (s : hm_St) (v2 : Int32) (v3 : Int32) (v4 : Int32), hm_df (s 59 2) v4 < n → (hq : Q (.inr (some (.int (T_109_7 n s v2 v3 v4)))) (N, hm_sh L g, s)) → R 109 7 [(4, .int v4), (3, .int v3), (2, .int v2), (0, .ref 59), (1, .ref 42)] [] (N, hm_sh L g, s) b Q := by
  intro n
  induction n with
  | zero => intro s v2 v3 v4 hm _; exact absurd hm (Nat.not_lt_zero _)
  | succ n ih =>
    intro s v2 v3 v4 hm hq
    unfold T_109_7 at hq
    refine hm_st hR (hm_st hR (hm_st hR ⟨rfl, hm_le rfl, (hm_ltN hN rfl), ?_⟩))
    show R 109 13 [(4, .int v4), (3, .int v3), (2, .int v2), (0, .ref 59), (1, .ref 42)] [.int (s 59 2), .int v4] (N, hm_sh L g, s) _ Q
    refine hm_st hR ⟨fun c13 => ?_, fun c13 => ?_⟩
    · rw [if_pos c13] at hq
      show R 109 66 [(4, .int v4), (3, .int v3), (2, .int v2), (0, .ref 59), (1, .ref 42)] [] (N, hm_sh L g, s) _ Q
      refine hm_st hR (?_)
      exact hm_st hR ⟨fun z => absurd z (by decide), hq⟩
    · rw [if_neg c13] at hq
      show R 109 16 [(4, .int v4), (3, .int v3), (2, .int v2), (0, .ref 59), (1, .ref 42)] [] (N, hm_sh L g, s) _ Q
      refine hm_st hR (hm_st hR (hm_st hR (hm_st hR (hm_st hR (hm_st hR ⟨rfl, hm_le rfl, (hm_ltN hN rfl), hm_st hR (?_)⟩)))))
      refine hm_st hR ⟨hm_le rfl, rfl, (hm_le rfl), (hm_ltN hN rfl), hm_le rfl, hm_le rfl, (0, 0), Nat.zero_le _, Nat.zero_le _, ?_⟩
      refine sp_178 hR hN (rr := 60) (aa := 61) (nn := 1024) rfl rfl (hm_le rfl) (hm_ltN hN rfl) rfl rfl (hm_le rfl) (hm_ltN hN rfl) (by decide) ?_
      show R 109 29 [(4, .int v4), (3, .int v3), (2, .int v2), (0, .ref 59), (1, .ref 42)] [.int (T_178 s 61 1024 v4), .ref 42, .int (v3 + 1)] (N, hm_sh L g, s) _ Q
      refine hm_st hR ⟨hm_le rfl, rfl, (hm_le rfl), (hm_ltN hN rfl), hm_le rfl, hm_le rfl, (0, 0), Nat.zero_le _, Nat.zero_le _, ?_⟩
      refine sp_139 hR hN ?_
      show R 109 32 [(4, .int v4), (3, .int v3), (2, .int v2), (0, .ref 59), (1, .ref 42)] [.int (T_139 s (T_178 s 61 1024 v4)), .int (v3 + 1)] (N, hm_sh L g, s) _ Q
      refine hm_st hR ⟨hm_le rfl, ?_⟩
      show R 109 35 [(4, .int v4), (3, .int v3), (2, .int v2), (0, .ref 59), (1, .ref 42)] [.int (hm_max (v3 + 1) (T_139 s (T_178 s 61 1024 v4)))] (N, hm_sh L g, s) _ Q
      refine hm_st hR (hm_st hR (hm_st hR (hm_st hR ⟨rfl, hm_le rfl, (hm_ltN hN rfl), hm_st hR (?_)⟩)))
      refine hm_st hR ⟨hm_le rfl, rfl, (hm_le rfl), (hm_ltN hN rfl), hm_le rfl, hm_le rfl, (0, 0), Nat.zero_le _, Nat.zero_le _, ?_⟩
      refine sp_178 hR hN (rr := 62) (aa := 63) (nn := 1024) rfl rfl (hm_le rfl) (hm_ltN hN rfl) rfl rfl (hm_le rfl) (hm_ltN hN rfl) (by decide) ?_
      show R 109 47 [(5, .int (hm_max (v3 + 1) (T_139 s (T_178 s 61 1024 v4)))), (4, .int v4), (3, .int v3), (2, .int v2), (0, .ref 59), (1, .ref 42)] [.int (T_178 s 63 1024 v4), .ref 42] (N, hm_sh L g, s) _ Q
      refine hm_st hR ⟨hm_le rfl, rfl, (hm_le rfl), (hm_ltN hN rfl), hm_le rfl, hm_le rfl, (0, 0), Nat.zero_le _, Nat.zero_le _, ?_⟩
      refine sp_139 hR hN ?_
      show R 109 50 [(5, .int (hm_max (v3 + 1) (T_139 s (T_178 s 61 1024 v4)))), (4, .int v4), (3, .int v3), (2, .int v2), (0, .ref 59), (1, .ref 42)] [.int (T_139 s (T_178 s 63 1024 v4))] (N, hm_sh L g, s) _ Q
      refine hm_st hR (hm_st hR (hm_st hR (hm_st hR (hm_st hR (hm_st hR (hm_st hR (hm_st hR (hm_st hR (hm_st hR (hm_st hR (?_)))))))))))
      show R 109 7 [(4, .int (v4 + 1)), (2, .int (v2 + (((T_139 s (T_178 s 63 1024 v4)) - (hm_max (v3 + 1) (T_139 s (T_178 s 61 1024 v4)))) + 1))), (3, .int (T_139 s (T_178 s 63 1024 v4))), (5, .int (hm_max (v3 + 1) (T_139 s (T_178 s 61 1024 v4)))), (0, .ref 59), (1, .ref 42)] [] (N, hm_sh L g, s) _ Q
      exact hm_lvS hR (by intro q hq; simp only [List.mem_cons, List.not_mem_nil, or_false] at hq ⊢; rcases hq with rfl | rfl | rfl | rfl | rfl <;> simp) (ih s (v2 + (((T_139 s (T_178 s 63 1024 v4)) - (hm_max (v3 + 1) (T_139 s (T_178 s 61 1024 v4)))) + 1)) (T_139 s (T_178 s 63 1024 v4)) (v4 + 1) (hm_dcx c13 hm) hq)
set_option maxRecDepth 20000 in
theorem sp_109 {R : hm_R} (hR : hm_Cm R) {N L : Nat} {g : Nat → hm_Sh} {s : hm_St} {b : hm_B} {Q : hm_Q} (hN : 68 ≤ N) (hq : Q (.inr (some (.int (T_109 s)))) (N, hm_sh L g, s)) : R 109 0 (lv_args 0 [.ref 59, .ref 42]) [] (N, hm_sh L g, s) b Q := by
  unfold T_109 at hq
  show R 109 0 [(0, .ref 59), (1, .ref 42)] [] (N, hm_sh L g, s) _ Q
  refine hm_st hR (hm_st hR (hm_st hR (hm_st hR (hm_st hR (hm_st hR (?_))))))
  show R 109 7 [(4, .int 0), (3, .int (-1)), (2, .int 0), (0, .ref 59), (1, .ref 42)] [] (N, hm_sh L g, s) _ Q
  exact lp_109_7 hR hN _ _ _ _ _ (Nat.lt_succ_self _) hq
/-- CurvekeyHouse$History.clear()V -/
def T_111 (s : hm_St) : hm_St := (hm_w1 (hm_w1 s 25 8 0) 25 9 0)
theorem N_111 {c j : Nat} (h25 : c ≠ 25) {s : hm_St} : (T_111 s) c j = s c j := by
  unfold T_111
  repeat' split
  all_goals first | rfl | simp only [hm_w1n h25]
set_option maxRecDepth 20000 in
theorem sp_111 {R : hm_R} (hR : hm_Cm R) {N L : Nat} {g : Nat → hm_Sh} {s : hm_St} {b : hm_B} {Q : hm_Q} (hN : 68 ≤ N) (hq : Q (.inr none) (N, hm_sh L g, (T_111 s))) : R 111 0 (lv_args 0 [.ref 25]) [] (N, hm_sh L g, s) b Q := by
  unfold T_111 at hq
  show R 111 0 [(0, .ref 25)] [] (N, hm_sh L g, s) _ Q
  refine hm_st hR (hm_st hR (hm_st hR ⟨rfl, rfl, hm_le rfl, (hm_ltN hN rfl), ?_⟩))
  show R 111 5 [(0, .ref 25)] [] (N, hm_sh L g, (hm_w1 s 25 8 0)) _ Q
  refine hm_st hR (hm_st hR (hm_st hR ⟨rfl, rfl, hm_le rfl, (hm_ltN hN rfl), ?_⟩))
  show R 111 10 [(0, .ref 25)] [] (N, hm_sh L g, (hm_w1 (hm_w1 s 25 8 0) 25 9 0)) _ Q
  exact hm_st hR hq
/-- CurvekeyHouse$History.bid(I)V -/
def T_119 (s : hm_St) (p1 : Int32) : hm_St := (T_179 s 41 80 p1 (s 25 9))
theorem N_119 {c j : Nat} (h41 : c ≠ 41) {s : hm_St} {p1 : Int32} : (T_119 s p1) c j = s c j := by
  unfold T_119
  repeat' split
  all_goals first | rfl | simp only [hm_w1n h41, N_179 h41]
set_option maxRecDepth 20000 in
theorem sp_119 {R : hm_R} (hR : hm_Cm R) {N L : Nat} {g : Nat → hm_Sh} {s : hm_St} {b : hm_B} {Q : hm_Q} (hN : 68 ≤ N) {p1 : Int32} (hq : Q (.inr none) (N, hm_sh L g, (T_119 s p1))) : R 119 0 (lv_args 0 [.ref 25, .int p1]) [] (N, hm_sh L g, s) b Q := by
  unfold T_119 at hq
  show R 119 0 [(0, .ref 25), (1, .int p1)] [] (N, hm_sh L g, s) _ Q
  refine hm_st hR (hm_st hR ⟨rfl, hm_le rfl, (hm_ltN hN rfl), hm_st hR (hm_st hR (hm_st hR ⟨rfl, hm_le rfl, (hm_ltN hN rfl), ?_⟩))⟩)
  refine hm_st hR ⟨hm_le rfl, rfl, (hm_le rfl), (hm_ltN hN rfl), hm_le rfl, hm_le rfl, (0, 0), Nat.zero_le _, Nat.zero_le _, ?_⟩
  refine sp_179 hR hN (rr := 40) (aa := 41) (nn := 80) rfl rfl (hm_le rfl) (hm_ltN hN rfl) rfl rfl (hm_le rfl) (hm_ltN hN rfl) (by decide) ?_
  show R 119 12 [(0, .ref 25), (1, .int p1)] [] (N, hm_sh L g, (T_179 s 41 80 p1 (s 25 9))) _ Q
  exact hm_st hR hq
def T_122_5 (bx : Nat) : Nat → hm_St → Int32 → Int32 → Int32 → Int32
  | 0, s, _, _, _ => 0
  | n + 1, s, v2, v3, v4 => (if (s 25 8) ≤ v4 then v3 else (if 2048 ≤ v4 then v3 else (if v2 < (T_178 s 31 2048 v4) then (T_122_5 bx n s v2 v3 (v4 + 1)) else (if (T_178 s 33 2048 v4) ≤ v2 then (T_122_5 bx n s v2 v3 (v4 + 1)) else (if (T_66 s bx (T_178 s 27 2048 v4) (T_178 s 29 2048 v4)) = 0 then (T_122_5 bx n s v2 v3 (v4 + 1)) else (T_122_5 bx n s v2 (v3 + 1) (v4 + 1)))))))
/-- CurvekeyHouse$History.livedIn(LCurvekeyHouse$Box;I)I -/
def T_122 (s : hm_St) (bx : Nat) (p2 : Int32) : Int32 := (T_122_5 bx (hm_df (s 25 8) 0 + 1) s p2 0 0)
set_option maxRecDepth 20000 in
theorem lp_122_5 {R : hm_R} (hR : hm_Cm R) {N L : Nat} {g : Nat → hm_Sh} {b : hm_B} {Q : hm_Q} (hN : 68 ≤ N) {bx : Nat} (hbk : (hm_sh L g bx).1 = 0) (hb2 : 2 ≤ bx) (hbl : bx < N) : ∀ (n : Nat) (s : hm_St) (v2 : Int32) (v3 : Int32) (v4 : Int32), hm_df (s 25 8) v4 < n → (hq : Q (.inr (some (.int (T_122_5 bx n s v2 v3 v4)))) (N, hm_sh L g, s)) → R 122 5 [(4, .int v4), (3, .int v3), (0, .ref 25), (1, .ref bx), (2, .int v2)] [] (N, hm_sh L g, s) b Q := by
  intro n
  induction n with
  | zero => intro s v2 v3 v4 hm _; exact absurd hm (Nat.not_lt_zero _)
  | succ n ih =>
    intro s v2 v3 v4 hm hq
    unfold T_122_5 at hq
    refine hm_st hR (hm_st hR (hm_st hR ⟨rfl, hm_le rfl, (hm_ltN hN rfl), ?_⟩))
    show R 122 11 [(4, .int v4), (3, .int v3), (0, .ref 25), (1, .ref bx), (2, .int v2)] [.int (s 25 8), .int v4] (N, hm_sh L g, s) _ Q
    refine hm_st hR ⟨fun c11 => ?_, fun c11 => ?_⟩
    · rw [if_pos c11] at hq
      show R 122 82 [(4, .int v4), (3, .int v3), (0, .ref 25), (1, .ref bx), (2, .int v2)] [] (N, hm_sh L g, s) _ Q
      refine hm_st hR (?_)
      exact hm_st hR ⟨fun z => absurd z (by decide), hq⟩
    · rw [if_neg c11] at hq
      show R 122 14 [(4, .int v4), (3, .int v3), (0, .ref 25), (1, .ref bx), (2, .int v2)] [] (N, hm_sh L g, s) _ Q
      refine hm_st hR (hm_st hR (?_))
      show R 122 19 [(4, .int v4), (3, .int v3), (0, .ref 25), (1, .ref bx), (2, .int v2)] [.int 2048, .int v4] (N, hm_sh L g, s) _ Q
      refine hm_st hR ⟨fun c19 => ?_, fun c19 => ?_⟩
      · rw [if_pos c19] at hq
        show R 122 82 [(4, .int v4), (3, .int v3), (0, .ref 25), (1, .ref bx), (2, .int v2)] [] (N, hm_sh L g, s) _ Q
        refine hm_st hR (?_)
        exact hm_st hR ⟨fun z => absurd z (by decide), hq⟩
      · rw [if_neg c19] at hq
        show R 122 22 [(4, .int v4), (3, .int v3), (0, .ref 25), (1, .ref bx), (2, .int v2)] [] (N, hm_sh L g, s) _ Q
        refine hm_st hR (hm_st hR ⟨rfl, hm_le rfl, (hm_ltN hN rfl), hm_st hR (?_)⟩)
        refine hm_st hR ⟨hm_le rfl, rfl, (hm_le rfl), (hm_ltN hN rfl), hm_le rfl, hm_le rfl, (0, 0), Nat.zero_le _, Nat.zero_le _, ?_⟩
        refine sp_178 hR hN (rr := 30) (aa := 31) (nn := 2048) rfl rfl (hm_le rfl) (hm_ltN hN rfl) rfl rfl (hm_le rfl) (hm_ltN hN rfl) (by decide) ?_
        show R 122 31 [(4, .int v4), (3, .int v3), (0, .ref 25), (1, .ref bx), (2, .int v2)] [.int (T_178 s 31 2048 v4)] (N, hm_sh L g, s) _ Q
        refine hm_st hR (?_)
        show R 122 32 [(4, .int v4), (3, .int v3), (0, .ref 25), (1, .ref bx), (2, .int v2)] [.int v2, .int (T_178 s 31 2048 v4)] (N, hm_sh L g, s) _ Q
        refine hm_st hR ⟨fun c32 => ?_, fun c32 => ?_⟩
        · rw [if_pos c32] at hq
          show R 122 76 [(4, .int v4), (3, .int v3), (0, .ref 25), (1, .ref bx), (2, .int v2)] [] (N, hm_sh L g, s) _ Q
          refine hm_st hR (hm_st hR (?_))
          show R 122 5 [(4, .int (v4 + 1)), (3, .int v3), (0, .ref 25), (1, .ref bx), (2, .int v2)] [] (N, hm_sh L g, s) _ Q
          exact hm_lvS hR (by intro q hq; simp only [List.mem_cons, List.not_mem_nil, or_false] at hq ⊢; rcases hq with rfl | rfl | rfl | rfl | rfl <;> simp) (ih s v2 v3 (v4 + 1) (hm_dcx c11 hm) hq)
        · rw [if_neg c32] at hq
          show R 122 35 [(4, .int v4), (3, .int v3), (0, .ref 25), (1, .ref bx), (2, .int v2)] [] (N, hm_sh L g, s) _ Q
          refine hm_st hR (hm_st hR (hm_st hR ⟨rfl, hm_le rfl, (hm_ltN hN rfl), hm_st hR (?_)⟩))
          refine hm_st hR ⟨hm_le rfl, rfl, (hm_le rfl), (hm_ltN hN rfl), hm_le rfl, hm_le rfl, (0, 0), Nat.zero_le _, Nat.zero_le _, ?_⟩
          refine sp_178 hR hN (rr := 32) (aa := 33) (nn := 2048) rfl rfl (hm_le rfl) (hm_ltN hN rfl) rfl rfl (hm_le rfl) (hm_ltN hN rfl) (by decide) ?_
          show R 122 45 [(4, .int v4), (3, .int v3), (0, .ref 25), (1, .ref bx), (2, .int v2)] [.int (T_178 s 33 2048 v4), .int v2] (N, hm_sh L g, s) _ Q
          show R 122 45 [(4, .int v4), (3, .int v3), (0, .ref 25), (1, .ref bx), (2, .int v2)] [.int (T_178 s 33 2048 v4), .int v2] (N, hm_sh L g, s) _ Q
          refine hm_st hR ⟨fun c45 => ?_, fun c45 => ?_⟩
          · rw [if_pos c45] at hq
            show R 122 76 [(4, .int v4), (3, .int v3), (0, .ref 25), (1, .ref bx), (2, .int v2)] [] (N, hm_sh L g, s) _ Q
            refine hm_st hR (hm_st hR (?_))
            show R 122 5 [(4, .int (v4 + 1)), (3, .int v3), (0, .ref 25), (1, .ref bx), (2, .int v2)] [] (N, hm_sh L g, s) _ Q
            exact hm_lvS hR (by intro q hq; simp only [List.mem_cons, List.not_mem_nil, or_false] at hq ⊢; rcases hq with rfl | rfl | rfl | rfl | rfl <;> simp) (ih s v2 v3 (v4 + 1) (hm_dcx c11 hm) hq)
          · rw [if_neg c45] at hq
            show R 122 48 [(4, .int v4), (3, .int v3), (0, .ref 25), (1, .ref bx), (2, .int v2)] [] (N, hm_sh L g, s) _ Q
            refine hm_st hR (hm_st hR (hm_st hR ⟨rfl, hm_le rfl, (hm_ltN hN rfl), hm_st hR (?_)⟩))
            refine hm_st hR ⟨hm_le rfl, rfl, (hm_le rfl), (hm_ltN hN rfl), hm_le rfl, hm_le rfl, (0, 0), Nat.zero_le _, Nat.zero_le _, ?_⟩
            refine sp_178 hR hN (rr := 26) (aa := 27) (nn := 2048) rfl rfl (hm_le rfl) (hm_ltN hN rfl) rfl rfl (hm_le rfl) (hm_ltN hN rfl) (by decide) ?_
            show R 122 58 [(4, .int v4), (3, .int v3), (0, .ref 25), (1, .ref bx), (2, .int v2)] [.int (T_178 s 27 2048 v4), .ref bx] (N, hm_sh L g, s) _ Q
            refine hm_st hR (hm_st hR ⟨rfl, hm_le rfl, (hm_ltN hN rfl), hm_st hR (?_)⟩)
            refine hm_st hR ⟨hm_le rfl, rfl, (hm_le rfl), (hm_ltN hN rfl), hm_le rfl, hm_le rfl, (0, 0), Nat.zero_le _, Nat.zero_le _, ?_⟩
            refine sp_178 hR hN (rr := 28) (aa := 29) (nn := 2048) rfl rfl (hm_le rfl) (hm_ltN hN rfl) rfl rfl (hm_le rfl) (hm_ltN hN rfl) (by decide) ?_
            show R 122 67 [(4, .int v4), (3, .int v3), (0, .ref 25), (1, .ref bx), (2, .int v2)] [.int (T_178 s 29 2048 v4), .int (T_178 s 27 2048 v4), .ref bx] (N, hm_sh L g, s) _ Q
            refine hm_st hR ⟨hm_le rfl, hbk, hb2, hbl, hm_le rfl, hm_le rfl, (0, 0), Nat.zero_le _, Nat.zero_le _, ?_⟩
            refine sp_66 hR hN hbk hb2 hbl ?_
            show R 122 70 [(4, .int v4), (3, .int v3), (0, .ref 25), (1, .ref bx), (2, .int v2)] [.int (T_66 s bx (T_178 s 27 2048 v4) (T_178 s 29 2048 v4))] (N, hm_sh L g, s) _ Q
            show R 122 70 [(4, .int v4), (3, .int v3), (0, .ref 25), (1, .ref bx), (2, .int v2)] [.int (T_66 s bx (T_178 s 27 2048 v4) (T_178 s 29 2048 v4))] (N, hm_sh L g, s) _ Q
            refine hm_st hR ⟨fun c70 => ?_, fun c70 => ?_⟩
            · rw [if_pos c70] at hq
              show R 122 76 [(4, .int v4), (3, .int v3), (0, .ref 25), (1, .ref bx), (2, .int v2)] [] (N, hm_sh L g, s) _ Q
              refine hm_st hR (hm_st hR (?_))
              show R 122 5 [(4, .int (v4 + 1)), (3, .int v3), (0, .ref 25), (1, .ref bx), (2, .int v2)] [] (N, hm_sh L g, s) _ Q
              exact hm_lvS hR (by intro q hq; simp only [List.mem_cons, List.not_mem_nil, or_false] at hq ⊢; rcases hq with rfl | rfl | rfl | rfl | rfl <;> simp) (ih s v2 v3 (v4 + 1) (hm_dcx c11 hm) hq)
            · rw [if_neg c70] at hq
              show R 122 73 [(4, .int v4), (3, .int v3), (0, .ref 25), (1, .ref bx), (2, .int v2)] [] (N, hm_sh L g, s) _ Q
              refine hm_st hR (hm_st hR (hm_st hR (?_)))
              show R 122 5 [(4, .int (v4 + 1)), (3, .int (v3 + 1)), (0, .ref 25), (1, .ref bx), (2, .int v2)] [] (N, hm_sh L g, s) _ Q
              exact hm_lvS hR (by intro q hq; simp only [List.mem_cons, List.not_mem_nil, or_false] at hq ⊢; rcases hq with rfl | rfl | rfl | rfl | rfl <;> simp) (ih s v2 (v3 + 1) (v4 + 1) (hm_dcx c11 hm) hq)
set_option maxRecDepth 20000 in
theorem sp_122 {R : hm_R} (hR : hm_Cm R) {N L : Nat} {g : Nat → hm_Sh} {s : hm_St} {b : hm_B} {Q : hm_Q} (hN : 68 ≤ N) {bx : Nat} (hbk : (hm_sh L g bx).1 = 0) (hb2 : 2 ≤ bx) (hbl : bx < N) {p2 : Int32} (hq : Q (.inr (some (.int (T_122 s bx p2)))) (N, hm_sh L g, s)) : R 122 0 (lv_args 0 [.ref 25, .ref bx, .int p2]) [] (N, hm_sh L g, s) b Q := by
  unfold T_122 at hq
  show R 122 0 [(0, .ref 25), (1, .ref bx), (2, .int p2)] [] (N, hm_sh L g, s) _ Q
  refine hm_st hR (hm_st hR (hm_st hR (hm_st hR (?_))))
  show R 122 5 [(4, .int 0), (3, .int 0), (0, .ref 25), (1, .ref bx), (2, .int p2)] [] (N, hm_sh L g, s) _ Q
  exact lp_122_5 hR hN hbk hb2 hbl _ _ _ _ _ (Nat.lt_succ_self _) hq
def T_125_4 : Nat → hm_St → Int32 → Int32 → Int32 → Int32
  | 0, s, _, _, _ => 0
  | n + 1, s, v1, v2, v3 => (if (s 64 1) ≤ v3 then v2 else (if v1 ≤ (T_178 s 66 80 v3) then (T_125_4 n s v1 v2 (v3 + 1)) else (T_125_4 n s v1 (v2 + 1) (v3 + 1))))
/-- CurvekeyHouse$Line.smallerThan(I)I -/
def T_125 (s : hm_St) (p1 : Int32) : Int32 := (T_125_4 (hm_df (s 64 1) 0 + 1) s p1 0 0)
set_option maxRecDepth 20000 in
theorem lp_125_4 {R : hm_R} (hR : hm_Cm R) {N L : Nat} {g : Nat → hm_Sh} {b : hm_B} {Q : hm_Q} (hN : 68 ≤ N) : ∀ (n : Nat) (s : hm_St) (v1 : Int32) (v2 : Int32) (v3 : Int32), hm_df (s 64 1) v3 < n → (hq : Q (.inr (some (.int (T_125_4 n s v1 v2 v3)))) (N, hm_sh L g, s)) → R 125 4 [(3, .int v3), (2, .int v2), (0, .ref 64), (1, .int v1)] [] (N, hm_sh L g, s) b Q := by
  intro n
  induction n with
  | zero => intro s v1 v2 v3 hm _; exact absurd hm (Nat.not_lt_zero _)
  | succ n ih =>
    intro s v1 v2 v3 hm hq
    unfold T_125_4 at hq
    refine hm_st hR (hm_st hR (hm_st hR ⟨rfl, hm_le rfl, (hm_ltN hN rfl), ?_⟩))
    show R 125 9 [(3, .int v3), (2, .int v2), (0, .ref 64), (1, .int v1)] [.int (s 64 1), .int v3] (N, hm_sh L g, s) _ Q
    refine hm_st hR ⟨fun c9 => ?_, fun c9 => ?_⟩
    · rw [if_pos c9] at hq
      show R 125 33 [(3, .int v3), (2, .int v2), (0, .ref 64), (1, .int v1)] [] (N, hm_sh L g, s) _ Q
      refine hm_st hR (?_)
      exact hm_st hR ⟨fun z => absurd z (by decide), hq⟩
    · rw [if_neg c9] at hq
      show R 125 12 [(3, .int v3), (2, .int v2), (0, .ref 64), (1, .int v1)] [] (N, hm_sh L g, s) _ Q
      refine hm_st hR (hm_st hR ⟨rfl, hm_le rfl, (hm_ltN hN rfl), hm_st hR (?_)⟩)
      refine hm_st hR ⟨hm_le rfl, rfl, (hm_le rfl), (hm_ltN hN rfl), hm_le rfl, hm_le rfl, (0, 0), Nat.zero_le _, Nat.zero_le _, ?_⟩
      refine sp_178 hR hN (rr := 65) (aa := 66) (nn := 80) rfl rfl (hm_le rfl) (hm_ltN hN rfl) rfl rfl (hm_le rfl) (hm_ltN hN rfl) (by decide) ?_
      show R 125 20 [(3, .int v3), (2, .int v2), (0, .ref 64), (1, .int v1)] [.int (T_178 s 66 80 v3)] (N, hm_sh L g, s) _ Q
      refine hm_st hR (?_)
      show R 125 21 [(3, .int v3), (2, .int v2), (0, .ref 64), (1, .int v1)] [.int v1, .int (T_178 s 66 80 v3)] (N, hm_sh L g, s) _ Q
      refine hm_st hR ⟨fun c21 => ?_, fun c21 => ?_⟩
      · rw [if_pos c21] at hq
        show R 125 27 [(3, .int v3), (2, .int v2), (0, .ref 64), (1, .int v1)] [] (N, hm_sh L g, s) _ Q
        refine hm_st hR (hm_st hR (?_))
        show R 125 4 [(3, .int (v3 + 1)), (2, .int v2), (0, .ref 64), (1, .int v1)] [] (N, hm_sh L g, s) _ Q
        exact hm_lvS hR (by intro q hq; simp only [List.mem_cons, List.not_mem_nil, or_false] at hq ⊢; rcases hq with rfl | rfl | rfl | rfl <;> simp) (ih s v1 v2 (v3 + 1) (hm_dcx c9 hm) hq)
      · rw [if_neg c21] at hq
        show R 125 24 [(3, .int v3), (2, .int v2), (0, .ref 64), (1, .int v1)] [] (N, hm_sh L g, s) _ Q
        refine hm_st hR (hm_st hR (hm_st hR (?_)))
        show R 125 4 [(3, .int (v3 + 1)), (2, .int (v2 + 1)), (0, .ref 64), (1, .int v1)] [] (N, hm_sh L g, s) _ Q
        exact hm_lvS hR (by intro q hq; simp only [List.mem_cons, List.not_mem_nil, or_false] at hq ⊢; rcases hq with rfl | rfl | rfl | rfl <;> simp) (ih s v1 (v2 + 1) (v3 + 1) (hm_dcx c9 hm) hq)
set_option maxRecDepth 20000 in
theorem sp_125 {R : hm_R} (hR : hm_Cm R) {N L : Nat} {g : Nat → hm_Sh} {s : hm_St} {b : hm_B} {Q : hm_Q} (hN : 68 ≤ N) {p1 : Int32} (hq : Q (.inr (some (.int (T_125 s p1)))) (N, hm_sh L g, s)) : R 125 0 (lv_args 0 [.ref 64, .int p1]) [] (N, hm_sh L g, s) b Q := by
  unfold T_125 at hq
  show R 125 0 [(0, .ref 64), (1, .int p1)] [] (N, hm_sh L g, s) _ Q
  refine hm_st hR (hm_st hR (hm_st hR (hm_st hR (?_))))
  show R 125 4 [(3, .int 0), (2, .int 0), (0, .ref 64), (1, .int p1)] [] (N, hm_sh L g, s) _ Q
  exact lp_125_4 hR hN _ _ _ _ _ (Nat.lt_succ_self _) hq
/-- CurvekeyHouse$Line.guessWhole(I)I -/
def T_126 (s : hm_St) (p1 : Int32) : Int32 := (if (s 64 1) = 0 then (-1) else (T_129 s 0 ((s 64 1) - 1) (hm_max (T_178 s 66 80 0) (hm_min (T_178 s 66 80 ((s 64 1) - 1)) p1))))
set_option maxRecDepth 20000 in
theorem sp_126 {R : hm_R} (hR : hm_Cm R) {N L : Nat} {g : Nat → hm_Sh} {s : hm_St} {b : hm_B} {Q : hm_Q} (hN : 68 ≤ N) {p1 : Int32} (hq : Q (.inr (some (.int (T_126 s p1)))) (N, hm_sh L g, s)) : R 126 0 (lv_args 0 [.ref 64, .int p1]) [] (N, hm_sh L g, s) b Q := by
  unfold T_126 at hq
  show R 126 0 [(0, .ref 64), (1, .int p1)] [] (N, hm_sh L g, s) _ Q
  refine hm_st hR (hm_st hR ⟨rfl, hm_le rfl, (hm_ltN hN rfl), ?_⟩)
  show R 126 4 [(0, .ref 64), (1, .int p1)] [.int (s 64 1)] (N, hm_sh L g, s) _ Q
  refine hm_st hR ⟨fun c4 => ?_, fun c4 => ?_⟩
  · rw [if_neg c4] at hq
    show R 126 9 [(0, .ref 64), (1, .int p1)] [] (N, hm_sh L g, s) _ Q
    refine hm_st hR (hm_st hR (hm_st hR (hm_st hR ⟨rfl, hm_le rfl, (hm_ltN hN rfl), hm_st hR (hm_st hR (hm_st hR (hm_st hR ⟨rfl, hm_le rfl, (hm_ltN hN rfl), hm_st hR (?_)⟩)))⟩)))
    refine hm_st hR ⟨hm_le rfl, rfl, (hm_le rfl), (hm_ltN hN rfl), hm_le rfl, hm_le rfl, (0, 0), Nat.zero_le _, Nat.zero_le _, ?_⟩
    refine sp_178 hR hN (rr := 65) (aa := 66) (nn := 80) rfl rfl (hm_le rfl) (hm_ltN hN rfl) rfl rfl (hm_le rfl) (hm_ltN hN rfl) (by decide) ?_
    show R 126 25 [(0, .ref 64), (1, .int p1)] [.int (T_178 s 66 80 0), .int ((s 64 1) - 1), .int 0, .ref 64] (N, hm_sh L g, s) _ Q
    refine hm_st hR (hm_st hR ⟨rfl, hm_le rfl, (hm_ltN hN rfl), hm_st hR (hm_st hR ⟨rfl, hm_le rfl, (hm_ltN hN rfl), hm_st hR (hm_st hR (?_))⟩)⟩)
    refine hm_st hR ⟨hm_le rfl, rfl, (hm_le rfl), (hm_ltN hN rfl), hm_le rfl, hm_le rfl, (0, 0), Nat.zero_le _, Nat.zero_le _, ?_⟩
    refine sp_178 hR hN (rr := 65) (aa := 66) (nn := 80) rfl rfl (hm_le rfl) (hm_ltN hN rfl) rfl rfl (hm_le rfl) (hm_ltN hN rfl) (by decide) ?_
    show R 126 38 [(0, .ref 64), (1, .int p1)] [.int (T_178 s 66 80 ((s 64 1) - 1)), .int (T_178 s 66 80 0), .int ((s 64 1) - 1), .int 0, .ref 64] (N, hm_sh L g, s) _ Q
    refine hm_st hR (hm_st hR ⟨hm_le rfl, ?_⟩)
    show R 126 42 [(0, .ref 64), (1, .int p1)] [.int (hm_min (T_178 s 66 80 ((s 64 1) - 1)) p1), .int (T_178 s 66 80 0), .int ((s 64 1) - 1), .int 0, .ref 64] (N, hm_sh L g, s) _ Q
    refine hm_st hR ⟨hm_le rfl, ?_⟩
    show R 126 45 [(0, .ref 64), (1, .int p1)] [.int (hm_max (T_178 s 66 80 0) (hm_min (T_178 s 66 80 ((s 64 1) - 1)) p1)), .int ((s 64 1) - 1), .int 0, .ref 64] (N, hm_sh L g, s) _ Q
    refine hm_st hR ⟨hm_le rfl, rfl, (hm_le rfl), (hm_ltN hN rfl), hm_le rfl, hm_le rfl, (0, 0), Nat.zero_le _, Nat.zero_le _, ?_⟩
    refine sp_129 hR hN ?_
    show R 126 48 [(0, .ref 64), (1, .int p1)] [.int (T_129 s 0 ((s 64 1) - 1) (hm_max (T_178 s 66 80 0) (hm_min (T_178 s 66 80 ((s 64 1) - 1)) p1)))] (N, hm_sh L g, s) _ Q
    exact hm_st hR ⟨fun z => absurd z (by decide), hq⟩
  · rw [if_pos c4] at hq
    show R 126 7 [(0, .ref 64), (1, .int p1)] [] (N, hm_sh L g, s) _ Q
    refine hm_st hR (?_)
    exact hm_st hR ⟨fun z => absurd z (by decide), hq⟩
/-- CurvekeyHouse$Pages.clear(II)V -/
def T_132 (s : hm_St) (p1 : Int32) (p2 : Int32) : hm_St := (hm_w1 (hm_w1 (hm_w1 (T_179 (T_179 (T_181 (hm_w1 (hm_w1 s 42 2 (1 <<< ((2 * p1) &&& 31))) 42 3 p2) 44 1024 (-1)) 46 1025 0 0) 46 1025 1 ((T_179 (T_181 (hm_w1 (hm_w1 s 42 2 (1 <<< ((2 * p1) &&& 31))) 42 3 p2) 44 1024 (-1)) 46 1025 0 0) 42 2)) 42 4 1) 42 5 0) 42 6 0)
theorem N_132 {c j : Nat} (h42 : c ≠ 42) (h44 : c ≠ 44) (h46 : c ≠ 46) {s : hm_St} {p1 : Int32} {p2 : Int32} : (T_132 s p1 p2) c j = s c j := by
  unfold T_132
  repeat' split
  all_goals first | rfl | simp only [hm_w1n h42, hm_w1n h44, hm_w1n h46, N_179 h42, N_179 h44, N_179 h46, N_181 h42, N_181 h44, N_181 h46]
set_option maxRecDepth 20000 in
theorem sp_132 {R : hm_R} (hR : hm_Cm R) {N L : Nat} {g : Nat → hm_Sh} {s : hm_St} {b : hm_B} {Q : hm_Q} (hN : 68 ≤ N) {p1 : Int32} {p2 : Int32} (hq : Q (.inr none) (N, hm_sh L g, (T_132 s p1 p2))) : R 132 0 (lv_args 0 [.ref 42, .int p1, .int p2]) [] (N, hm_sh L g, s) b Q := by
  unfold T_132 at hq
  show R 132 0 [(0, .ref 42), (1, .int p1), (2, .int p2)] [] (N, hm_sh L g, s) _ Q
  refine hm_st hR (hm_st hR (hm_st hR (hm_st hR (hm_st hR (hm_st hR (hm_st hR ⟨rfl, rfl, hm_le rfl, (hm_ltN hN rfl), ?_⟩))))))
  show R 132 9 [(0, .ref 42), (1, .int p1), (2, .int p2)] [] (N, hm_sh L g, (hm_w1 s 42 2 (1 <<< ((2 * p1) &&& 31)))) _ Q
  refine hm_st hR (hm_st hR (hm_st hR ⟨rfl, rfl, hm_le rfl, (hm_ltN hN rfl), ?_⟩))
  show R 132 14 [(0, .ref 42), (1, .int p1), (2, .int p2)] [] (N, hm_sh L g, (hm_w1 (hm_w1 s 42 2 (1 <<< ((2 * p1) &&& 31))) 42 3 p2)) _ Q
  refine hm_st hR (hm_st hR ⟨rfl, hm_le rfl, (hm_ltN hN rfl), hm_st hR (?_)⟩)
  refine hm_st hR ⟨hm_le rfl, rfl, (hm_le rfl), (hm_ltN hN rfl), hm_le rfl, hm_le rfl, (0, 0), Nat.zero_le _, Nat.zero_le _, ?_⟩
  refine sp_181 hR hN (rr := 43) (aa := 44) (nn := 1024) rfl rfl (hm_le rfl) (hm_ltN hN rfl) rfl rfl (hm_le rfl) (hm_ltN hN rfl) (by decide) ?_
  show R 132 22 [(0, .ref 42), (1, .int p1), (2, .int p2)] [] (N, hm_sh L g, (T_181 (hm_w1 (hm_w1 s 42 2 (1 <<< ((2 * p1) &&& 31))) 42 3 p2) 44 1024 (-1))) _ Q
  refine hm_st hR (hm_st hR ⟨rfl, hm_le rfl, (hm_ltN hN rfl), hm_st hR (hm_st hR (?_))⟩)
  refine hm_st hR ⟨hm_le rfl, rfl, (hm_le rfl), (hm_ltN hN rfl), hm_le rfl, hm_le rfl, (0, 0), Nat.zero_le _, Nat.zero_le _, ?_⟩
  refine sp_179 hR hN (rr := 45) (aa := 46) (nn := 1025) rfl rfl (hm_le rfl) (hm_ltN hN rfl) rfl rfl (hm_le rfl) (hm_ltN hN rfl) (by decide) ?_
  show R 132 31 [(0, .ref 42), (1, .int p1), (2, .int p2)] [] (N, hm_sh L g, (T_179 (T_181 (hm_w1 (hm_w1 s 42 2 (1 <<< ((2 * p1) &&& 31))) 42 3 p2) 44 1024 (-1)) 46 1025 0 0)) _ Q
  refine hm_st hR (hm_st hR ⟨rfl, hm_le rfl, (hm_ltN hN rfl), hm_st hR (hm_st hR (hm_st hR ⟨rfl, hm_le rfl, (hm_ltN hN rfl), ?_⟩))⟩)
  refine hm_st hR ⟨hm_le rfl, rfl, (hm_le rfl), (hm_ltN hN rfl), hm_le rfl, hm_le rfl, (0, 0), Nat.zero_le _, Nat.zero_le _, ?_⟩
  refine sp_179 hR hN (rr := 45) (aa := 46) (nn := 1025) rfl rfl (hm_le rfl) (hm_ltN hN rfl) rfl rfl (hm_le rfl) (hm_ltN hN rfl) (by decide) ?_
  show R 132 43 [(0, .ref 42), (1, .int p1), (2, .int p2)] [] (N, hm_sh L g, (T_179 (T_179 (T_181 (hm_w1 (hm_w1 s 42 2 (1 <<< ((2 * p1) &&& 31))) 42 3 p2) 44 1024 (-1)) 46 1025 0 0) 46 1025 1 ((T_179 (T_181 (hm_w1 (hm_w1 s 42 2 (1 <<< ((2 * p1) &&& 31))) 42 3 p2) 44 1024 (-1)) 46 1025 0 0) 42 2))) _ Q
  refine hm_st hR (hm_st hR (hm_st hR ⟨rfl, rfl, hm_le rfl, (hm_ltN hN rfl), ?_⟩))
  show R 132 48 [(0, .ref 42), (1, .int p1), (2, .int p2)] [] (N, hm_sh L g, (hm_w1 (T_179 (T_179 (T_181 (hm_w1 (hm_w1 s 42 2 (1 <<< ((2 * p1) &&& 31))) 42 3 p2) 44 1024 (-1)) 46 1025 0 0) 46 1025 1 ((T_179 (T_181 (hm_w1 (hm_w1 s 42 2 (1 <<< ((2 * p1) &&& 31))) 42 3 p2) 44 1024 (-1)) 46 1025 0 0) 42 2)) 42 4 1)) _ Q
  refine hm_st hR (hm_st hR (hm_st hR ⟨rfl, rfl, hm_le rfl, (hm_ltN hN rfl), ?_⟩))
  show R 132 53 [(0, .ref 42), (1, .int p1), (2, .int p2)] [] (N, hm_sh L g, (hm_w1 (hm_w1 (T_179 (T_179 (T_181 (hm_w1 (hm_w1 s 42 2 (1 <<< ((2 * p1) &&& 31))) 42 3 p2) 44 1024 (-1)) 46 1025 0 0) 46 1025 1 ((T_179 (T_181 (hm_w1 (hm_w1 s 42 2 (1 <<< ((2 * p1) &&& 31))) 42 3 p2) 44 1024 (-1)) 46 1025 0 0) 42 2)) 42 4 1) 42 5 0)) _ Q
  refine hm_st hR (hm_st hR (hm_st hR ⟨rfl, rfl, hm_le rfl, (hm_ltN hN rfl), ?_⟩))
  show R 132 58 [(0, .ref 42), (1, .int p1), (2, .int p2)] [] (N, hm_sh L g, (hm_w1 (hm_w1 (hm_w1 (T_179 (T_179 (T_181 (hm_w1 (hm_w1 s 42 2 (1 <<< ((2 * p1) &&& 31))) 42 3 p2) 44 1024 (-1)) 46 1025 0 0) 46 1025 1 ((T_179 (T_181 (hm_w1 (hm_w1 s 42 2 (1 <<< ((2 * p1) &&& 31))) 42 3 p2) 44 1024 (-1)) 46 1025 0 0) 42 2)) 42 4 1) 42 5 0) 42 6 0)) _ Q
  exact hm_st hR hq
/-- CurvekeyHouse$Points.clear()V -/
def T_156 (s : hm_St) : hm_St := (hm_w1 (hm_w1 s 14 5 0) 14 6 0)
theorem N_156 {c j : Nat} (h14 : c ≠ 14) {s : hm_St} : (T_156 s) c j = s c j := by
  unfold T_156
  repeat' split
  all_goals first | rfl | simp only [hm_w1n h14]
set_option maxRecDepth 20000 in
theorem sp_156 {R : hm_R} (hR : hm_Cm R) {N L : Nat} {g : Nat → hm_Sh} {s : hm_St} {b : hm_B} {Q : hm_Q} (hN : 68 ≤ N) (hq : Q (.inr none) (N, hm_sh L g, (T_156 s))) : R 156 0 (lv_args 0 [.ref 14]) [] (N, hm_sh L g, s) b Q := by
  unfold T_156 at hq
  show R 156 0 [(0, .ref 14)] [] (N, hm_sh L g, s) _ Q
  refine hm_st hR (hm_st hR (hm_st hR ⟨rfl, rfl, hm_le rfl, (hm_ltN hN rfl), ?_⟩))
  show R 156 5 [(0, .ref 14)] [] (N, hm_sh L g, (hm_w1 s 14 5 0)) _ Q
  refine hm_st hR (hm_st hR (hm_st hR ⟨rfl, rfl, hm_le rfl, (hm_ltN hN rfl), ?_⟩))
  show R 156 10 [(0, .ref 14)] [] (N, hm_sh L g, (hm_w1 (hm_w1 s 14 5 0) 14 6 0)) _ Q
  exact hm_st hR hq
/-- CurvekeyHouse$Points.bid(I)V -/
def T_168 (s : hm_St) (p1 : Int32) : hm_St := (hm_w1 (T_179 s 20 80 p1 0) 14 6 (((T_179 s 20 80 p1 0) 14 6) - 1))
theorem N_168 {c j : Nat} (h14 : c ≠ 14) (h20 : c ≠ 20) {s : hm_St} {p1 : Int32} : (T_168 s p1) c j = s c j := by
  unfold T_168
  repeat' split
  all_goals first | rfl | simp only [hm_w1n h14, hm_w1n h20, N_179 h14, N_179 h20]
set_option maxRecDepth 20000 in
theorem sp_168 {R : hm_R} (hR : hm_Cm R) {N L : Nat} {g : Nat → hm_Sh} {s : hm_St} {b : hm_B} {Q : hm_Q} (hN : 68 ≤ N) {p1 : Int32} (hq : Q (.inr none) (N, hm_sh L g, (T_168 s p1))) : R 168 0 (lv_args 0 [.ref 14, .int p1]) [] (N, hm_sh L g, s) b Q := by
  unfold T_168 at hq
  show R 168 0 [(0, .ref 14), (1, .int p1)] [] (N, hm_sh L g, s) _ Q
  refine hm_st hR (hm_st hR ⟨rfl, hm_le rfl, (hm_ltN hN rfl), hm_st hR (hm_st hR (?_))⟩)
  refine hm_st hR ⟨hm_le rfl, rfl, (hm_le rfl), (hm_ltN hN rfl), hm_le rfl, hm_le rfl, (0, 0), Nat.zero_le _, Nat.zero_le _, ?_⟩
  refine sp_179 hR hN (rr := 19) (aa := 20) (nn := 80) rfl rfl (hm_le rfl) (hm_ltN hN rfl) rfl rfl (hm_le rfl) (hm_ltN hN rfl) (by decide) ?_
  show R 168 9 [(0, .ref 14), (1, .int p1)] [] (N, hm_sh L g, (T_179 s 20 80 p1 0)) _ Q
  refine hm_st hR (hm_st hR ⟨rfl, hm_st hR ⟨rfl, hm_le rfl, (hm_ltN hN rfl), hm_st hR (hm_st hR (hm_st hR ⟨rfl, rfl, hm_le rfl, (hm_ltN hN rfl), ?_⟩))⟩⟩)
  show R 168 19 [(0, .ref 14), (1, .int p1)] [] (N, hm_sh L g, (hm_w1 (T_179 s 20 80 p1 0) 14 6 (((T_179 s 20 80 p1 0) 14 6) - 1))) _ Q
  exact hm_st hR hq
def T_171_6 (bx : Nat) : Nat → hm_St → Int32 → Int32 → Int32 → Int32 → Int32
  | 0, s, _, _, _, _ => 0
  | n + 1, s, v2, v3, v4, v5 => (if (s 14 5) ≤ v5 then v4 else (if (T_160 s v5) = 0 then (T_171_6 bx n s v2 v3 v4 (v5 + 1)) else (if (T_66 s bx (T_169 s v5 v2 v3) (T_170 s v5 v2 v3)) = 0 then (T_171_6 bx n s v2 v3 v4 (v5 + 1)) else (T_171_6 bx n s v2 v3 (v4 + 1) (v5 + 1)))))
/-- CurvekeyHouse$Points.soonIn(LCurvekeyHouse$Box;II)I -/
def T_171 (s : hm_St) (bx : Nat) (p2 : Int32) (p3 : Int32) : Int32 := (T_171_6 bx (hm_df (s 14 5) 0 + 1) s p2 p3 0 0)
set_option maxRecDepth 20000 in
theorem lp_171_6 {R : hm_R} (hR : hm_Cm R) {N L : Nat} {g : Nat → hm_Sh} {b : hm_B} {Q : hm_Q} (hN : 68 ≤ N) {bx : Nat} (hbk : (hm_sh L g bx).1 = 0) (hb2 : 2 ≤ bx) (hbl : bx < N) : ∀ (n : Nat) (s : hm_St) (v2 : Int32) (v3 : Int32) (v4 : Int32) (v5 : Int32), hm_df (s 14 5) v5 < n → (hq : Q (.inr (some (.int (T_171_6 bx n s v2 v3 v4 v5)))) (N, hm_sh L g, s)) → R 171 6 [(5, .int v5), (4, .int v4), (0, .ref 14), (1, .ref bx), (2, .int v2), (3, .int v3)] [] (N, hm_sh L g, s) b Q := by
  intro n
  induction n with
  | zero => intro s v2 v3 v4 v5 hm _; exact absurd hm (Nat.not_lt_zero _)
  | succ n ih =>
    intro s v2 v3 v4 v5 hm hq
    unfold T_171_6 at hq
    refine hm_st hR (hm_st hR (hm_st hR ⟨rfl, hm_le rfl, (hm_ltN hN rfl), ?_⟩))
    show R 171 12 [(5, .int v5), (4, .int v4), (0, .ref 14), (1, .ref bx), (2, .int v2), (3, .int v3)] [.int (s 14 5), .int v5] (N, hm_sh L g, s) _ Q
    refine hm_st hR ⟨fun c12 => ?_, fun c12 => ?_⟩
    · rw [if_pos c12] at hq
      show R 171 56 [(5, .int v5), (4, .int v4), (0, .ref 14), (1, .ref bx), (2, .int v2), (3, .int v3)] [] (N, hm_sh L g, s) _ Q
      refine hm_st hR (?_)
      exact hm_st hR ⟨fun z => absurd z (by decide), hq⟩
    · rw [if_neg c12] at hq
      show R 171 15 [(5, .int v5), (4, .int v4), (0, .ref 14), (1, .ref bx), (2, .int v2), (3, .int v3)] [] (N, hm_sh L g, s) _ Q
      refine hm_st hR (hm_st hR (?_))
      refine hm_st hR ⟨hm_le rfl, rfl, (hm_le rfl), (hm_ltN hN rfl), hm_le rfl, hm_le rfl, (0, 0), Nat.zero_le _, Nat.zero_le _, ?_⟩
      refine sp_160 hR hN ?_
      show R 171 21 [(5, .int v5), (4, .int v4), (0, .ref 14), (1, .ref bx), (2, .int v2), (3, .int v3)] [.int (T_160 s v5)] (N, hm_sh L g, s) _ Q
      show R 171 21 [(5, .int v5), (4, .int v4), (0, .ref 14), (1, .ref bx), (2, .int v2), (3, .int v3)] [.int (T_160 s v5)] (N, hm_sh L g, s) _ Q
      refine hm_st hR ⟨fun c21 => ?_, fun c21 => ?_⟩
      · rw [if_pos c21] at hq
        show R 171 50 [(5, .int v5), (4, .int v4), (0, .ref 14), (1, .ref bx), (2, .int v2), (3, .int v3)] [] (N, hm_sh L g, s) _ Q
        refine hm_st hR (hm_st hR (?_))
        show R 171 6 [(5, .int (v5 + 1)), (4, .int v4), (0, .ref 14), (1, .ref bx), (2, .int v2), (3, .int v3)] [] (N, hm_sh L g, s) _ Q
        exact hm_lvS hR (by intro q hq; simp only [List.mem_cons, List.not_mem_nil, or_false] at hq ⊢; rcases hq with rfl | rfl | rfl | rfl | rfl | rfl <;> simp) (ih s v2 v3 v4 (v5 + 1) (hm_dcx c12 hm) hq)
      · rw [if_neg c21] at hq
        show R 171 24 [(5, .int v5), (4, .int v4), (0, .ref 14), (1, .ref bx), (2, .int v2), (3, .int v3)] [] (N, hm_sh L g, s) _ Q
        refine hm_st hR (hm_st hR (hm_st hR (hm_st hR (hm_st hR (?_)))))
        refine hm_st hR ⟨hm_le rfl, rfl, (hm_le rfl), (hm_ltN hN rfl), hm_le rfl, hm_le rfl, (0, 0), Nat.zero_le _, Nat.zero_le _, ?_⟩
        refine sp_169 hR hN ?_
        show R 171 33 [(5, .int v5), (4, .int v4), (0, .ref 14), (1, .ref bx), (2, .int v2), (3, .int v3)] [.int (T_169 s v5 v2 v3), .ref bx] (N, hm_sh L g, s) _ Q
        refine hm_st hR (hm_st hR (hm_st hR (hm_st hR (?_))))
        refine hm_st hR ⟨hm_le rfl, rfl, (hm_le rfl), (hm_ltN hN rfl), hm_le rfl, hm_le rfl, (0, 0), Nat.zero_le _, Nat.zero_le _, ?_⟩
        refine sp_170 hR hN ?_
        show R 171 41 [(5, .int v5), (4, .int v4), (0, .ref 14), (1, .ref bx), (2, .int v2), (3, .int v3)] [.int (T_170 s v5 v2 v3), .int (T_169 s v5 v2 v3), .ref bx] (N, hm_sh L g, s) _ Q
        refine hm_st hR ⟨hm_le rfl, hbk, hb2, hbl, hm_le rfl, hm_le rfl, (0, 0), Nat.zero_le _, Nat.zero_le _, ?_⟩
        refine sp_66 hR hN hbk hb2 hbl ?_
        show R 171 44 [(5, .int v5), (4, .int v4), (0, .ref 14), (1, .ref bx), (2, .int v2), (3, .int v3)] [.int (T_66 s bx (T_169 s v5 v2 v3) (T_170 s v5 v2 v3))] (N, hm_sh L g, s) _ Q
        show R 171 44 [(5, .int v5), (4, .int v4), (0, .ref 14), (1, .ref bx), (2, .int v2), (3, .int v3)] [.int (T_66 s bx (T_169 s v5 v2 v3) (T_170 s v5 v2 v3))] (N, hm_sh L g, s) _ Q
        refine hm_st hR ⟨fun c44 => ?_, fun c44 => ?_⟩
        · rw [if_pos c44] at hq
          show R 171 50 [(5, .int v5), (4, .int v4), (0, .ref 14), (1, .ref bx), (2, .int v2), (3, .int v3)] [] (N, hm_sh L g, s) _ Q
          refine hm_st hR (hm_st hR (?_))
          show R 171 6 [(5, .int (v5 + 1)), (4, .int v4), (0, .ref 14), (1, .ref bx), (2, .int v2), (3, .int v3)] [] (N, hm_sh L g, s) _ Q
          exact hm_lvS hR (by intro q hq; simp only [List.mem_cons, List.not_mem_nil, or_false] at hq ⊢; rcases hq with rfl | rfl | rfl | rfl | rfl | rfl <;> simp) (ih s v2 v3 v4 (v5 + 1) (hm_dcx c12 hm) hq)
        · rw [if_neg c44] at hq
          show R 171 47 [(5, .int v5), (4, .int v4), (0, .ref 14), (1, .ref bx), (2, .int v2), (3, .int v3)] [] (N, hm_sh L g, s) _ Q
          refine hm_st hR (hm_st hR (hm_st hR (?_)))
          show R 171 6 [(5, .int (v5 + 1)), (4, .int (v4 + 1)), (0, .ref 14), (1, .ref bx), (2, .int v2), (3, .int v3)] [] (N, hm_sh L g, s) _ Q
          exact hm_lvS hR (by intro q hq; simp only [List.mem_cons, List.not_mem_nil, or_false] at hq ⊢; rcases hq with rfl | rfl | rfl | rfl | rfl | rfl <;> simp) (ih s v2 v3 (v4 + 1) (v5 + 1) (hm_dcx c12 hm) hq)
set_option maxRecDepth 20000 in
theorem sp_171 {R : hm_R} (hR : hm_Cm R) {N L : Nat} {g : Nat → hm_Sh} {s : hm_St} {b : hm_B} {Q : hm_Q} (hN : 68 ≤ N) {bx : Nat} (hbk : (hm_sh L g bx).1 = 0) (hb2 : 2 ≤ bx) (hbl : bx < N) {p2 : Int32} {p3 : Int32} (hq : Q (.inr (some (.int (T_171 s bx p2 p3)))) (N, hm_sh L g, s)) : R 171 0 (lv_args 0 [.ref 14, .ref bx, .int p2, .int p3]) [] (N, hm_sh L g, s) b Q := by
  unfold T_171 at hq
  show R 171 0 [(0, .ref 14), (1, .ref bx), (2, .int p2), (3, .int p3)] [] (N, hm_sh L g, s) _ Q
  refine hm_st hR (hm_st hR (hm_st hR (hm_st hR (?_))))
  show R 171 6 [(5, .int 0), (4, .int 0), (0, .ref 14), (1, .ref bx), (2, .int p2), (3, .int p3)] [] (N, hm_sh L g, s) _ Q
  exact lp_171_6 hR hN hbk hb2 hbl _ _ _ _ _ _ (Nat.lt_succ_self _) hq
def T_174_15 : Nat → hm_St → Int32 → Int32 → Int32 → Int32 → Int32 → Int32 → Int32
  | 0, s, _, _, _, _, _, _ => 0
  | n + 1, s, v1, v2, v3, v4, v5, v6 => (if (s 14 5) ≤ v6 then v5 else (if (T_160 s v6) = 0 then (T_174_15 n s v1 v2 v3 v4 v5 (v6 + 1)) else (if (T_172 s v6 v2 v3) < v4 then (T_174_15 n s v1 v2 v3 v4 (v5 + 1) (v6 + 1)) else (if (T_172 s v6 v2 v3) = v4 then (if v1 ≤ v6 then (T_174_15 n s v1 v2 v3 v4 v5 (v6 + 1)) else (T_174_15 n s v1 v2 v3 v4 (v5 + 1) (v6 + 1))) else (T_174_15 n s v1 v2 v3 v4 v5 (v6 + 1))))))
/-- CurvekeyHouse$Points.nearerThan(III)I -/
def T_174 (s : hm_St) (p1 : Int32) (p2 : Int32) (p3 : Int32) : Int32 := (T_174_15 (hm_df (s 14 5) 0 + 1) s p1 p2 p3 (T_172 s p1 p2 p3) 0 0)
set_option maxRecDepth 20000 in
theorem lp_174_15 {R : hm_R} (hR : hm_Cm R) {N L : Nat} {g : Nat → hm_Sh} {b : hm_B} {Q : hm_Q} (hN : 68 ≤ N) : ∀ (n : Nat) (s : hm_St) (v1 : Int32) (v2 : Int32) (v3 : Int32) (v4 : Int32) (v5 : Int32) (v6 : Int32), hm_df (s 14 5) v6 < n → (hq : Q (.inr (some (.int (T_174_15 n s v1 v2 v3 v4 v5 v6)))) (N, hm_sh L g, s)) → R 174 15 [(6, .int v6), (5, .int v5), (4, .int v4), (0, .ref 14), (1, .int v1), (2, .int v2), (3, .int v3)] [] (N, hm_sh L g, s) b Q := by
  intro n
  induction n with
  | zero => intro s v1 v2 v3 v4 v5 v6 hm _; exact absurd hm (Nat.not_lt_zero _)
  | succ n ih =>
    intro s v1 v2 v3 v4 v5 v6 hm hq
    unfold T_174_15 at hq
    refine hm_st hR (hm_st hR (hm_st hR ⟨rfl, hm_le rfl, (hm_ltN hN rfl), ?_⟩))
    show R 174 21 [(6, .int v6), (5, .int v5), (4, .int v4), (0, .ref 14), (1, .int v1), (2, .int v2), (3, .int v3)] [.int (s 14 5), .int v6] (N, hm_sh L g, s) _ Q
    refine hm_st hR ⟨fun c21 => ?_, fun c21 => ?_⟩
    · rw [if_pos c21] at hq
      show R 174 72 [(6, .int v6), (5, .int v5), (4, .int v4), (0, .ref 14), (1, .int v1), (2, .int v2), (3, .int v3)] [] (N, hm_sh L g, s) _ Q
      refine hm_st hR (?_)
      exact hm_st hR ⟨fun z => absurd z (by decide), hq⟩
    · rw [if_neg c21] at hq
      show R 174 24 [(6, .int v6), (5, .int v5), (4, .int v4), (0, .ref 14), (1, .int v1), (2, .int v2), (3, .int v3)] [] (N, hm_sh L g, s) _ Q
      refine hm_st hR (hm_st hR (hm_st hR (hm_st hR (?_))))
      refine hm_st hR ⟨hm_le rfl, rfl, (hm_le rfl), (hm_ltN hN rfl), hm_le rfl, hm_le rfl, (0, 0), Nat.zero_le _, Nat.zero_le _, ?_⟩
      refine sp_172 hR hN ?_
      show R 174 32 [(6, .int v6), (5, .int v5), (4, .int v4), (0, .ref 14), (1, .int v1), (2, .int v2), (3, .int v3)] [.int (T_172 s v6 v2 v3)] (N, hm_sh L g, s) _ Q
      refine hm_st hR (hm_st hR (hm_st hR (?_)))
      refine hm_st hR ⟨hm_le rfl, rfl, (hm_le rfl), (hm_ltN hN rfl), hm_le rfl, hm_le rfl, (0, 0), Nat.zero_le _, Nat.zero_le _, ?_⟩
      refine sp_160 hR hN ?_
      show R 174 40 [(7, .int (T_172 s v6 v2 v3)), (6, .int v6), (5, .int v5), (4, .int v4), (0, .ref 14), (1, .int v1), (2, .int v2), (3, .int v3)] [.int (T_160 s v6)] (N, hm_sh L g, s) _ Q
      show R 174 40 [(7, .int (T_172 s v6 v2 v3)), (6, .int v6), (5, .int v5), (4, .int v4), (0, .ref 14), (1, .int v1), (2, .int v2), (3, .int v3)] [.int (T_160 s v6)] (N, hm_sh L g, s) _ Q
      refine hm_st hR ⟨fun c40 => ?_, fun c40 => ?_⟩
      · rw [if_pos c40] at hq
        show R 174 66 [(7, .int (T_172 s v6 v2 v3)), (6, .int v6), (5, .int v5), (4, .int v4), (0, .ref 14), (1, .int v1), (2, .int v2), (3, .int v3)] [] (N, hm_sh L g, s) _ Q
        refine hm_st hR (hm_st hR (?_))
        show R 174 15 [(6, .int (v6 + 1)), (7, .int (T_172 s v6 v2 v3)), (5, .int v5), (4, .int v4), (0, .ref 14), (1, .int v1), (2, .int v2), (3, .int v3)] [] (N, hm_sh L g, s) _ Q
        exact hm_lvS hR (by intro q hq; simp only [List.mem_cons, List.not_mem_nil, or_false] at hq ⊢; rcases hq with rfl | rfl | rfl | rfl | rfl | rfl | rfl <;> simp) (ih s v1 v2 v3 v4 v5 (v6 + 1) (hm_dcx c21 hm) hq)
      · rw [if_neg c40] at hq
        show R 174 43 [(7, .int (T_172 s v6 v2 v3)), (6, .int v6), (5, .int v5), (4, .int v4), (0, .ref 14), (1, .int v1), (2, .int v2), (3, .int v3)] [] (N, hm_sh L g, s) _ Q
        refine hm_st hR (hm_st hR (?_))
        show R 174 47 [(7, .int (T_172 s v6 v2 v3)), (6, .int v6), (5, .int v5), (4, .int v4), (0, .ref 14), (1, .int v1), (2, .int v2), (3, .int v3)] [.int v4, .int (T_172 s v6 v2 v3)] (N, hm_sh L g, s) _ Q
        refine hm_st hR ⟨fun c47 => ?_, fun c47 => ?_⟩
        · rw [if_pos c47] at hq
          show R 174 63 [(7, .int (T_172 s v6 v2 v3)), (6, .int v6), (5, .int v5), (4, .int v4), (0, .ref 14), (1, .int v1), (2, .int v2), (3, .int v3)] [] (N, hm_sh L g, s) _ Q
          refine hm_st hR (hm_st hR (hm_st hR (?_)))
          show R 174 15 [(6, .int (v6 + 1)), (5, .int (v5 + 1)), (7, .int (T_172 s v6 v2 v3)), (4, .int v4), (0, .ref 14), (1, .int v1), (2, .int v2), (3, .int v3)] [] (N, hm_sh L g, s) _ Q
          exact hm_lvS hR (by intro q hq; simp only [List.mem_cons, List.not_mem_nil, or_false] at hq ⊢; rcases hq with rfl | rfl | rfl | rfl | rfl | rfl | rfl <;> simp) (ih s v1 v2 v3 v4 (v5 + 1) (v6 + 1) (hm_dcx c21 hm) hq)
        · rw [if_neg c47] at hq
          show R 174 50 [(7, .int (T_172 s v6 v2 v3)), (6, .int v6), (5, .int v5), (4, .int v4), (0, .ref 14), (1, .int v1), (2, .int v2), (3, .int v3)] [] (N, hm_sh L g, s) _ Q
          refine hm_st hR (hm_st hR (?_))
          show R 174 54 [(7, .int (T_172 s v6 v2 v3)), (6, .int v6), (5, .int v5), (4, .int v4), (0, .ref 14), (1, .int v1), (2, .int v2), (3, .int v3)] [.int v4, .int (T_172 s v6 v2 v3)] (N, hm_sh L g, s) _ Q
          refine hm_st hR ⟨fun c54 => ?_, fun c54 => ?_⟩
          · rw [if_neg c54] at hq
            show R 174 66 [(7, .int (T_172 s v6 v2 v3)), (6, .int v6), (5, .int v5), (4, .int v4), (0, .ref 14), (1, .int v1), (2, .int v2), (3, .int v3)] [] (N, hm_sh L g, s) _ Q
            refine hm_st hR (hm_st hR (?_))
            show R 174 15 [(6, .int (v6 + 1)), (7, .int (T_172 s v6 v2 v3)), (5, .int v5), (4, .int v4), (0, .ref 14), (1, .int v1), (2, .int v2), (3, .int v3)] [] (N, hm_sh L g, s) _ Q
            exact hm_lvS hR (by intro q hq; simp only [List.mem_cons, List.not_mem_nil, or_false] at hq ⊢; rcases hq with rfl | rfl | rfl | rfl | rfl | rfl | rfl <;> simp) (ih s v1 v2 v3 v4 v5 (v6 + 1) (hm_dcx c21 hm) hq)
          · rw [if_pos c54] at hq
            show R 174 57 [(7, .int (T_172 s v6 v2 v3)), (6, .int v6), (5, .int v5), (4, .int v4), (0, .ref 14), (1, .int v1), (2, .int v2), (3, .int v3)] [] (N, hm_sh L g, s) _ Q
            refine hm_st hR (hm_st hR (?_))
            show R 174 60 [(7, .int (T_172 s v6 v2 v3)), (6, .int v6), (5, .int v5), (4, .int v4), (0, .ref 14), (1, .int v1), (2, .int v2), (3, .int v3)] [.int v1, .int v6] (N, hm_sh L g, s) _ Q
            refine hm_st hR ⟨fun c60 => ?_, fun c60 => ?_⟩
            · rw [if_pos c60] at hq
              show R 174 66 [(7, .int (T_172 s v6 v2 v3)), (6, .int v6), (5, .int v5), (4, .int v4), (0, .ref 14), (1, .int v1), (2, .int v2), (3, .int v3)] [] (N, hm_sh L g, s) _ Q
              refine hm_st hR (hm_st hR (?_))
              show R 174 15 [(6, .int (v6 + 1)), (7, .int (T_172 s v6 v2 v3)), (5, .int v5), (4, .int v4), (0, .ref 14), (1, .int v1), (2, .int v2), (3, .int v3)] [] (N, hm_sh L g, s) _ Q
              exact hm_lvS hR (by intro q hq; simp only [List.mem_cons, List.not_mem_nil, or_false] at hq ⊢; rcases hq with rfl | rfl | rfl | rfl | rfl | rfl | rfl <;> simp) (ih s v1 v2 v3 v4 v5 (v6 + 1) (hm_dcx c21 hm) hq)
            · rw [if_neg c60] at hq
              show R 174 63 [(7, .int (T_172 s v6 v2 v3)), (6, .int v6), (5, .int v5), (4, .int v4), (0, .ref 14), (1, .int v1), (2, .int v2), (3, .int v3)] [] (N, hm_sh L g, s) _ Q
              refine hm_st hR (hm_st hR (hm_st hR (?_)))
              show R 174 15 [(6, .int (v6 + 1)), (5, .int (v5 + 1)), (7, .int (T_172 s v6 v2 v3)), (4, .int v4), (0, .ref 14), (1, .int v1), (2, .int v2), (3, .int v3)] [] (N, hm_sh L g, s) _ Q
              exact hm_lvS hR (by intro q hq; simp only [List.mem_cons, List.not_mem_nil, or_false] at hq ⊢; rcases hq with rfl | rfl | rfl | rfl | rfl | rfl | rfl <;> simp) (ih s v1 v2 v3 v4 (v5 + 1) (v6 + 1) (hm_dcx c21 hm) hq)
set_option maxRecDepth 20000 in
theorem sp_174 {R : hm_R} (hR : hm_Cm R) {N L : Nat} {g : Nat → hm_Sh} {s : hm_St} {b : hm_B} {Q : hm_Q} (hN : 68 ≤ N) {p1 : Int32} {p2 : Int32} {p3 : Int32} (hq : Q (.inr (some (.int (T_174 s p1 p2 p3)))) (N, hm_sh L g, s)) : R 174 0 (lv_args 0 [.ref 14, .int p1, .int p2, .int p3]) [] (N, hm_sh L g, s) b Q := by
  unfold T_174 at hq
  show R 174 0 [(0, .ref 14), (1, .int p1), (2, .int p2), (3, .int p3)] [] (N, hm_sh L g, s) _ Q
  refine hm_st hR (hm_st hR (hm_st hR (hm_st hR (?_))))
  refine hm_st hR ⟨hm_le rfl, rfl, (hm_le rfl), (hm_ltN hN rfl), hm_le rfl, hm_le rfl, (0, 0), Nat.zero_le _, Nat.zero_le _, ?_⟩
  refine sp_172 hR hN ?_
  show R 174 7 [(0, .ref 14), (1, .int p1), (2, .int p2), (3, .int p3)] [.int (T_172 s p1 p2 p3)] (N, hm_sh L g, s) _ Q
  refine hm_st hR (hm_st hR (hm_st hR (hm_st hR (hm_st hR (?_)))))
  show R 174 15 [(6, .int 0), (5, .int 0), (4, .int (T_172 s p1 p2 p3)), (0, .ref 14), (1, .int p1), (2, .int p2), (3, .int p3)] [] (N, hm_sh L g, s) _ Q
  exact lp_174_15 hR hN _ _ _ _ _ _ _ _ (Nat.lt_succ_self _) hq
def T_173_3 : Nat → hm_St → Int32 → Int32 → Int32 → Int32 → Int32
  | 0, s, _, _, _, _ => 0
  | n + 1, s, v1, v2, v3, v4 => (if (s 14 5) ≤ v4 then (-1) else (if (T_160 s v4) = 0 then (T_173_3 n s v1 v2 v3 (v4 + 1)) else (if (T_174 s v4 v1 v2) = v3 then v4 else (T_173_3 n s v1 v2 v3 (v4 + 1)))))
/-- CurvekeyHouse$Points.nthNearest(III)I -/
def T_173 (s : hm_St) (p1 : Int32) (p2 : Int32) (p3 : Int32) : Int32 := (T_173_3 (hm_df (s 14 5) 0 + 1) s p1 p2 p3 0)
set_option maxRecDepth 20000 in
theorem lp_173_3 {R : hm_R} (hR : hm_Cm R) {N L : Nat} {g : Nat → hm_Sh} {b : hm_B} {Q : hm_Q} (hN : 68 ≤ N) : ∀ (n : Nat) (s : hm_St) (v1 : Int32) (v2 : Int32) (v3 : Int32) (v4 : Int32), hm_df (s 14 5) v4 < n → (hq : Q (.inr (some (.int (T_173_3 n s v1 v2 v3 v4)))) (N, hm_sh L g, s)) → R 173 3 [(4, .int v4), (0, .ref 14), (1, .int v1), (2, .int v2), (3, .int v3)] [] (N, hm_sh L g, s) b Q := by
  intro n
  induction n with
  | zero => intro s v1 v2 v3 v4 hm _; exact absurd hm (Nat.not_lt_zero _)
  | succ n ih =>
    intro s v1 v2 v3 v4 hm hq
    unfold T_173_3 at hq
    refine hm_st hR (hm_st hR (hm_st hR ⟨rfl, hm_le rfl, (hm_ltN hN rfl), ?_⟩))
    show R 173 9 [(4, .int v4), (0, .ref 14), (1, .int v1), (2, .int v2), (3, .int v3)] [.int (s 14 5), .int v4] (N, hm_sh L g, s) _ Q
    refine hm_st hR ⟨fun c9 => ?_, fun c9 => ?_⟩
    · rw [if_pos c9] at hq
      show R 173 42 [(4, .int v4), (0, .ref 14), (1, .int v1), (2, .int v2), (3, .int v3)] [] (N, hm_sh L g, s) _ Q
      refine hm_st hR (?_)
      exact hm_st hR ⟨fun z => absurd z (by decide), hq⟩
    · rw [if_neg c9] at hq
      show R 173 12 [(4, .int v4), (0, .ref 14), (1, .int v1), (2, .int v2), (3, .int v3)] [] (N, hm_sh L g, s) _ Q
      refine hm_st hR (hm_st hR (?_))
      refine hm_st hR ⟨hm_le rfl, rfl, (hm_le rfl), (hm_ltN hN rfl), hm_le rfl, hm_le rfl, (0, 0), Nat.zero_le _, Nat.zero_le _, ?_⟩
      refine sp_160 hR hN ?_
      show R 173 18 [(4, .int v4), (0, .ref 14), (1, .int v1), (2, .int v2), (3, .int v3)] [.int (T_160 s v4)] (N, hm_sh L g, s) _ Q
      show R 173 18 [(4, .int v4), (0, .ref 14), (1, .int v1), (2, .int v2), (3, .int v3)] [.int (T_160 s v4)] (N, hm_sh L g, s) _ Q
      refine hm_st hR ⟨fun c18 => ?_, fun c18 => ?_⟩
      · rw [if_pos c18] at hq
        show R 173 36 [(4, .int v4), (0, .ref 14), (1, .int v1), (2, .int v2), (3, .int v3)] [] (N, hm_sh L g, s) _ Q
        refine hm_st hR (hm_st hR (?_))
        show R 173 3 [(4, .int (v4 + 1)), (0, .ref 14), (1, .int v1), (2, .int v2), (3, .int v3)] [] (N, hm_sh L g, s) _ Q
        exact hm_lvS hR (by intro q hq; simp only [List.mem_cons, List.not_mem_nil, or_false] at hq ⊢; rcases hq with rfl | rfl | rfl | rfl | rfl <;> simp) (ih s v1 v2 v3 (v4 + 1) (hm_dcx c9 hm) hq)
      · rw [if_neg c18] at hq
        show R 173 21 [(4, .int v4), (0, .ref 14), (1, .int v1), (2, .int v2), (3, .int v3)] [] (N, hm_sh L g, s) _ Q
        refine hm_st hR (hm_st hR (hm_st hR (hm_st hR (?_))))
        refine hm_st hR ⟨hm_le rfl, rfl, (hm_le rfl), (hm_ltN hN rfl), hm_le rfl, hm_le rfl, (0, 0), Nat.zero_le _, Nat.zero_le _, ?_⟩
        refine sp_174 hR hN ?_
        show R 173 29 [(4, .int v4), (0, .ref 14), (1, .int v1), (2, .int v2), (3, .int v3)] [.int (T_174 s v4 v1 v2)] (N, hm_sh L g, s) _ Q
        refine hm_st hR (?_)
        show R 173 30 [(4, .int v4), (0, .ref 14), (1, .int v1), (2, .int v2), (3, .int v3)] [.int v3, .int (T_174 s v4 v1 v2)] (N, hm_sh L g, s) _ Q
        refine hm_st hR ⟨fun c30 => ?_, fun c30 => ?_⟩
        · rw [if_neg c30] at hq
          show R 173 36 [(4, .int v4), (0, .ref 14), (1, .int v1), (2, .int v2), (3, .int v3)] [] (N, hm_sh L g, s) _ Q
          refine hm_st hR (hm_st hR (?_))
          show R 173 3 [(4, .int (v4 + 1)), (0, .ref 14), (1, .int v1), (2, .int v2), (3, .int v3)] [] (N, hm_sh L g, s) _ Q
          exact hm_lvS hR (by intro q hq; simp only [List.mem_cons, List.not_mem_nil, or_false] at hq ⊢; rcases hq with rfl | rfl | rfl | rfl | rfl <;> simp) (ih s v1 v2 v3 (v4 + 1) (hm_dcx c9 hm) hq)
        · rw [if_pos c30] at hq
          show R 173 33 [(4, .int v4), (0, .ref 14), (1, .int v1), (2, .int v2), (3, .int v3)] [] (N, hm_sh L g, s) _ Q
          refine hm_st hR (?_)
          exact hm_st hR ⟨fun z => absurd z (by decide), hq⟩
set_option maxRecDepth 20000 in
theorem sp_173 {R : hm_R} (hR : hm_Cm R) {N L : Nat} {g : Nat → hm_Sh} {s : hm_St} {b : hm_B} {Q : hm_Q} (hN : 68 ≤ N) {p1 : Int32} {p2 : Int32} {p3 : Int32} (hq : Q (.inr (some (.int (T_173 s p1 p2 p3)))) (N, hm_sh L g, s)) : R 173 0 (lv_args 0 [.ref 14, .int p1, .int p2, .int p3]) [] (N, hm_sh L g, s) b Q := by
  unfold T_173 at hq
  show R 173 0 [(0, .ref 14), (1, .int p1), (2, .int p2), (3, .int p3)] [] (N, hm_sh L g, s) _ Q
  refine hm_st hR (hm_st hR (?_))
  show R 173 3 [(4, .int 0), (0, .ref 14), (1, .int p1), (2, .int p2), (3, .int p3)] [] (N, hm_sh L g, s) _ Q
  exact lp_173_3 hR hN _ _ _ _ _ _ (Nat.lt_succ_self _) hq
/-- CurvekeyHouse$Tiles.clear()V -/
def T_185 (s : hm_St) : hm_St := (hm_w1 s 50 4 0)
theorem N_185 {c j : Nat} (h50 : c ≠ 50) {s : hm_St} : (T_185 s) c j = s c j := by
  unfold T_185
  repeat' split
  all_goals first | rfl | simp only [hm_w1n h50]
set_option maxRecDepth 20000 in
theorem sp_185 {R : hm_R} (hR : hm_Cm R) {N L : Nat} {g : Nat → hm_Sh} {s : hm_St} {b : hm_B} {Q : hm_Q} (hN : 68 ≤ N) (hq : Q (.inr none) (N, hm_sh L g, (T_185 s))) : R 185 0 (lv_args 0 [.ref 50]) [] (N, hm_sh L g, s) b Q := by
  unfold T_185 at hq
  show R 185 0 [(0, .ref 50)] [] (N, hm_sh L g, s) _ Q
  refine hm_st hR (hm_st hR (hm_st hR ⟨rfl, rfl, hm_le rfl, (hm_ltN hN rfl), ?_⟩))
  show R 185 5 [(0, .ref 50)] [] (N, hm_sh L g, (hm_w1 s 50 4 0)) _ Q
  exact hm_st hR hq
def T_187_2 : Nat → hm_St → Int32 → Int32 → Int32 → Int32
  | 0, s, _, _, _ => 0
  | n + 1, s, v1, v2, v3 => (if (s 50 4) ≤ v3 then (-1) else (if (T_178 s 52 20 v3) = v1 then (if (T_178 s 54 20 v3) = v2 then v3 else (T_187_2 n s v1 v2 (v3 + 1))) else (T_187_2 n s v1 v2 (v3 + 1))))
/-- CurvekeyHouse$Tiles.find(II)I -/
def T_187 (s : hm_St) (p1 : Int32) (p2 : Int32) : Int32 := (T_187_2 (hm_df (s 50 4) 0 + 1) s p1 p2 0)
set_option maxRecDepth 20000 in
theorem lp_187_2 {R : hm_R} (hR : hm_Cm R) {N L : Nat} {g : Nat → hm_Sh} {b : hm_B} {Q : hm_Q} (hN : 68 ≤ N) : ∀ (n : Nat) (s : hm_St) (v1 : Int32) (v2 : Int32) (v3 : Int32), hm_df (s 50 4) v3 < n → (hq : Q (.inr (some (.int (T_187_2 n s v1 v2 v3)))) (N, hm_sh L g, s)) → R 187 2 [(3, .int v3), (0, .ref 50), (1, .int v1), (2, .int v2)] [] (N, hm_sh L g, s) b Q := by
  intro n
  induction n with
  | zero => intro s v1 v2 v3 hm _; exact absurd hm (Nat.not_lt_zero _)
  | succ n ih =>
    intro s v1 v2 v3 hm hq
    unfold T_187_2 at hq
    refine hm_st hR (hm_st hR (hm_st hR ⟨rfl, hm_le rfl, (hm_ltN hN rfl), ?_⟩))
    show R 187 7 [(3, .int v3), (0, .ref 50), (1, .int v1), (2, .int v2)] [.int (s 50 4), .int v3] (N, hm_sh L g, s) _ Q
    refine hm_st hR ⟨fun c7 => ?_, fun c7 => ?_⟩
    · rw [if_pos c7] at hq
      show R 187 42 [(3, .int v3), (0, .ref 50), (1, .int v1), (2, .int v2)] [] (N, hm_sh L g, s) _ Q
      refine hm_st hR (?_)
      exact hm_st hR ⟨fun z => absurd z (by decide), hq⟩
    · rw [if_neg c7] at hq
      show R 187 10 [(3, .int v3), (0, .ref 50), (1, .int v1), (2, .int v2)] [] (N, hm_sh L g, s) _ Q
      refine hm_st hR (hm_st hR ⟨rfl, hm_le rfl, (hm_ltN hN rfl), hm_st hR (?_)⟩)
      refine hm_st hR ⟨hm_le rfl, rfl, (hm_le rfl), (hm_ltN hN rfl), hm_le rfl, hm_le rfl, (0, 0), Nat.zero_le _, Nat.zero_le _, ?_⟩
      refine sp_178 hR hN (rr := 51) (aa := 52) (nn := 20) rfl rfl (hm_le rfl) (hm_ltN hN rfl) rfl rfl (hm_le rfl) (hm_ltN hN rfl) (by decide) ?_
      show R 187 18 [(3, .int v3), (0, .ref 50), (1, .int v1), (2, .int v2)] [.int (T_178 s 52 20 v3)] (N, hm_sh L g, s) _ Q
      refine hm_st hR (?_)
      show R 187 19 [(3, .int v3), (0, .ref 50), (1, .int v1), (2, .int v2)] [.int v1, .int (T_178 s 52 20 v3)] (N, hm_sh L g, s) _ Q
      refine hm_st hR ⟨fun c19 => ?_, fun c19 => ?_⟩
      · rw [if_neg c19] at hq
        show R 187 36 [(3, .int v3), (0, .ref 50), (1, .int v1), (2, .int v2)] [] (N, hm_sh L g, s) _ Q
        refine hm_st hR (hm_st hR (?_))
        show R 187 2 [(3, .int (v3 + 1)), (0, .ref 50), (1, .int v1), (2, .int v2)] [] (N, hm_sh L g, s) _ Q
        exact hm_lvS hR (by intro q hq; simp only [List.mem_cons, List.not_mem_nil, or_false] at hq ⊢; rcases hq with rfl | rfl | rfl | rfl <;> simp) (ih s v1 v2 (v3 + 1) (hm_dcx c7 hm) hq)
      · rw [if_pos c19] at hq
        show R 187 22 [(3, .int v3), (0, .ref 50), (1, .int v1), (2, .int v2)] [] (N, hm_sh L g, s) _ Q
        refine hm_st hR (hm_st hR ⟨rfl, hm_le rfl, (hm_ltN hN rfl), hm_st hR (?_)⟩)
        refine hm_st hR ⟨hm_le rfl, rfl, (hm_le rfl), (hm_ltN hN rfl), hm_le rfl, hm_le rfl, (0, 0), Nat.zero_le _, Nat.zero_le _, ?_⟩
        refine sp_178 hR hN (rr := 53) (aa := 54) (nn := 20) rfl rfl (hm_le rfl) (hm_ltN hN rfl) rfl rfl (hm_le rfl) (hm_ltN hN rfl) (by decide) ?_
        show R 187 30 [(3, .int v3), (0, .ref 50), (1, .int v1), (2, .int v2)] [.int (T_178 s 54 20 v3)] (N, hm_sh L g, s) _ Q
        refine hm_st hR (?_)
        show R 187 31 [(3, .int v3), (0, .ref 50), (1, .int v1), (2, .int v2)] [.int v2, .int (T_178 s 54 20 v3)] (N, hm_sh L g, s) _ Q
        refine hm_st hR ⟨fun c31 => ?_, fun c31 => ?_⟩
        · rw [if_neg c31] at hq
          show R 187 36 [(3, .int v3), (0, .ref 50), (1, .int v1), (2, .int v2)] [] (N, hm_sh L g, s) _ Q
          refine hm_st hR (hm_st hR (?_))
          show R 187 2 [(3, .int (v3 + 1)), (0, .ref 50), (1, .int v1), (2, .int v2)] [] (N, hm_sh L g, s) _ Q
          exact hm_lvS hR (by intro q hq; simp only [List.mem_cons, List.not_mem_nil, or_false] at hq ⊢; rcases hq with rfl | rfl | rfl | rfl <;> simp) (ih s v1 v2 (v3 + 1) (hm_dcx c7 hm) hq)
        · rw [if_pos c31] at hq
          show R 187 34 [(3, .int v3), (0, .ref 50), (1, .int v1), (2, .int v2)] [] (N, hm_sh L g, s) _ Q
          refine hm_st hR (?_)
          exact hm_st hR ⟨fun z => absurd z (by decide), hq⟩
set_option maxRecDepth 20000 in
theorem sp_187 {R : hm_R} (hR : hm_Cm R) {N L : Nat} {g : Nat → hm_Sh} {s : hm_St} {b : hm_B} {Q : hm_Q} (hN : 68 ≤ N) {p1 : Int32} {p2 : Int32} (hq : Q (.inr (some (.int (T_187 s p1 p2)))) (N, hm_sh L g, s)) : R 187 0 (lv_args 0 [.ref 50, .int p1, .int p2]) [] (N, hm_sh L g, s) b Q := by
  unfold T_187 at hq
  show R 187 0 [(0, .ref 50), (1, .int p1), (2, .int p2)] [] (N, hm_sh L g, s) _ Q
  refine hm_st hR (hm_st hR (?_))
  show R 187 2 [(3, .int 0), (0, .ref 50), (1, .int p1), (2, .int p2)] [] (N, hm_sh L g, s) _ Q
  exact lp_187_2 hR hN _ _ _ _ _ (Nat.lt_succ_self _) hq
/-- CurvekeyHouse$Tiles.hasRoomFor(II)Z -/
def T_188 (s : hm_St) (p1 : Int32) (p2 : Int32) : Int32 := (if (s 50 4) < 20 then 1 else (if (T_187 s p1 p2) = (-1) then 0 else 1))
theorem B_188 (s : hm_St) (p1 : Int32) (p2 : Int32) : T_188 s p1 p2 = 0 ∨ T_188 s p1 p2 = 1 := by
  unfold T_188
  repeat' split
  all_goals first | exact Or.inl rfl | exact Or.inr rfl
set_option maxRecDepth 20000 in
theorem sp_188 {R : hm_R} (hR : hm_Cm R) {N L : Nat} {g : Nat → hm_Sh} {s : hm_St} {b : hm_B} {Q : hm_Q} (hN : 68 ≤ N) {p1 : Int32} {p2 : Int32} (hq : Q (.inr (some (.int (T_188 s p1 p2)))) (N, hm_sh L g, s)) : R 188 0 (lv_args 0 [.ref 50, .int p1, .int p2]) [] (N, hm_sh L g, s) b Q := by
  unfold T_188 at hq
  show R 188 0 [(0, .ref 50), (1, .int p1), (2, .int p2)] [] (N, hm_sh L g, s) _ Q
  refine hm_st hR (hm_st hR ⟨rfl, hm_le rfl, (hm_ltN hN rfl), hm_st hR (?_)⟩)
  show R 188 6 [(0, .ref 50), (1, .int p1), (2, .int p2)] [.int 20, .int (s 50 4)] (N, hm_sh L g, s) _ Q
  refine hm_st hR ⟨fun c6 => ?_, fun c6 => ?_⟩
  · rw [if_pos c6] at hq
    show R 188 19 [(0, .ref 50), (1, .int p1), (2, .int p2)] [] (N, hm_sh L g, s) _ Q
    refine hm_st hR (hm_st hR (?_))
    exact hm_st hR ⟨fun _ => Or.inr rfl, hq⟩
  · rw [if_neg c6] at hq
    show R 188 9 [(0, .ref 50), (1, .int p1), (2, .int p2)] [] (N, hm_sh L g, s) _ Q
    refine hm_st hR (hm_st hR (hm_st hR (?_)))
    refine hm_st hR ⟨hm_le rfl, rfl, (hm_le rfl), (hm_ltN hN rfl), hm_le rfl, hm_le rfl, (0, 0), Nat.zero_le _, Nat.zero_le _, ?_⟩
    refine sp_187 hR hN ?_
    show R 188 15 [(0, .ref 50), (1, .int p1), (2, .int p2)] [.int (T_187 s p1 p2)] (N, hm_sh L g, s) _ Q
    refine hm_st hR (?_)
    show R 188 16 [(0, .ref 50), (1, .int p1), (2, .int p2)] [.int (-1), .int (T_187 s p1 p2)] (N, hm_sh L g, s) _ Q
    suffices G : R 188 24 [(0, .ref 50), (1, .int p1), (2, .int p2)] [.int (if (T_187 s p1 p2) = (-1) then 0 else 1)] (N, hm_sh L g, s) (b.1 - 0, b.2 - 0) Q by
      show R 188 16 [(0, .ref 50), (1, .int p1), (2, .int p2)] [.int (-1), .int (T_187 s p1 p2)] (N, hm_sh L g, s) _ Q
      refine hm_st hR ⟨fun c => ?_, fun c => ?_⟩
      · rw [if_pos c] at G; exact hm_st hR (G)
      · rw [if_neg c] at G; exact hm_st hR (hm_st hR (G))
    exact hm_st hR ⟨fun _ => (by split <;> first | exact Or.inl rfl | exact Or.inr rfl), hq⟩
/-- CurvekeyHouse$Tiles.drawAnew(III)V -/
def T_189 (s : hm_St) (p1 : Int32) (p2 : Int32) (p3 : Int32) : hm_St := (if (T_187 s p1 p2) = (-1) then (T_179 (T_179 (T_179 (T_179 (hm_w1 s 50 4 ((s 50 4) + 1)) 52 20 (s 50 4) p1) 54 20 (s 50 4) p2) 56 20 (s 50 4) p3) 58 20 (s 50 4) 0) else (T_179 (T_179 (T_179 (T_179 s 52 20 (T_187 s p1 p2) p1) 54 20 (T_187 s p1 p2) p2) 56 20 (T_187 s p1 p2) p3) 58 20 (T_187 s p1 p2) 0))
theorem N_189 {c j : Nat} (h50 : c ≠ 50) (h52 : c ≠ 52) (h54 : c ≠ 54) (h56 : c ≠ 56) (h58 : c ≠ 58) {s : hm_St} {p1 : Int32} {p2 : Int32} {p3 : Int32} : (T_189 s p1 p2 p3) c j = s c j := by
  unfold T_189
  repeat' split
  all_goals first | rfl | simp only [hm_w1n h50, hm_w1n h52, hm_w1n h54, hm_w1n h56, hm_w1n h58, N_179 h50, N_179 h52, N_179 h54, N_179 h56, N_179 h58]
set_option maxRecDepth 20000 in
theorem sp_189 {R : hm_R} (hR : hm_Cm R) {N L : Nat} {g : Nat → hm_Sh} {s : hm_St} {b : hm_B} {Q : hm_Q} (hN : 68 ≤ N) {p1 : Int32} {p2 : Int32} {p3 : Int32} (hq : Q (.inr none) (N, hm_sh L g, (T_189 s p1 p2 p3))) : R 189 0 (lv_args 0 [.ref 50, .int p1, .int p2, .int p3]) [] (N, hm_sh L g, s) b Q := by
  unfold T_189 at hq
  show R 189 0 [(0, .ref 50), (1, .int p1), (2, .int p2), (3, .int p3)] [] (N, hm_sh L g, s) _ Q
  refine hm_st hR (hm_st hR (hm_st hR (?_)))
  refine hm_st hR ⟨hm_le rfl, rfl, (hm_le rfl), (hm_ltN hN rfl), hm_le rfl, hm_le rfl, (0, 0), Nat.zero_le _, Nat.zero_le _, ?_⟩
  refine sp_187 hR hN ?_
  show R 189 6 [(0, .ref 50), (1, .int p1), (2, .int p2), (3, .int p3)] [.int (T_187 s p1 p2)] (N, hm_sh L g, s) _ Q
  refine hm_st hR (hm_st hR (hm_st hR (?_)))
  show R 189 11 [(4, .int (T_187 s p1 p2)), (0, .ref 50), (1, .int p1), (2, .int p2), (3, .int p3)] [.int (-1), .int (T_187 s p1 p2)] (N, hm_sh L g, s) _ Q
  refine hm_st hR ⟨fun c11 => ?_, fun c11 => ?_⟩
  · rw [if_neg c11] at hq
    show R 189 30 [(4, .int (T_187 s p1 p2)), (0, .ref 50), (1, .int p1), (2, .int p2), (3, .int p3)] [] (N, hm_sh L g, s) _ Q
    refine hm_st hR (hm_st hR ⟨rfl, hm_le rfl, (hm_ltN hN rfl), hm_st hR (hm_st hR (?_))⟩)
    refine hm_st hR ⟨hm_le rfl, rfl, (hm_le rfl), (hm_ltN hN rfl), hm_le rfl, hm_le rfl, (0, 0), Nat.zero_le _, Nat.zero_le _, ?_⟩
    refine sp_179 hR hN (rr := 51) (aa := 52) (nn := 20) rfl rfl (hm_le rfl) (hm_ltN hN rfl) rfl rfl (hm_le rfl) (hm_ltN hN rfl) (by decide) ?_
    show R 189 40 [(4, .int (T_187 s p1 p2)), (0, .ref 50), (1, .int p1), (2, .int p2), (3, .int p3)] [] (N, hm_sh L g, (T_179 s 52 20 (T_187 s p1 p2) p1)) _ Q
    refine hm_st hR (hm_st hR ⟨rfl, hm_le rfl, (hm_ltN hN rfl), hm_st hR (hm_st hR (?_))⟩)
    refine hm_st hR ⟨hm_le rfl, rfl, (hm_le rfl), (hm_ltN hN rfl), hm_le rfl, hm_le rfl, (0, 0), Nat.zero_le _, Nat.zero_le _, ?_⟩
    refine sp_179 hR hN (rr := 53) (aa := 54) (nn := 20) rfl rfl (hm_le rfl) (hm_ltN hN rfl) rfl rfl (hm_le rfl) (hm_ltN hN rfl) (by decide) ?_
    show R 189 50 [(4, .int (T_187 s p1 p2)), (0, .ref 50), (1, .int p1), (2, .int p2), (3, .int p3)] [] (N, hm_sh L g, (T_179 (T_179 s 52 20 (T_187 s p1 p2) p1) 54 20 (T_187 s p1 p2) p2)) _ Q
    refine hm_st hR (hm_st hR ⟨rfl, hm_le rfl, (hm_ltN hN rfl), hm_st hR (hm_st hR (?_))⟩)
    refine hm_st hR ⟨hm_le rfl, rfl, (hm_le rfl), (hm_ltN hN rfl), hm_le rfl, hm_le rfl, (0, 0), Nat.zero_le _, Nat.zero_le _, ?_⟩
    refine sp_179 hR hN (rr := 55) (aa := 56) (nn := 20) rfl rfl (hm_le rfl) (hm_ltN hN rfl) rfl rfl (hm_le rfl) (hm_ltN hN rfl) (by decide) ?_
    show R 189 60 [(4, .int (T_187 s p1 p2)), (0, .ref 50), (1, .int p1), (2, .int p2), (3, .int p3)] [] (N, hm_sh L g, (T_179 (T_179 (T_179 s 52 20 (T_187 s p1 p2) p1) 54 20 (T_187 s p1 p2) p2) 56 20 (T_187 s p1 p2) p3)) _ Q
    refine hm_st hR (hm_st hR ⟨rfl, hm_le rfl, (hm_ltN hN rfl), hm_st hR (hm_st hR (?_))⟩)
    refine hm_st hR ⟨hm_le rfl, rfl, (hm_le rfl), (hm_ltN hN rfl), hm_le rfl, hm_le rfl, (0, 0), Nat.zero_le _, Nat.zero_le _, ?_⟩
    refine sp_179 hR hN (rr := 57) (aa := 58) (nn := 20) rfl rfl (hm_le rfl) (hm_ltN hN rfl) rfl rfl (hm_le rfl) (hm_ltN hN rfl) (by decide) ?_
    show R 189 70 [(4, .int (T_187 s p1 p2)), (0, .ref 50), (1, .int p1), (2, .int p2), (3, .int p3)] [] (N, hm_sh L g, (T_179 (T_179 (T_179 (T_179 s 52 20 (T_187 s p1 p2) p1) 54 20 (T_187 s p1 p2) p2) 56 20 (T_187 s p1 p2) p3) 58 20 (T_187 s p1 p2) 0)) _ Q
    exact hm_st hR hq
  · rw [if_pos c11] at hq
    show R 189 14 [(4, .int (T_187 s p1 p2)), (0, .ref 50), (1, .int p1), (2, .int p2), (3, .int p3)] [] (N, hm_sh L g, s) _ Q
    refine hm_st hR (hm_st hR ⟨rfl, hm_le rfl, (hm_ltN hN rfl), hm_st hR (hm_st hR (hm_st hR ⟨rfl, hm_st hR ⟨rfl, hm_le rfl, (hm_ltN hN rfl), hm_st hR (hm_st hR (hm_st hR ⟨rfl, rfl, hm_le rfl, (hm_ltN hN rfl), ?_⟩))⟩⟩))⟩)
    show R 189 30 [(4, .int (s 50 4)), (0, .ref 50), (1, .int p1), (2, .int p2), (3, .int p3)] [] (N, hm_sh L g, (hm_w1 s 50 4 ((s 50 4) + 1))) _ Q
    refine hm_st hR (hm_st hR ⟨rfl, hm_le rfl, (hm_ltN hN rfl), hm_st hR (hm_st hR (?_))⟩)
    refine hm_st hR ⟨hm_le rfl, rfl, (hm_le rfl), (hm_ltN hN rfl), hm_le rfl, hm_le rfl, (0, 0), Nat.zero_le _, Nat.zero_le _, ?_⟩
    refine sp_179 hR hN (rr := 51) (aa := 52) (nn := 20) rfl rfl (hm_le rfl) (hm_ltN hN rfl) rfl rfl (hm_le rfl) (hm_ltN hN rfl) (by decide) ?_
    show R 189 40 [(4, .int (s 50 4)), (0, .ref 50), (1, .int p1), (2, .int p2), (3, .int p3)] [] (N, hm_sh L g, (T_179 (hm_w1 s 50 4 ((s 50 4) + 1)) 52 20 (s 50 4) p1)) _ Q
    refine hm_st hR (hm_st hR ⟨rfl, hm_le rfl, (hm_ltN hN rfl), hm_st hR (hm_st hR (?_))⟩)
    refine hm_st hR ⟨hm_le rfl, rfl, (hm_le rfl), (hm_ltN hN rfl), hm_le rfl, hm_le rfl, (0, 0), Nat.zero_le _, Nat.zero_le _, ?_⟩
    refine sp_179 hR hN (rr := 53) (aa := 54) (nn := 20) rfl rfl (hm_le rfl) (hm_ltN hN rfl) rfl rfl (hm_le rfl) (hm_ltN hN rfl) (by decide) ?_
    show R 189 50 [(4, .int (s 50 4)), (0, .ref 50), (1, .int p1), (2, .int p2), (3, .int p3)] [] (N, hm_sh L g, (T_179 (T_179 (hm_w1 s 50 4 ((s 50 4) + 1)) 52 20 (s 50 4) p1) 54 20 (s 50 4) p2)) _ Q
    refine hm_st hR (hm_st hR ⟨rfl, hm_le rfl, (hm_ltN hN rfl), hm_st hR (hm_st hR (?_))⟩)
    refine hm_st hR ⟨hm_le rfl, rfl, (hm_le rfl), (hm_ltN hN rfl), hm_le rfl, hm_le rfl, (0, 0), Nat.zero_le _, Nat.zero_le _, ?_⟩
    refine sp_179 hR hN (rr := 55) (aa := 56) (nn := 20) rfl rfl (hm_le rfl) (hm_ltN hN rfl) rfl rfl (hm_le rfl) (hm_ltN hN rfl) (by decide) ?_
    show R 189 60 [(4, .int (s 50 4)), (0, .ref 50), (1, .int p1), (2, .int p2), (3, .int p3)] [] (N, hm_sh L g, (T_179 (T_179 (T_179 (hm_w1 s 50 4 ((s 50 4) + 1)) 52 20 (s 50 4) p1) 54 20 (s 50 4) p2) 56 20 (s 50 4) p3)) _ Q
    refine hm_st hR (hm_st hR ⟨rfl, hm_le rfl, (hm_ltN hN rfl), hm_st hR (hm_st hR (?_))⟩)
    refine hm_st hR ⟨hm_le rfl, rfl, (hm_le rfl), (hm_ltN hN rfl), hm_le rfl, hm_le rfl, (0, 0), Nat.zero_le _, Nat.zero_le _, ?_⟩
    refine sp_179 hR hN (rr := 57) (aa := 58) (nn := 20) rfl rfl (hm_le rfl) (hm_ltN hN rfl) rfl rfl (hm_le rfl) (hm_ltN hN rfl) (by decide) ?_
    show R 189 70 [(4, .int (s 50 4)), (0, .ref 50), (1, .int p1), (2, .int p2), (3, .int p3)] [] (N, hm_sh L g, (T_179 (T_179 (T_179 (T_179 (hm_w1 s 50 4 ((s 50 4) + 1)) 52 20 (s 50 4) p1) 54 20 (s 50 4) p2) 56 20 (s 50 4) p3) 58 20 (s 50 4) 0)) _ Q
    exact hm_st hR hq
