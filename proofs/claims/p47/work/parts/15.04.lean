/-! The methods as functions; the abstract machine does them. -/
def T_182_3 (aa : Nat) (nn : Nat) : Nat → hm_St → Int32 → Int32 → Int32 → Int32 → hm_St
  | 0, s, _, _, _, _ => s
  | n + 1, s, v1, v2, v3, v4 => (if v4 ≤ v1 then (T_179 s aa nn v1 v3) else (T_182_3 aa nn n (T_179 s aa nn v4 (T_178 s aa nn (v4 - 1))) v1 v2 v3 (v4 + (-1))))
/-- CurvekeyHouse$Row.insert(III)V -/
def T_182 (s : hm_St) (aa : Nat) (nn : Nat) (p1 : Int32) (p2 : Int32) (p3 : Int32) : hm_St := (T_182_3 aa nn (hm_df p2 p1 + 1) s p1 p2 p3 p2)
theorem N_182_3 (aa : Nat) (nn : Nat) {c j : Nat} (haa : c ≠ aa) : ∀ (n : Nat) (s : hm_St) (v0 v1 v2 v3 : Int32), (T_182_3 aa nn n s v0 v1 v2 v3) c j = s c j := by
  intro n
  induction n with
  | zero => intros; rfl
  | succ n ih =>
    intros
    unfold T_182_3
    repeat' split
    all_goals first | with_reducible rfl | simp only [ih, hm_w1n haa, N_179 haa]
theorem N_182 {c j : Nat} {aa nn : Nat} (haa : c ≠ aa) {s : hm_St} {p1 : Int32} {p2 : Int32} {p3 : Int32} : (T_182 s aa nn p1 p2 p3) c j = s c j := by
  unfold T_182
  repeat' split
  all_goals first | with_reducible rfl | simp only [hm_w1n haa, N_179 haa, N_182_3 _ _ haa]
set_option maxRecDepth 20000 in
theorem lp_182_3 {R : hm_R} (hR : hm_Cm R) {N L : Nat} {g : Nat → hm_Sh} {b : hm_B} {Q : hm_Q} (hN : 68 ≤ N) {rr aa nn : Nat} (hrk : (hm_sh L g rr).1 = 8) (hra : (hm_sh L g rr).2.2 0 = some aa) (hr2 : 2 ≤ rr) (hrl : rr < N) (hak : (hm_sh L g aa).1 = 1000) (han : (hm_sh L g aa).2.1 = nn) (ha2 : 2 ≤ aa) (hal : aa < N) (hnn : nn < 2 ^ 31) : ∀ (n : Nat) (s : hm_St) (v1 : Int32) (v2 : Int32) (v3 : Int32) (v4 : Int32), hm_df v4 v1 < n → (hq : Q (.inr none) (N, hm_sh L g, (T_182_3 aa nn n s v1 v2 v3 v4))) → R 182 3 [(4, .int v4), (0, .ref rr), (1, .int v1), (2, .int v2), (3, .int v3)] [] (N, hm_sh L g, s) b Q := by
  intro n
  induction n with
  | zero => intro s v1 v2 v3 v4 hm _; exact absurd hm (Nat.not_lt_zero _)
  | succ n ih =>
    intro s v1 v2 v3 v4 hm hq
    unfold T_182_3 at hq
    refine hm_st hR (hm_st hR (?_))
    show R 182 6 [(4, .int v4), (0, .ref rr), (1, .int v1), (2, .int v2), (3, .int v3)] [.int v1, .int v4] (N, hm_sh L g, s) _ Q
    refine hm_st hR ⟨fun c6 => ?_, fun c6 => ?_⟩
    · rw [if_pos c6] at hq
      show R 182 29 [(4, .int v4), (0, .ref rr), (1, .int v1), (2, .int v2), (3, .int v3)] [] (N, hm_sh L g, s) _ Q
      refine hm_st hR (hm_st hR (hm_st hR (?_)))
      refine hm_st hR ⟨hm_le rfl, hrk, hr2, hrl, hm_le rfl, hm_le rfl, (0, 0), Nat.zero_le _, Nat.zero_le _, ?_⟩
      refine sp_179 hR hN (rr := rr) (aa := aa) (nn := nn) hrk hra hr2 hrl hak han ha2 hal hnn ?_
      show R 182 35 [(4, .int v4), (0, .ref rr), (1, .int v1), (2, .int v2), (3, .int v3)] [] (N, hm_sh L g, (T_179 s aa nn v1 v3)) _ Q
      exact hm_st hR (hq)
    · rw [if_neg c6] at hq
      show R 182 9 [(4, .int v4), (0, .ref rr), (1, .int v1), (2, .int v2), (3, .int v3)] [] (N, hm_sh L g, s) _ Q
      refine hm_st hR (hm_st hR (hm_st hR (hm_st hR (hm_st hR (hm_st hR (?_))))))
      refine hm_st hR ⟨hm_le rfl, hrk, hr2, hrl, hm_le rfl, hm_le rfl, (0, 0), Nat.zero_le _, Nat.zero_le _, ?_⟩
      refine sp_178 hR hN (rr := rr) (aa := aa) (nn := nn) hrk hra hr2 hrl hak han ha2 hal hnn ?_
      show R 182 20 [(4, .int v4), (0, .ref rr), (1, .int v1), (2, .int v2), (3, .int v3)] [.int (T_178 s aa nn (v4 - 1)), .int v4, .ref rr] (N, hm_sh L g, s) _ Q
      refine hm_st hR ⟨hm_le rfl, hrk, hr2, hrl, hm_le rfl, hm_le rfl, (0, 0), Nat.zero_le _, Nat.zero_le _, ?_⟩
      refine sp_179 hR hN (rr := rr) (aa := aa) (nn := nn) hrk hra hr2 hrl hak han ha2 hal hnn ?_
      show R 182 23 [(4, .int v4), (0, .ref rr), (1, .int v1), (2, .int v2), (3, .int v3)] [] (N, hm_sh L g, (T_179 s aa nn v4 (T_178 s aa nn (v4 - 1)))) _ Q
      refine hm_st hR (hm_st hR (?_))
      show R 182 3 [(4, .int (v4 + (-1))), (0, .ref rr), (1, .int v1), (2, .int v2), (3, .int v3)] [] (N, hm_sh L g, (T_179 s aa nn v4 (T_178 s aa nn (v4 - 1)))) _ Q
      exact hm_lvS hR (by intro q hq; simp only [List.mem_cons, List.not_mem_nil, or_false] at hq ⊢; rcases hq with rfl | rfl | rfl | rfl | rfl <;> simp) (ih (T_179 s aa nn v4 (T_178 s aa nn (v4 - 1))) v1 v2 v3 (v4 + (-1)) (hm_dcm c6 hm) hq)
set_option maxRecDepth 20000 in
theorem sp_182 {R : hm_R} (hR : hm_Cm R) {N L : Nat} {g : Nat → hm_Sh} {s : hm_St} {b : hm_B} {Q : hm_Q} (hN : 68 ≤ N) {rr aa nn : Nat} (hrk : (hm_sh L g rr).1 = 8) (hra : (hm_sh L g rr).2.2 0 = some aa) (hr2 : 2 ≤ rr) (hrl : rr < N) (hak : (hm_sh L g aa).1 = 1000) (han : (hm_sh L g aa).2.1 = nn) (ha2 : 2 ≤ aa) (hal : aa < N) (hnn : nn < 2 ^ 31) {p1 : Int32} {p2 : Int32} {p3 : Int32} (hq : Q (.inr none) (N, hm_sh L g, (T_182 s aa nn p1 p2 p3))) : R 182 0 (lv_args 0 [.ref rr, .int p1, .int p2, .int p3]) [] (N, hm_sh L g, s) b Q := by
  unfold T_182 at hq
  show R 182 0 [(0, .ref rr), (1, .int p1), (2, .int p2), (3, .int p3)] [] (N, hm_sh L g, s) _ Q
  refine hm_st hR (hm_st hR (?_))
  show R 182 3 [(4, .int p2), (0, .ref rr), (1, .int p1), (2, .int p2), (3, .int p3)] [] (N, hm_sh L g, s) _ Q
  exact lp_182_3 hR hN hrk hra hr2 hrl hak han ha2 hal hnn _ _ _ _ _ _ (Nat.lt_succ_self _) hq
/-- CurvekeyHouse$Pages.enter(II)V -/
def T_150 (s : hm_St) (p1 : Int32) (p2 : Int32) : hm_St := (if (T_178 s 44 1024 p1) = (-2) then (if (T_141 (T_179 (hm_w1 s 42 5 ((s 42 5) - 1)) 44 1024 p1 p2) (T_139 (T_179 (hm_w1 s 42 5 ((s 42 5) - 1)) 44 1024 p1 p2) p1)) ≤ ((T_179 (hm_w1 s 42 5 ((s 42 5) - 1)) 44 1024 p1 p2) 42 3) then (T_179 (hm_w1 s 42 5 ((s 42 5) - 1)) 44 1024 p1 p2) else (hm_w1 (hm_w1 (T_182 (T_179 (hm_w1 s 42 5 ((s 42 5) - 1)) 44 1024 p1 p2) 46 1025 ((T_139 (T_179 (hm_w1 s 42 5 ((s 42 5) - 1)) 44 1024 p1 p2) p1) + 1) (((T_179 (hm_w1 s 42 5 ((s 42 5) - 1)) 44 1024 p1 p2) 42 4) + 1) (T_145 (T_179 (hm_w1 s 42 5 ((s 42 5) - 1)) 44 1024 p1 p2) (T_139 (T_179 (hm_w1 s 42 5 ((s 42 5) - 1)) 44 1024 p1 p2) p1) ((T_141 (T_179 (hm_w1 s 42 5 ((s 42 5) - 1)) 44 1024 p1 p2) (T_139 (T_179 (hm_w1 s 42 5 ((s 42 5) - 1)) 44 1024 p1 p2) p1)) / 2))) 42 4 (((T_182 (T_179 (hm_w1 s 42 5 ((s 42 5) - 1)) 44 1024 p1 p2) 46 1025 ((T_139 (T_179 (hm_w1 s 42 5 ((s 42 5) - 1)) 44 1024 p1 p2) p1) + 1) (((T_179 (hm_w1 s 42 5 ((s 42 5) - 1)) 44 1024 p1 p2) 42 4) + 1) (T_145 (T_179 (hm_w1 s 42 5 ((s 42 5) - 1)) 44 1024 p1 p2) (T_139 (T_179 (hm_w1 s 42 5 ((s 42 5) - 1)) 44 1024 p1 p2) p1) ((T_141 (T_179 (hm_w1 s 42 5 ((s 42 5) - 1)) 44 1024 p1 p2) (T_139 (T_179 (hm_w1 s 42 5 ((s 42 5) - 1)) 44 1024 p1 p2) p1)) / 2))) 42 4) + 1)) 42 6 (((hm_w1 (T_182 (T_179 (hm_w1 s 42 5 ((s 42 5) - 1)) 44 1024 p1 p2) 46 1025 ((T_139 (T_179 (hm_w1 s 42 5 ((s 42 5) - 1)) 44 1024 p1 p2) p1) + 1) (((T_179 (hm_w1 s 42 5 ((s 42 5) - 1)) 44 1024 p1 p2) 42 4) + 1) (T_145 (T_179 (hm_w1 s 42 5 ((s 42 5) - 1)) 44 1024 p1 p2) (T_139 (T_179 (hm_w1 s 42 5 ((s 42 5) - 1)) 44 1024 p1 p2) p1) ((T_141 (T_179 (hm_w1 s 42 5 ((s 42 5) - 1)) 44 1024 p1 p2) (T_139 (T_179 (hm_w1 s 42 5 ((s 42 5) - 1)) 44 1024 p1 p2) p1)) / 2))) 42 4 (((T_182 (T_179 (hm_w1 s 42 5 ((s 42 5) - 1)) 44 1024 p1 p2) 46 1025 ((T_139 (T_179 (hm_w1 s 42 5 ((s 42 5) - 1)) 44 1024 p1 p2) p1) + 1) (((T_179 (hm_w1 s 42 5 ((s 42 5) - 1)) 44 1024 p1 p2) 42 4) + 1) (T_145 (T_179 (hm_w1 s 42 5 ((s 42 5) - 1)) 44 1024 p1 p2) (T_139 (T_179 (hm_w1 s 42 5 ((s 42 5) - 1)) 44 1024 p1 p2) p1) ((T_141 (T_179 (hm_w1 s 42 5 ((s 42 5) - 1)) 44 1024 p1 p2) (T_139 (T_179 (hm_w1 s 42 5 ((s 42 5) - 1)) 44 1024 p1 p2) p1)) / 2))) 42 4) + 1)) 42 6) + 1))) else (if (T_141 (T_179 s 44 1024 p1 p2) (T_139 (T_179 s 44 1024 p1 p2) p1)) ≤ ((T_179 s 44 1024 p1 p2) 42 3) then (T_179 s 44 1024 p1 p2) else (hm_w1 (hm_w1 (T_182 (T_179 s 44 1024 p1 p2) 46 1025 ((T_139 (T_179 s 44 1024 p1 p2) p1) + 1) (((T_179 s 44 1024 p1 p2) 42 4) + 1) (T_145 (T_179 s 44 1024 p1 p2) (T_139 (T_179 s 44 1024 p1 p2) p1) ((T_141 (T_179 s 44 1024 p1 p2) (T_139 (T_179 s 44 1024 p1 p2) p1)) / 2))) 42 4 (((T_182 (T_179 s 44 1024 p1 p2) 46 1025 ((T_139 (T_179 s 44 1024 p1 p2) p1) + 1) (((T_179 s 44 1024 p1 p2) 42 4) + 1) (T_145 (T_179 s 44 1024 p1 p2) (T_139 (T_179 s 44 1024 p1 p2) p1) ((T_141 (T_179 s 44 1024 p1 p2) (T_139 (T_179 s 44 1024 p1 p2) p1)) / 2))) 42 4) + 1)) 42 6 (((hm_w1 (T_182 (T_179 s 44 1024 p1 p2) 46 1025 ((T_139 (T_179 s 44 1024 p1 p2) p1) + 1) (((T_179 s 44 1024 p1 p2) 42 4) + 1) (T_145 (T_179 s 44 1024 p1 p2) (T_139 (T_179 s 44 1024 p1 p2) p1) ((T_141 (T_179 s 44 1024 p1 p2) (T_139 (T_179 s 44 1024 p1 p2) p1)) / 2))) 42 4 (((T_182 (T_179 s 44 1024 p1 p2) 46 1025 ((T_139 (T_179 s 44 1024 p1 p2) p1) + 1) (((T_179 s 44 1024 p1 p2) 42 4) + 1) (T_145 (T_179 s 44 1024 p1 p2) (T_139 (T_179 s 44 1024 p1 p2) p1) ((T_141 (T_179 s 44 1024 p1 p2) (T_139 (T_179 s 44 1024 p1 p2) p1)) / 2))) 42 4) + 1)) 42 6) + 1))))
theorem N_150 {c j : Nat} (h42 : c ≠ 42) (h44 : c ≠ 44) (h46 : c ≠ 46) {s : hm_St} {p1 : Int32} {p2 : Int32} : (T_150 s p1 p2) c j = s c j := by
  unfold T_150
  repeat' split
  all_goals first | with_reducible rfl | simp only [hm_w1n h42, hm_w1n h44, hm_w1n h46, N_179 h42, N_179 h44, N_179 h46, N_182 h42, N_182 h44, N_182 h46]
set_option maxRecDepth 20000 in
theorem sp_150 {R : hm_R} (hR : hm_Cm R) {N L : Nat} {g : Nat → hm_Sh} {s : hm_St} {b : hm_B} {Q : hm_Q} (hN : 68 ≤ N) {p1 : Int32} {p2 : Int32} (hq : Q (.inr none) (N, hm_sh L g, (T_150 s p1 p2))) : R 150 0 (lv_args 0 [.ref 42, .int p1, .int p2]) [] (N, hm_sh L g, s) b Q := by
  unfold T_150 at hq
  show R 150 0 [(0, .ref 42), (1, .int p1), (2, .int p2)] [] (N, hm_sh L g, s) _ Q
  refine hm_st hR (hm_st hR ⟨rfl, hm_le rfl, (hm_ltN hN rfl), hm_st hR (?_)⟩)
  refine hm_st hR ⟨hm_le rfl, rfl, (hm_le rfl), (hm_ltN hN rfl), hm_le rfl, hm_le rfl, (0, 0), Nat.zero_le _, Nat.zero_le _, ?_⟩
  refine sp_178 hR hN (rr := 43) (aa := 44) (nn := 1024) rfl rfl (hm_le rfl) (hm_ltN hN rfl) rfl rfl (hm_le rfl) (hm_ltN hN rfl) (by decide) ?_
  show R 150 8 [(0, .ref 42), (1, .int p1), (2, .int p2)] [.int (T_178 s 44 1024 p1)] (N, hm_sh L g, s) _ Q
  refine hm_st hR (?_)
  show R 150 10 [(0, .ref 42), (1, .int p1), (2, .int p2)] [.int (-2), .int (T_178 s 44 1024 p1)] (N, hm_sh L g, s) _ Q
  refine hm_st hR ⟨fun c10 => ?_, fun c10 => ?_⟩
  · rw [if_neg c10] at hq
    show R 150 23 [(0, .ref 42), (1, .int p1), (2, .int p2)] [] (N, hm_sh L g, s) _ Q
    refine hm_st hR (hm_st hR ⟨rfl, hm_le rfl, (hm_ltN hN rfl), hm_st hR (hm_st hR (?_))⟩)
    refine hm_st hR ⟨hm_le rfl, rfl, (hm_le rfl), (hm_ltN hN rfl), hm_le rfl, hm_le rfl, (0, 0), Nat.zero_le _, Nat.zero_le _, ?_⟩
    refine sp_179 hR hN (rr := 43) (aa := 44) (nn := 1024) rfl rfl (hm_le rfl) (hm_ltN hN rfl) rfl rfl (hm_le rfl) (hm_ltN hN rfl) (by decide) ?_
    show R 150 32 [(0, .ref 42), (1, .int p1), (2, .int p2)] [] (N, hm_sh L g, (T_179 s 44 1024 p1 p2)) _ Q
    refine hm_st hR (hm_st hR (?_))
    refine hm_st hR ⟨hm_le rfl, rfl, (hm_le rfl), (hm_ltN hN rfl), hm_le rfl, hm_le rfl, (0, 0), Nat.zero_le _, Nat.zero_le _, ?_⟩
    refine sp_139 hR hN ?_
    show R 150 37 [(0, .ref 42), (1, .int p1), (2, .int p2)] [.int (T_139 (T_179 s 44 1024 p1 p2) p1)] (N, hm_sh L g, (T_179 s 44 1024 p1 p2)) _ Q
    refine hm_st hR (hm_st hR (hm_st hR (?_)))
    refine hm_st hR ⟨hm_le rfl, rfl, (hm_le rfl), (hm_ltN hN rfl), hm_le rfl, hm_le rfl, (0, 0), Nat.zero_le _, Nat.zero_le _, ?_⟩
    refine sp_141 hR hN ?_
    show R 150 43 [(3, .int (T_139 (T_179 s 44 1024 p1 p2) p1)), (0, .ref 42), (1, .int p1), (2, .int p2)] [.int (T_141 (T_179 s 44 1024 p1 p2) (T_139 (T_179 s 44 1024 p1 p2) p1))] (N, hm_sh L g, (T_179 s 44 1024 p1 p2)) _ Q
    refine hm_st hR (hm_st hR (hm_st hR (hm_st hR ⟨rfl, hm_le rfl, (hm_ltN hN rfl), ?_⟩)))
    show R 150 51 [(4, .int (T_141 (T_179 s 44 1024 p1 p2) (T_139 (T_179 s 44 1024 p1 p2) p1))), (3, .int (T_139 (T_179 s 44 1024 p1 p2) p1)), (0, .ref 42), (1, .int p1), (2, .int p2)] [.int ((T_179 s 44 1024 p1 p2) 42 3), .int (T_141 (T_179 s 44 1024 p1 p2) (T_139 (T_179 s 44 1024 p1 p2) p1))] (N, hm_sh L g, (T_179 s 44 1024 p1 p2)) _ Q
    refine hm_st hR ⟨fun c51 => ?_, fun c51 => ?_⟩
    · rw [if_pos c51] at hq
      show R 150 99 [(4, .int (T_141 (T_179 s 44 1024 p1 p2) (T_139 (T_179 s 44 1024 p1 p2) p1))), (3, .int (T_139 (T_179 s 44 1024 p1 p2) p1)), (0, .ref 42), (1, .int p1), (2, .int p2)] [] (N, hm_sh L g, (T_179 s 44 1024 p1 p2)) _ Q
      exact hm_st hR (hq)
    · rw [if_neg c51] at hq
      show R 150 54 [(4, .int (T_141 (T_179 s 44 1024 p1 p2) (T_139 (T_179 s 44 1024 p1 p2) p1))), (3, .int (T_139 (T_179 s 44 1024 p1 p2) p1)), (0, .ref 42), (1, .int p1), (2, .int p2)] [] (N, hm_sh L g, (T_179 s 44 1024 p1 p2)) _ Q
      refine hm_st hR (hm_st hR ⟨rfl, hm_le rfl, (hm_ltN hN rfl), hm_st hR (hm_st hR (hm_st hR (hm_st hR (hm_st hR ⟨rfl, hm_le rfl, (hm_ltN hN rfl), hm_st hR (hm_st hR (hm_st hR (hm_st hR (hm_st hR (hm_st hR (hm_st hR ⟨(by decide), ?_⟩))))))⟩))))⟩)
      refine hm_st hR ⟨hm_le rfl, rfl, (hm_le rfl), (hm_ltN hN rfl), hm_le rfl, hm_le rfl, (0, 0), Nat.zero_le _, Nat.zero_le _, ?_⟩
      refine sp_145 hR hN ?_
      show R 150 76 [(4, .int (T_141 (T_179 s 44 1024 p1 p2) (T_139 (T_179 s 44 1024 p1 p2) p1))), (3, .int (T_139 (T_179 s 44 1024 p1 p2) p1)), (0, .ref 42), (1, .int p1), (2, .int p2)] [.int (T_145 (T_179 s 44 1024 p1 p2) (T_139 (T_179 s 44 1024 p1 p2) p1) ((T_141 (T_179 s 44 1024 p1 p2) (T_139 (T_179 s 44 1024 p1 p2) p1)) / 2)), .int (((T_179 s 44 1024 p1 p2) 42 4) + 1), .int ((T_139 (T_179 s 44 1024 p1 p2) p1) + 1), .ref 45] (N, hm_sh L g, (T_179 s 44 1024 p1 p2)) _ Q
      refine hm_st hR ⟨hm_le rfl, rfl, (hm_le rfl), (hm_ltN hN rfl), hm_le rfl, hm_le rfl, (0, 0), Nat.zero_le _, Nat.zero_le _, ?_⟩
      refine sp_182 hR hN (rr := 45) (aa := 46) (nn := 1025) rfl rfl (hm_le rfl) (hm_ltN hN rfl) rfl rfl (hm_le rfl) (hm_ltN hN rfl) (by decide) ?_
      show R 150 79 [(4, .int (T_141 (T_179 s 44 1024 p1 p2) (T_139 (T_179 s 44 1024 p1 p2) p1))), (3, .int (T_139 (T_179 s 44 1024 p1 p2) p1)), (0, .ref 42), (1, .int p1), (2, .int p2)] [] (N, hm_sh L g, (T_182 (T_179 s 44 1024 p1 p2) 46 1025 ((T_139 (T_179 s 44 1024 p1 p2) p1) + 1) (((T_179 s 44 1024 p1 p2) 42 4) + 1) (T_145 (T_179 s 44 1024 p1 p2) (T_139 (T_179 s 44 1024 p1 p2) p1) ((T_141 (T_179 s 44 1024 p1 p2) (T_139 (T_179 s 44 1024 p1 p2) p1)) / 2)))) _ Q
      refine hm_st hR (hm_st hR ⟨rfl, hm_st hR ⟨rfl, hm_le rfl, (hm_ltN hN rfl), hm_st hR (hm_st hR (hm_st hR ⟨rfl, rfl, hm_le rfl, (hm_ltN hN rfl), ?_⟩))⟩⟩)
      show R 150 89 [(4, .int (T_141 (T_179 s 44 1024 p1 p2) (T_139 (T_179 s 44 1024 p1 p2) p1))), (3, .int (T_139 (T_179 s 44 1024 p1 p2) p1)), (0, .ref 42), (1, .int p1), (2, .int p2)] [] (N, hm_sh L g, (hm_w1 (T_182 (T_179 s 44 1024 p1 p2) 46 1025 ((T_139 (T_179 s 44 1024 p1 p2) p1) + 1) (((T_179 s 44 1024 p1 p2) 42 4) + 1) (T_145 (T_179 s 44 1024 p1 p2) (T_139 (T_179 s 44 1024 p1 p2) p1) ((T_141 (T_179 s 44 1024 p1 p2) (T_139 (T_179 s 44 1024 p1 p2) p1)) / 2))) 42 4 (((T_182 (T_179 s 44 1024 p1 p2) 46 1025 ((T_139 (T_179 s 44 1024 p1 p2) p1) + 1) (((T_179 s 44 1024 p1 p2) 42 4) + 1) (T_145 (T_179 s 44 1024 p1 p2) (T_139 (T_179 s 44 1024 p1 p2) p1) ((T_141 (T_179 s 44 1024 p1 p2) (T_139 (T_179 s 44 1024 p1 p2) p1)) / 2))) 42 4) + 1))) _ Q
      refine hm_st hR (hm_st hR ⟨rfl, hm_st hR ⟨rfl, hm_le rfl, (hm_ltN hN rfl), hm_st hR (hm_st hR (hm_st hR ⟨rfl, rfl, hm_le rfl, (hm_ltN hN rfl), ?_⟩))⟩⟩)
      show R 150 99 [(4, .int (T_141 (T_179 s 44 1024 p1 p2) (T_139 (T_179 s 44 1024 p1 p2) p1))), (3, .int (T_139 (T_179 s 44 1024 p1 p2) p1)), (0, .ref 42), (1, .int p1), (2, .int p2)] [] (N, hm_sh L g, (hm_w1 (hm_w1 (T_182 (T_179 s 44 1024 p1 p2) 46 1025 ((T_139 (T_179 s 44 1024 p1 p2) p1) + 1) (((T_179 s 44 1024 p1 p2) 42 4) + 1) (T_145 (T_179 s 44 1024 p1 p2) (T_139 (T_179 s 44 1024 p1 p2) p1) ((T_141 (T_179 s 44 1024 p1 p2) (T_139 (T_179 s 44 1024 p1 p2) p1)) / 2))) 42 4 (((T_182 (T_179 s 44 1024 p1 p2) 46 1025 ((T_139 (T_179 s 44 1024 p1 p2) p1) + 1) (((T_179 s 44 1024 p1 p2) 42 4) + 1) (T_145 (T_179 s 44 1024 p1 p2) (T_139 (T_179 s 44 1024 p1 p2) p1) ((T_141 (T_179 s 44 1024 p1 p2) (T_139 (T_179 s 44 1024 p1 p2) p1)) / 2))) 42 4) + 1)) 42 6 (((hm_w1 (T_182 (T_179 s 44 1024 p1 p2) 46 1025 ((T_139 (T_179 s 44 1024 p1 p2) p1) + 1) (((T_179 s 44 1024 p1 p2) 42 4) + 1) (T_145 (T_179 s 44 1024 p1 p2) (T_139 (T_179 s 44 1024 p1 p2) p1) ((T_141 (T_179 s 44 1024 p1 p2) (T_139 (T_179 s 44 1024 p1 p2) p1)) / 2))) 42 4 (((T_182 (T_179 s 44 1024 p1 p2) 46 1025 ((T_139 (T_179 s 44 1024 p1 p2) p1) + 1) (((T_179 s 44 1024 p1 p2) 42 4) + 1) (T_145 (T_179 s 44 1024 p1 p2) (T_139 (T_179 s 44 1024 p1 p2) p1) ((T_141 (T_179 s 44 1024 p1 p2) (T_139 (T_179 s 44 1024 p1 p2) p1)) / 2))) 42 4) + 1)) 42 6) + 1))) _ Q
      exact hm_st hR (hq)
  · rw [if_pos c10] at hq
    show R 150 13 [(0, .ref 42), (1, .int p1), (2, .int p2)] [] (N, hm_sh L g, s) _ Q
    refine hm_st hR (hm_st hR ⟨rfl, hm_st hR ⟨rfl, hm_le rfl, (hm_ltN hN rfl), hm_st hR (hm_st hR (hm_st hR ⟨rfl, rfl, hm_le rfl, (hm_ltN hN rfl), ?_⟩))⟩⟩)
    show R 150 23 [(0, .ref 42), (1, .int p1), (2, .int p2)] [] (N, hm_sh L g, (hm_w1 s 42 5 ((s 42 5) - 1))) _ Q
    refine hm_st hR (hm_st hR ⟨rfl, hm_le rfl, (hm_ltN hN rfl), hm_st hR (hm_st hR (?_))⟩)
    refine hm_st hR ⟨hm_le rfl, rfl, (hm_le rfl), (hm_ltN hN rfl), hm_le rfl, hm_le rfl, (0, 0), Nat.zero_le _, Nat.zero_le _, ?_⟩
    refine sp_179 hR hN (rr := 43) (aa := 44) (nn := 1024) rfl rfl (hm_le rfl) (hm_ltN hN rfl) rfl rfl (hm_le rfl) (hm_ltN hN rfl) (by decide) ?_
    show R 150 32 [(0, .ref 42), (1, .int p1), (2, .int p2)] [] (N, hm_sh L g, (T_179 (hm_w1 s 42 5 ((s 42 5) - 1)) 44 1024 p1 p2)) _ Q
    refine hm_st hR (hm_st hR (?_))
    refine hm_st hR ⟨hm_le rfl, rfl, (hm_le rfl), (hm_ltN hN rfl), hm_le rfl, hm_le rfl, (0, 0), Nat.zero_le _, Nat.zero_le _, ?_⟩
    refine sp_139 hR hN ?_
    show R 150 37 [(0, .ref 42), (1, .int p1), (2, .int p2)] [.int (T_139 (T_179 (hm_w1 s 42 5 ((s 42 5) - 1)) 44 1024 p1 p2) p1)] (N, hm_sh L g, (T_179 (hm_w1 s 42 5 ((s 42 5) - 1)) 44 1024 p1 p2)) _ Q
    refine hm_st hR (hm_st hR (hm_st hR (?_)))
    refine hm_st hR ⟨hm_le rfl, rfl, (hm_le rfl), (hm_ltN hN rfl), hm_le rfl, hm_le rfl, (0, 0), Nat.zero_le _, Nat.zero_le _, ?_⟩
    refine sp_141 hR hN ?_
    show R 150 43 [(3, .int (T_139 (T_179 (hm_w1 s 42 5 ((s 42 5) - 1)) 44 1024 p1 p2) p1)), (0, .ref 42), (1, .int p1), (2, .int p2)] [.int (T_141 (T_179 (hm_w1 s 42 5 ((s 42 5) - 1)) 44 1024 p1 p2) (T_139 (T_179 (hm_w1 s 42 5 ((s 42 5) - 1)) 44 1024 p1 p2) p1))] (N, hm_sh L g, (T_179 (hm_w1 s 42 5 ((s 42 5) - 1)) 44 1024 p1 p2)) _ Q
    refine hm_st hR (hm_st hR (hm_st hR (hm_st hR ⟨rfl, hm_le rfl, (hm_ltN hN rfl), ?_⟩)))
    show R 150 51 [(4, .int (T_141 (T_179 (hm_w1 s 42 5 ((s 42 5) - 1)) 44 1024 p1 p2) (T_139 (T_179 (hm_w1 s 42 5 ((s 42 5) - 1)) 44 1024 p1 p2) p1))), (3, .int (T_139 (T_179 (hm_w1 s 42 5 ((s 42 5) - 1)) 44 1024 p1 p2) p1)), (0, .ref 42), (1, .int p1), (2, .int p2)] [.int ((T_179 (hm_w1 s 42 5 ((s 42 5) - 1)) 44 1024 p1 p2) 42 3), .int (T_141 (T_179 (hm_w1 s 42 5 ((s 42 5) - 1)) 44 1024 p1 p2) (T_139 (T_179 (hm_w1 s 42 5 ((s 42 5) - 1)) 44 1024 p1 p2) p1))] (N, hm_sh L g, (T_179 (hm_w1 s 42 5 ((s 42 5) - 1)) 44 1024 p1 p2)) _ Q
    refine hm_st hR ⟨fun c51 => ?_, fun c51 => ?_⟩
    · rw [if_pos c51] at hq
      show R 150 99 [(4, .int (T_141 (T_179 (hm_w1 s 42 5 ((s 42 5) - 1)) 44 1024 p1 p2) (T_139 (T_179 (hm_w1 s 42 5 ((s 42 5) - 1)) 44 1024 p1 p2) p1))), (3, .int (T_139 (T_179 (hm_w1 s 42 5 ((s 42 5) - 1)) 44 1024 p1 p2) p1)), (0, .ref 42), (1, .int p1), (2, .int p2)] [] (N, hm_sh L g, (T_179 (hm_w1 s 42 5 ((s 42 5) - 1)) 44 1024 p1 p2)) _ Q
      exact hm_st hR (hq)
    · rw [if_neg c51] at hq
      show R 150 54 [(4, .int (T_141 (T_179 (hm_w1 s 42 5 ((s 42 5) - 1)) 44 1024 p1 p2) (T_139 (T_179 (hm_w1 s 42 5 ((s 42 5) - 1)) 44 1024 p1 p2) p1))), (3, .int (T_139 (T_179 (hm_w1 s 42 5 ((s 42 5) - 1)) 44 1024 p1 p2) p1)), (0, .ref 42), (1, .int p1), (2, .int p2)] [] (N, hm_sh L g, (T_179 (hm_w1 s 42 5 ((s 42 5) - 1)) 44 1024 p1 p2)) _ Q
      refine hm_st hR (hm_st hR ⟨rfl, hm_le rfl, (hm_ltN hN rfl), hm_st hR (hm_st hR (hm_st hR (hm_st hR (hm_st hR ⟨rfl, hm_le rfl, (hm_ltN hN rfl), hm_st hR (hm_st hR (hm_st hR (hm_st hR (hm_st hR (hm_st hR (hm_st hR ⟨(by decide), ?_⟩))))))⟩))))⟩)
      refine hm_st hR ⟨hm_le rfl, rfl, (hm_le rfl), (hm_ltN hN rfl), hm_le rfl, hm_le rfl, (0, 0), Nat.zero_le _, Nat.zero_le _, ?_⟩
      refine sp_145 hR hN ?_
      show R 150 76 [(4, .int (T_141 (T_179 (hm_w1 s 42 5 ((s 42 5) - 1)) 44 1024 p1 p2) (T_139 (T_179 (hm_w1 s 42 5 ((s 42 5) - 1)) 44 1024 p1 p2) p1))), (3, .int (T_139 (T_179 (hm_w1 s 42 5 ((s 42 5) - 1)) 44 1024 p1 p2) p1)), (0, .ref 42), (1, .int p1), (2, .int p2)] [.int (T_145 (T_179 (hm_w1 s 42 5 ((s 42 5) - 1)) 44 1024 p1 p2) (T_139 (T_179 (hm_w1 s 42 5 ((s 42 5) - 1)) 44 1024 p1 p2) p1) ((T_141 (T_179 (hm_w1 s 42 5 ((s 42 5) - 1)) 44 1024 p1 p2) (T_139 (T_179 (hm_w1 s 42 5 ((s 42 5) - 1)) 44 1024 p1 p2) p1)) / 2)), .int (((T_179 (hm_w1 s 42 5 ((s 42 5) - 1)) 44 1024 p1 p2) 42 4) + 1), .int ((T_139 (T_179 (hm_w1 s 42 5 ((s 42 5) - 1)) 44 1024 p1 p2) p1) + 1), .ref 45] (N, hm_sh L g, (T_179 (hm_w1 s 42 5 ((s 42 5) - 1)) 44 1024 p1 p2)) _ Q
      refine hm_st hR ⟨hm_le rfl, rfl, (hm_le rfl), (hm_ltN hN rfl), hm_le rfl, hm_le rfl, (0, 0), Nat.zero_le _, Nat.zero_le _, ?_⟩
      refine sp_182 hR hN (rr := 45) (aa := 46) (nn := 1025) rfl rfl (hm_le rfl) (hm_ltN hN rfl) rfl rfl (hm_le rfl) (hm_ltN hN rfl) (by decide) ?_
      show R 150 79 [(4, .int (T_141 (T_179 (hm_w1 s 42 5 ((s 42 5) - 1)) 44 1024 p1 p2) (T_139 (T_179 (hm_w1 s 42 5 ((s 42 5) - 1)) 44 1024 p1 p2) p1))), (3, .int (T_139 (T_179 (hm_w1 s 42 5 ((s 42 5) - 1)) 44 1024 p1 p2) p1)), (0, .ref 42), (1, .int p1), (2, .int p2)] [] (N, hm_sh L g, (T_182 (T_179 (hm_w1 s 42 5 ((s 42 5) - 1)) 44 1024 p1 p2) 46 1025 ((T_139 (T_179 (hm_w1 s 42 5 ((s 42 5) - 1)) 44 1024 p1 p2) p1) + 1) (((T_179 (hm_w1 s 42 5 ((s 42 5) - 1)) 44 1024 p1 p2) 42 4) + 1) (T_145 (T_179 (hm_w1 s 42 5 ((s 42 5) - 1)) 44 1024 p1 p2) (T_139 (T_179 (hm_w1 s 42 5 ((s 42 5) - 1)) 44 1024 p1 p2) p1) ((T_141 (T_179 (hm_w1 s 42 5 ((s 42 5) - 1)) 44 1024 p1 p2) (T_139 (T_179 (hm_w1 s 42 5 ((s 42 5) - 1)) 44 1024 p1 p2) p1)) / 2)))) _ Q
      refine hm_st hR (hm_st hR ⟨rfl, hm_st hR ⟨rfl, hm_le rfl, (hm_ltN hN rfl), hm_st hR (hm_st hR (hm_st hR ⟨rfl, rfl, hm_le rfl, (hm_ltN hN rfl), ?_⟩))⟩⟩)
      show R 150 89 [(4, .int (T_141 (T_179 (hm_w1 s 42 5 ((s 42 5) - 1)) 44 1024 p1 p2) (T_139 (T_179 (hm_w1 s 42 5 ((s 42 5) - 1)) 44 1024 p1 p2) p1))), (3, .int (T_139 (T_179 (hm_w1 s 42 5 ((s 42 5) - 1)) 44 1024 p1 p2) p1)), (0, .ref 42), (1, .int p1), (2, .int p2)] [] (N, hm_sh L g, (hm_w1 (T_182 (T_179 (hm_w1 s 42 5 ((s 42 5) - 1)) 44 1024 p1 p2) 46 1025 ((T_139 (T_179 (hm_w1 s 42 5 ((s 42 5) - 1)) 44 1024 p1 p2) p1) + 1) (((T_179 (hm_w1 s 42 5 ((s 42 5) - 1)) 44 1024 p1 p2) 42 4) + 1) (T_145 (T_179 (hm_w1 s 42 5 ((s 42 5) - 1)) 44 1024 p1 p2) (T_139 (T_179 (hm_w1 s 42 5 ((s 42 5) - 1)) 44 1024 p1 p2) p1) ((T_141 (T_179 (hm_w1 s 42 5 ((s 42 5) - 1)) 44 1024 p1 p2) (T_139 (T_179 (hm_w1 s 42 5 ((s 42 5) - 1)) 44 1024 p1 p2) p1)) / 2))) 42 4 (((T_182 (T_179 (hm_w1 s 42 5 ((s 42 5) - 1)) 44 1024 p1 p2) 46 1025 ((T_139 (T_179 (hm_w1 s 42 5 ((s 42 5) - 1)) 44 1024 p1 p2) p1) + 1) (((T_179 (hm_w1 s 42 5 ((s 42 5) - 1)) 44 1024 p1 p2) 42 4) + 1) (T_145 (T_179 (hm_w1 s 42 5 ((s 42 5) - 1)) 44 1024 p1 p2) (T_139 (T_179 (hm_w1 s 42 5 ((s 42 5) - 1)) 44 1024 p1 p2) p1) ((T_141 (T_179 (hm_w1 s 42 5 ((s 42 5) - 1)) 44 1024 p1 p2) (T_139 (T_179 (hm_w1 s 42 5 ((s 42 5) - 1)) 44 1024 p1 p2) p1)) / 2))) 42 4) + 1))) _ Q
      refine hm_st hR (hm_st hR ⟨rfl, hm_st hR ⟨rfl, hm_le rfl, (hm_ltN hN rfl), hm_st hR (hm_st hR (hm_st hR ⟨rfl, rfl, hm_le rfl, (hm_ltN hN rfl), ?_⟩))⟩⟩)
      show R 150 99 [(4, .int (T_141 (T_179 (hm_w1 s 42 5 ((s 42 5) - 1)) 44 1024 p1 p2) (T_139 (T_179 (hm_w1 s 42 5 ((s 42 5) - 1)) 44 1024 p1 p2) p1))), (3, .int (T_139 (T_179 (hm_w1 s 42 5 ((s 42 5) - 1)) 44 1024 p1 p2) p1)), (0, .ref 42), (1, .int p1), (2, .int p2)] [] (N, hm_sh L g, (hm_w1 (hm_w1 (T_182 (T_179 (hm_w1 s 42 5 ((s 42 5) - 1)) 44 1024 p1 p2) 46 1025 ((T_139 (T_179 (hm_w1 s 42 5 ((s 42 5) - 1)) 44 1024 p1 p2) p1) + 1) (((T_179 (hm_w1 s 42 5 ((s 42 5) - 1)) 44 1024 p1 p2) 42 4) + 1) (T_145 (T_179 (hm_w1 s 42 5 ((s 42 5) - 1)) 44 1024 p1 p2) (T_139 (T_179 (hm_w1 s 42 5 ((s 42 5) - 1)) 44 1024 p1 p2) p1) ((T_141 (T_179 (hm_w1 s 42 5 ((s 42 5) - 1)) 44 1024 p1 p2) (T_139 (T_179 (hm_w1 s 42 5 ((s 42 5) - 1)) 44 1024 p1 p2) p1)) / 2))) 42 4 (((T_182 (T_179 (hm_w1 s 42 5 ((s 42 5) - 1)) 44 1024 p1 p2) 46 1025 ((T_139 (T_179 (hm_w1 s 42 5 ((s 42 5) - 1)) 44 1024 p1 p2) p1) + 1) (((T_179 (hm_w1 s 42 5 ((s 42 5) - 1)) 44 1024 p1 p2) 42 4) + 1) (T_145 (T_179 (hm_w1 s 42 5 ((s 42 5) - 1)) 44 1024 p1 p2) (T_139 (T_179 (hm_w1 s 42 5 ((s 42 5) - 1)) 44 1024 p1 p2) p1) ((T_141 (T_179 (hm_w1 s 42 5 ((s 42 5) - 1)) 44 1024 p1 p2) (T_139 (T_179 (hm_w1 s 42 5 ((s 42 5) - 1)) 44 1024 p1 p2) p1)) / 2))) 42 4) + 1)) 42 6 (((hm_w1 (T_182 (T_179 (hm_w1 s 42 5 ((s 42 5) - 1)) 44 1024 p1 p2) 46 1025 ((T_139 (T_179 (hm_w1 s 42 5 ((s 42 5) - 1)) 44 1024 p1 p2) p1) + 1) (((T_179 (hm_w1 s 42 5 ((s 42 5) - 1)) 44 1024 p1 p2) 42 4) + 1) (T_145 (T_179 (hm_w1 s 42 5 ((s 42 5) - 1)) 44 1024 p1 p2) (T_139 (T_179 (hm_w1 s 42 5 ((s 42 5) - 1)) 44 1024 p1 p2) p1) ((T_141 (T_179 (hm_w1 s 42 5 ((s 42 5) - 1)) 44 1024 p1 p2) (T_139 (T_179 (hm_w1 s 42 5 ((s 42 5) - 1)) 44 1024 p1 p2) p1)) / 2))) 42 4 (((T_182 (T_179 (hm_w1 s 42 5 ((s 42 5) - 1)) 44 1024 p1 p2) 46 1025 ((T_139 (T_179 (hm_w1 s 42 5 ((s 42 5) - 1)) 44 1024 p1 p2) p1) + 1) (((T_179 (hm_w1 s 42 5 ((s 42 5) - 1)) 44 1024 p1 p2) 42 4) + 1) (T_145 (T_179 (hm_w1 s 42 5 ((s 42 5) - 1)) 44 1024 p1 p2) (T_139 (T_179 (hm_w1 s 42 5 ((s 42 5) - 1)) 44 1024 p1 p2) p1) ((T_141 (T_179 (hm_w1 s 42 5 ((s 42 5) - 1)) 44 1024 p1 p2) (T_139 (T_179 (hm_w1 s 42 5 ((s 42 5) - 1)) 44 1024 p1 p2) p1)) / 2))) 42 4) + 1)) 42 6) + 1))) _ Q
      exact hm_st hR (hq)
/-- CurvekeyHouse$Cells.cellAt(III)I -/
def T_74 (s : hm_St) (p1 : Int32) (p2 : Int32) (p3 : Int32) : Int32 := (((p3 >>> ((((s 47 1) - p1) : Int32) &&& 31)) <<< ((p1 : Int32) &&& 31)) + (p2 >>> ((((s 47 1) - p1) : Int32) &&& 31)))
set_option maxRecDepth 20000 in
theorem sp_74 {R : hm_R} (hR : hm_Cm R) {N L : Nat} {g : Nat → hm_Sh} {s : hm_St} {b : hm_B} {Q : hm_Q} (hN : 68 ≤ N) {p1 : Int32} {p2 : Int32} {p3 : Int32} (hq : Q (.inr (some (.int (T_74 s p1 p2 p3)))) (N, hm_sh L g, s)) : R 74 0 (lv_args 0 [.ref 47, .int p1, .int p2, .int p3]) [] (N, hm_sh L g, s) b Q := by
  unfold T_74 at hq
  show R 74 0 [(0, .ref 47), (1, .int p1), (2, .int p2), (3, .int p3)] [] (N, hm_sh L g, s) _ Q
  refine hm_st hR (hm_st hR ⟨rfl, hm_le rfl, (hm_ltN hN rfl), hm_st hR (hm_st hR (hm_st hR (hm_st hR (hm_st hR (hm_st hR (hm_st hR (hm_st hR (hm_st hR (hm_st hR (hm_st hR (hm_st hR (?_))))))))))))⟩)
  exact hm_st hR ⟨fun z => absurd z (by decide), hq⟩
/-- CurvekeyHouse$Cells.cellsOf(I)I -/
def T_72 (s : hm_St) (p1 : Int32) : Int32 := (1 <<< (((2 * p1) : Int32) &&& 31))
set_option maxRecDepth 20000 in
theorem sp_72 {R : hm_R} (hR : hm_Cm R) {N L : Nat} {g : Nat → hm_Sh} {s : hm_St} {b : hm_B} {Q : hm_Q} (hN : 68 ≤ N) {p1 : Int32} (hq : Q (.inr (some (.int (T_72 s p1)))) (N, hm_sh L g, s)) : R 72 0 (lv_args 0 [.int p1]) [] (N, hm_sh L g, s) b Q := by
  unfold T_72 at hq
  show R 72 0 [(0, .int p1)] [] (N, hm_sh L g, s) _ Q
  refine hm_st hR (hm_st hR (hm_st hR (hm_st hR (hm_st hR (?_)))))
  exact hm_st hR ⟨fun z => absurd z (by decide), hq⟩
/-- CurvekeyHouse$Cells.indexOf(II)I -/
def T_73 (s : hm_St) (p1 : Int32) (p2 : Int32) : Int32 := ((((T_72 s p1) - 1) / 3) + p2)
set_option maxRecDepth 20000 in
theorem sp_73 {R : hm_R} (hR : hm_Cm R) {N L : Nat} {g : Nat → hm_Sh} {s : hm_St} {b : hm_B} {Q : hm_Q} (hN : 68 ≤ N) {p1 : Int32} {p2 : Int32} (hq : Q (.inr (some (.int (T_73 s p1 p2)))) (N, hm_sh L g, s)) : R 73 0 (lv_args 0 [.int p1, .int p2]) [] (N, hm_sh L g, s) b Q := by
  unfold T_73 at hq
  show R 73 0 [(0, .int p1), (1, .int p2)] [] (N, hm_sh L g, s) _ Q
  refine hm_st hR (?_)
  refine hm_st hR ⟨hm_le rfl, hm_le rfl, hm_le rfl, (0, 0), Nat.zero_le _, Nat.zero_le _, ?_⟩
  refine sp_72 hR hN ?_
  show R 73 4 [(0, .int p1), (1, .int p2)] [.int (T_72 s p1)] (N, hm_sh L g, s) _ Q
  refine hm_st hR (hm_st hR (hm_st hR (hm_st hR ⟨(by decide), hm_st hR (hm_st hR (?_))⟩)))
  exact hm_st hR ⟨fun z => absurd z (by decide), hq⟩
def T_76_3 : Nat → hm_St → Int32 → Int32 → Int32 → Int32 → hm_St
  | 0, s, _, _, _, _ => s
  | n + 1, s, v1, v2, v3, v4 => (if (s 47 1) < v4 then s else (T_76_3 n (T_180 s 49 1365 (T_73 s v4 (T_74 s v4 v1 v2)) v3) v1 v2 v3 (v4 + 1)))
/-- CurvekeyHouse$Cells.count(III)V -/
def T_76 (s : hm_St) (p1 : Int32) (p2 : Int32) (p3 : Int32) : hm_St := (T_76_3 (hm_df1 (s 47 1) 0 + 1) s p1 p2 p3 0)
theorem N_76_3 {c j : Nat} (h49 : c ≠ 49) : ∀ (n : Nat) (s : hm_St) (v0 v1 v2 v3 : Int32), (T_76_3  n s v0 v1 v2 v3) c j = s c j := by
  intro n
  induction n with
  | zero => intros; rfl
  | succ n ih =>
    intros
    unfold T_76_3
    repeat' split
    all_goals first | with_reducible rfl | simp only [ih, hm_w1n h49, N_180 h49]
theorem N_76 {c j : Nat} (h49 : c ≠ 49) {s : hm_St} {p1 : Int32} {p2 : Int32} {p3 : Int32} : (T_76 s p1 p2 p3) c j = s c j := by
  unfold T_76
  repeat' split
  all_goals first | with_reducible rfl | simp only [hm_w1n h49, N_180 h49, N_76_3 h49]
set_option maxRecDepth 20000 in
theorem lp_76_3 {R : hm_R} (hR : hm_Cm R) {N L : Nat} {g : Nat → hm_Sh} {b : hm_B} {Q : hm_Q} (hN : 68 ≤ N) : ∀ (n : Nat) (s : hm_St) (v1 : Int32) (v2 : Int32) (v3 : Int32) (v4 : Int32), hm_df1 (s 47 1) v4 < n → (hinv : s 47 1 < 100000) → (hq : Q (.inr none) (N, hm_sh L g, (T_76_3 n s v1 v2 v3 v4))) → R 76 3 [(4, .int v4), (0, .ref 47), (1, .int v1), (2, .int v2), (3, .int v3)] [] (N, hm_sh L g, s) b Q := by
  intro n
  induction n with
  | zero => intro s v1 v2 v3 v4 hm hinv _; exact absurd hm (Nat.not_lt_zero _)
  | succ n ih =>
    intro s v1 v2 v3 v4 hm hinv hq
    unfold T_76_3 at hq
    refine hm_st hR (hm_st hR (hm_st hR ⟨rfl, hm_le rfl, (hm_ltN hN rfl), ?_⟩))
    show R 76 9 [(4, .int v4), (0, .ref 47), (1, .int v1), (2, .int v2), (3, .int v3)] [.int (s 47 1), .int v4] (N, hm_sh L g, s) _ Q
    refine hm_st hR ⟨fun c9 => ?_, fun c9 => ?_⟩
    · rw [if_pos c9] at hq
      show R 76 39 [(4, .int v4), (0, .ref 47), (1, .int v1), (2, .int v2), (3, .int v3)] [] (N, hm_sh L g, s) _ Q
      exact hm_st hR (hq)
    · rw [if_neg c9] at hq
      show R 76 12 [(4, .int v4), (0, .ref 47), (1, .int v1), (2, .int v2), (3, .int v3)] [] (N, hm_sh L g, s) _ Q
      refine hm_st hR (hm_st hR ⟨rfl, hm_le rfl, (hm_ltN hN rfl), hm_st hR (hm_st hR (hm_st hR (hm_st hR (hm_st hR (?_)))))⟩)
      refine hm_st hR ⟨hm_le rfl, rfl, (hm_le rfl), (hm_ltN hN rfl), hm_le rfl, hm_le rfl, (0, 0), Nat.zero_le _, Nat.zero_le _, ?_⟩
      refine sp_74 hR hN ?_
      show R 76 26 [(4, .int v4), (0, .ref 47), (1, .int v1), (2, .int v2), (3, .int v3)] [.int (T_74 s v4 v1 v2), .int v4, .ref 48] (N, hm_sh L g, s) _ Q
      refine hm_st hR ⟨hm_le rfl, hm_le rfl, hm_le rfl, (0, 0), Nat.zero_le _, Nat.zero_le _, ?_⟩
      refine sp_73 hR hN ?_
      show R 76 29 [(4, .int v4), (0, .ref 47), (1, .int v1), (2, .int v2), (3, .int v3)] [.int (T_73 s v4 (T_74 s v4 v1 v2)), .ref 48] (N, hm_sh L g, s) _ Q
      refine hm_st hR (?_)
      refine hm_st hR ⟨hm_le rfl, rfl, (hm_le rfl), (hm_ltN hN rfl), hm_le rfl, hm_le rfl, (0, 0), Nat.zero_le _, Nat.zero_le _, ?_⟩
      refine sp_180 hR hN (rr := 48) (aa := 49) (nn := 1365) rfl rfl (hm_le rfl) (hm_ltN hN rfl) rfl rfl (hm_le rfl) (hm_ltN hN rfl) (by decide) ?_
      show R 76 33 [(4, .int v4), (0, .ref 47), (1, .int v1), (2, .int v2), (3, .int v3)] [] (N, hm_sh L g, (T_180 s 49 1365 (T_73 s v4 (T_74 s v4 v1 v2)) v3)) _ Q
      refine hm_st hR (hm_st hR (?_))
      show R 76 3 [(4, .int (v4 + 1)), (0, .ref 47), (1, .int v1), (2, .int v2), (3, .int v3)] [] (N, hm_sh L g, (T_180 s 49 1365 (T_73 s v4 (T_74 s v4 v1 v2)) v3)) _ Q
      exact hm_lvS hR (by intro q hq; simp only [List.mem_cons, List.not_mem_nil, or_false] at hq ⊢; rcases hq with rfl | rfl | rfl | rfl | rfl <;> simp) (ih (T_180 s 49 1365 (T_73 s v4 (T_74 s v4 v1 v2)) v3) v1 v2 v3 (v4 + 1) (by rw [N_180 (by decide)]; exact hm_dcy c9 hinv hm) (by rw [N_180 (by decide)]; exact hinv) hq)
set_option maxRecDepth 20000 in
theorem sp_76 {R : hm_R} (hR : hm_Cm R) {N L : Nat} {g : Nat → hm_Sh} {s : hm_St} {b : hm_B} {Q : hm_Q} (hN : 68 ≤ N) {p1 : Int32} {p2 : Int32} {p3 : Int32} (hO : s 47 1 < 100000) (hq : Q (.inr none) (N, hm_sh L g, (T_76 s p1 p2 p3))) : R 76 0 (lv_args 0 [.ref 47, .int p1, .int p2, .int p3]) [] (N, hm_sh L g, s) b Q := by
  unfold T_76 at hq
  show R 76 0 [(0, .ref 47), (1, .int p1), (2, .int p2), (3, .int p3)] [] (N, hm_sh L g, s) _ Q
  refine hm_st hR (hm_st hR (?_))
  show R 76 3 [(4, .int 0), (0, .ref 47), (1, .int p1), (2, .int p2), (3, .int p3)] [] (N, hm_sh L g, s) _ Q
  exact lp_76_3 hR hN _ _ _ _ _ _ (Nat.lt_succ_self _) hO hq
def T_191_3 : Nat → hm_St → Int32 → Int32 → Int32 → hm_St
  | 0, s, _, _, _ => s
  | n + 1, s, v2, v3, v4 => (if (s 50 4) ≤ v4 then s else (if (T_74 s (T_178 s 52 20 v4) v2 v3) = (T_178 s 54 20 v4) then (T_191_3 n (T_179 s 58 20 v4 1) v2 v3 (v4 + 1)) else (T_191_3 n s v2 v3 (v4 + 1))))
/-- CurvekeyHouse$Tiles.spoil(LCurvekeyHouse$Cells;II)V -/
def T_191 (s : hm_St) (p2 : Int32) (p3 : Int32) : hm_St := (T_191_3 (hm_df (s 50 4) 0 + 1) s p2 p3 0)
theorem N_191_3 {c j : Nat} (h58 : c ≠ 58) : ∀ (n : Nat) (s : hm_St) (v0 v1 v2 : Int32), (T_191_3  n s v0 v1 v2) c j = s c j := by
  intro n
  induction n with
  | zero => intros; rfl
  | succ n ih =>
    intros
    unfold T_191_3
    repeat' split
    all_goals first | with_reducible rfl | simp only [ih, hm_w1n h58, N_179 h58]
theorem N_191 {c j : Nat} (h58 : c ≠ 58) {s : hm_St} {p2 : Int32} {p3 : Int32} : (T_191 s p2 p3) c j = s c j := by
  unfold T_191
  repeat' split
  all_goals first | with_reducible rfl | simp only [hm_w1n h58, N_179 h58, N_191_3 h58]
set_option maxRecDepth 20000 in
theorem lp_191_3 {R : hm_R} (hR : hm_Cm R) {N L : Nat} {g : Nat → hm_Sh} {b : hm_B} {Q : hm_Q} (hN : 68 ≤ N) : ∀ (n : Nat) (s : hm_St) (v2 : Int32) (v3 : Int32) (v4 : Int32), hm_df (s 50 4) v4 < n → (hq : Q (.inr none) (N, hm_sh L g, (T_191_3 n s v2 v3 v4))) → R 191 3 [(4, .int v4), (0, .ref 50), (1, .ref 47), (2, .int v2), (3, .int v3)] [] (N, hm_sh L g, s) b Q := by
  intro n
  induction n with
  | zero => intro s v2 v3 v4 hm _; exact absurd hm (Nat.not_lt_zero _)
  | succ n ih =>
    intro s v2 v3 v4 hm hq
    unfold T_191_3 at hq
    refine hm_st hR (hm_st hR (hm_st hR ⟨rfl, hm_le rfl, (hm_ltN hN rfl), ?_⟩))
    show R 191 9 [(4, .int v4), (0, .ref 50), (1, .ref 47), (2, .int v2), (3, .int v3)] [.int (s 50 4), .int v4] (N, hm_sh L g, s) _ Q
    refine hm_st hR ⟨fun c9 => ?_, fun c9 => ?_⟩
    · rw [if_pos c9] at hq
      show R 191 55 [(4, .int v4), (0, .ref 50), (1, .ref 47), (2, .int v2), (3, .int v3)] [] (N, hm_sh L g, s) _ Q
      exact hm_st hR (hq)
    · rw [if_neg c9] at hq
      show R 191 12 [(4, .int v4), (0, .ref 50), (1, .ref 47), (2, .int v2), (3, .int v3)] [] (N, hm_sh L g, s) _ Q
      refine hm_st hR (hm_st hR (hm_st hR ⟨rfl, hm_le rfl, (hm_ltN hN rfl), hm_st hR (?_)⟩))
      refine hm_st hR ⟨hm_le rfl, rfl, (hm_le rfl), (hm_ltN hN rfl), hm_le rfl, hm_le rfl, (0, 0), Nat.zero_le _, Nat.zero_le _, ?_⟩
      refine sp_178 hR hN (rr := 51) (aa := 52) (nn := 20) rfl rfl (hm_le rfl) (hm_ltN hN rfl) rfl rfl (hm_le rfl) (hm_ltN hN rfl) (by decide) ?_
      show R 191 22 [(4, .int v4), (0, .ref 50), (1, .ref 47), (2, .int v2), (3, .int v3)] [.int (T_178 s 52 20 v4), .ref 47] (N, hm_sh L g, s) _ Q
      refine hm_st hR (hm_st hR (?_))
      refine hm_st hR ⟨hm_le rfl, rfl, (hm_le rfl), (hm_ltN hN rfl), hm_le rfl, hm_le rfl, (0, 0), Nat.zero_le _, Nat.zero_le _, ?_⟩
      refine sp_74 hR hN ?_
      show R 191 27 [(4, .int v4), (0, .ref 50), (1, .ref 47), (2, .int v2), (3, .int v3)] [.int (T_74 s (T_178 s 52 20 v4) v2 v3)] (N, hm_sh L g, s) _ Q
      refine hm_st hR (hm_st hR ⟨rfl, hm_le rfl, (hm_ltN hN rfl), hm_st hR (?_)⟩)
      refine hm_st hR ⟨hm_le rfl, rfl, (hm_le rfl), (hm_ltN hN rfl), hm_le rfl, hm_le rfl, (0, 0), Nat.zero_le _, Nat.zero_le _, ?_⟩
      refine sp_178 hR hN (rr := 53) (aa := 54) (nn := 20) rfl rfl (hm_le rfl) (hm_ltN hN rfl) rfl rfl (hm_le rfl) (hm_ltN hN rfl) (by decide) ?_
      show R 191 36 [(4, .int v4), (0, .ref 50), (1, .ref 47), (2, .int v2), (3, .int v3)] [.int (T_178 s 54 20 v4), .int (T_74 s (T_178 s 52 20 v4) v2 v3)] (N, hm_sh L g, s) _ Q
      show R 191 36 [(4, .int v4), (0, .ref 50), (1, .ref 47), (2, .int v2), (3, .int v3)] [.int (T_178 s 54 20 v4), .int (T_74 s (T_178 s 52 20 v4) v2 v3)] (N, hm_sh L g, s) _ Q
      refine hm_st hR ⟨fun c36 => ?_, fun c36 => ?_⟩
      · rw [if_neg c36] at hq
        show R 191 49 [(4, .int v4), (0, .ref 50), (1, .ref 47), (2, .int v2), (3, .int v3)] [] (N, hm_sh L g, s) _ Q
        refine hm_st hR (hm_st hR (?_))
        show R 191 3 [(4, .int (v4 + 1)), (0, .ref 50), (1, .ref 47), (2, .int v2), (3, .int v3)] [] (N, hm_sh L g, s) _ Q
        exact hm_lvS hR (by intro q hq; simp only [List.mem_cons, List.not_mem_nil, or_false] at hq ⊢; rcases hq with rfl | rfl | rfl | rfl | rfl <;> simp) (ih s v2 v3 (v4 + 1) (by first | with_reducible exact hm_dcx c9 hm | exact hm_dcE (by simp only [hm_w1n (show (50 : Nat) ≠ 58 by decide), N_179 (show (50 : Nat) ≠ 58 by decide)]) (hm_dcx c9 hm)) hq)
      · rw [if_pos c36] at hq
        show R 191 39 [(4, .int v4), (0, .ref 50), (1, .ref 47), (2, .int v2), (3, .int v3)] [] (N, hm_sh L g, s) _ Q
        refine hm_st hR (hm_st hR ⟨rfl, hm_le rfl, (hm_ltN hN rfl), hm_st hR (hm_st hR (?_))⟩)
        refine hm_st hR ⟨hm_le rfl, rfl, (hm_le rfl), (hm_ltN hN rfl), hm_le rfl, hm_le rfl, (0, 0), Nat.zero_le _, Nat.zero_le _, ?_⟩
        refine sp_179 hR hN (rr := 57) (aa := 58) (nn := 20) rfl rfl (hm_le rfl) (hm_ltN hN rfl) rfl rfl (hm_le rfl) (hm_ltN hN rfl) (by decide) ?_
        show R 191 49 [(4, .int v4), (0, .ref 50), (1, .ref 47), (2, .int v2), (3, .int v3)] [] (N, hm_sh L g, (T_179 s 58 20 v4 1)) _ Q
        refine hm_st hR (hm_st hR (?_))
        show R 191 3 [(4, .int (v4 + 1)), (0, .ref 50), (1, .ref 47), (2, .int v2), (3, .int v3)] [] (N, hm_sh L g, (T_179 s 58 20 v4 1)) _ Q
        exact hm_lvS hR (by intro q hq; simp only [List.mem_cons, List.not_mem_nil, or_false] at hq ⊢; rcases hq with rfl | rfl | rfl | rfl | rfl <;> simp) (ih (T_179 s 58 20 v4 1) v2 v3 (v4 + 1) (by first | with_reducible exact hm_dcx c9 hm | exact hm_dcE (by simp only [hm_w1n (show (50 : Nat) ≠ 58 by decide), N_179 (show (50 : Nat) ≠ 58 by decide)]) (hm_dcx c9 hm)) hq)
set_option maxRecDepth 20000 in
theorem sp_191 {R : hm_R} (hR : hm_Cm R) {N L : Nat} {g : Nat → hm_Sh} {s : hm_St} {b : hm_B} {Q : hm_Q} (hN : 68 ≤ N) {p2 : Int32} {p3 : Int32} (hq : Q (.inr none) (N, hm_sh L g, (T_191 s p2 p3))) : R 191 0 (lv_args 0 [.ref 50, .ref 47, .int p2, .int p3]) [] (N, hm_sh L g, s) b Q := by
  unfold T_191 at hq
  show R 191 0 [(0, .ref 50), (1, .ref 47), (2, .int p2), (3, .int p3)] [] (N, hm_sh L g, s) _ Q
  refine hm_st hR (hm_st hR (?_))
  show R 191 3 [(4, .int 0), (0, .ref 50), (1, .ref 47), (2, .int p2), (3, .int p3)] [] (N, hm_sh L g, s) _ Q
  exact lp_191_3 hR hN _ _ _ _ _ (Nat.lt_succ_self _) hq
/-- CurvekeyHouse.arrive(III)V -/
def T_45 (s : hm_St) (p1 : Int32) (p2 : Int32) (p3 : Int32) : hm_St := (T_191 (T_76 (T_150 (T_120 (T_166 s p1 p2 p3) p1 p2 p3) (T_39 (T_120 (T_166 s p1 p2 p3) p1 p2 p3) p2 p3) p1) p2 p3 1) p2 p3)
theorem N_45 {c j : Nat} (h16 : c ≠ 16) (h18 : c ≠ 18) (h25 : c ≠ 25) (h27 : c ≠ 27) (h29 : c ≠ 29) (h31 : c ≠ 31) (h33 : c ≠ 33) (h35 : c ≠ 35) (h37 : c ≠ 37) (h42 : c ≠ 42) (h44 : c ≠ 44) (h46 : c ≠ 46) (h49 : c ≠ 49) (h58 : c ≠ 58) {s : hm_St} {p1 : Int32} {p2 : Int32} {p3 : Int32} : (T_45 s p1 p2 p3) c j = s c j := by
  unfold T_45
  repeat' split
  all_goals first | with_reducible rfl | simp only [hm_w1n h16, hm_w1n h18, hm_w1n h25, hm_w1n h27, hm_w1n h29, hm_w1n h31, hm_w1n h33, hm_w1n h35, hm_w1n h37, hm_w1n h42, hm_w1n h44, hm_w1n h46, hm_w1n h49, hm_w1n h58, N_76 h49, N_120 h25 h27 h29 h31 h33 h35 h37, N_150 h42 h44 h46, N_166 h16 h18, N_191 h58]
set_option maxRecDepth 20000 in
theorem sp_45 {R : hm_R} (hR : hm_Cm R) {N L : Nat} {g : Nat → hm_Sh} {s : hm_St} {b : hm_B} {Q : hm_Q} (hN : 68 ≤ N) {p1 : Int32} {p2 : Int32} {p3 : Int32} (hO : s 47 1 < 100000) (hq : Q (.inr none) (N, hm_sh L g, (T_45 s p1 p2 p3))) : R 45 0 (lv_args 0 [.ref 2, .int p1, .int p2, .int p3]) [] (N, hm_sh L g, s) b Q := by
  unfold T_45 at hq
  show R 45 0 [(0, .ref 2), (1, .int p1), (2, .int p2), (3, .int p3)] [] (N, hm_sh L g, s) _ Q
  refine hm_st hR (hm_st hR ⟨rfl, hm_le rfl, (hm_ltN hN rfl), hm_st hR (hm_st hR (hm_st hR (?_)))⟩)
  refine hm_st hR ⟨hm_le rfl, rfl, (hm_le rfl), (hm_ltN hN rfl), hm_le rfl, hm_le rfl, (0, 0), Nat.zero_le _, Nat.zero_le _, ?_⟩
  refine sp_166 hR hN ?_
  show R 45 10 [(0, .ref 2), (1, .int p1), (2, .int p2), (3, .int p3)] [] (N, hm_sh L g, (T_166 s p1 p2 p3)) _ Q
  refine hm_st hR (hm_st hR ⟨rfl, hm_le rfl, (hm_ltN hN rfl), hm_st hR (hm_st hR (hm_st hR (?_)))⟩)
  refine hm_st hR ⟨hm_le rfl, rfl, (hm_le rfl), (hm_ltN hN rfl), hm_le rfl, hm_le rfl, (0, 0), Nat.zero_le _, Nat.zero_le _, ?_⟩
  refine sp_120 hR hN ?_
  show R 45 20 [(0, .ref 2), (1, .int p1), (2, .int p2), (3, .int p3)] [] (N, hm_sh L g, (T_120 (T_166 s p1 p2 p3) p1 p2 p3)) _ Q
  refine hm_st hR (hm_st hR ⟨rfl, hm_le rfl, (hm_ltN hN rfl), hm_st hR (hm_st hR (hm_st hR (?_)))⟩)
  refine hm_st hR ⟨hm_le rfl, rfl, (hm_le rfl), (hm_ltN hN rfl), hm_le rfl, hm_le rfl, (0, 0), Nat.zero_le _, Nat.zero_le _, ?_⟩
  refine sp_39 hR hN ?_
  show R 45 30 [(0, .ref 2), (1, .int p1), (2, .int p2), (3, .int p3)] [.int (T_39 (T_120 (T_166 s p1 p2 p3) p1 p2 p3) p2 p3), .ref 42] (N, hm_sh L g, (T_120 (T_166 s p1 p2 p3) p1 p2 p3)) _ Q
  refine hm_st hR (?_)
  refine hm_st hR ⟨hm_le rfl, rfl, (hm_le rfl), (hm_ltN hN rfl), hm_le rfl, hm_le rfl, (0, 0), Nat.zero_le _, Nat.zero_le _, ?_⟩
  refine sp_150 hR hN ?_
  show R 45 34 [(0, .ref 2), (1, .int p1), (2, .int p2), (3, .int p3)] [] (N, hm_sh L g, (T_150 (T_120 (T_166 s p1 p2 p3) p1 p2 p3) (T_39 (T_120 (T_166 s p1 p2 p3) p1 p2 p3) p2 p3) p1)) _ Q
  refine hm_st hR (hm_st hR ⟨rfl, hm_le rfl, (hm_ltN hN rfl), hm_st hR (hm_st hR (hm_st hR (?_)))⟩)
  refine hm_st hR ⟨hm_le rfl, rfl, (hm_le rfl), (hm_ltN hN rfl), hm_le rfl, hm_le rfl, (0, 0), Nat.zero_le _, Nat.zero_le _, ?_⟩
  refine sp_76 hR hN (by simp only [N_150 (show (47 : Nat) ≠ 42 by decide) (show (47 : Nat) ≠ 44 by decide) (show (47 : Nat) ≠ 46 by decide), N_120 (show (47 : Nat) ≠ 25 by decide) (show (47 : Nat) ≠ 27 by decide) (show (47 : Nat) ≠ 29 by decide) (show (47 : Nat) ≠ 31 by decide) (show (47 : Nat) ≠ 33 by decide) (show (47 : Nat) ≠ 35 by decide) (show (47 : Nat) ≠ 37 by decide), N_166 (show (47 : Nat) ≠ 16 by decide) (show (47 : Nat) ≠ 18 by decide)]; exact hO) ?_
  show R 45 44 [(0, .ref 2), (1, .int p1), (2, .int p2), (3, .int p3)] [] (N, hm_sh L g, (T_76 (T_150 (T_120 (T_166 s p1 p2 p3) p1 p2 p3) (T_39 (T_120 (T_166 s p1 p2 p3) p1 p2 p3) p2 p3) p1) p2 p3 1)) _ Q
  refine hm_st hR (hm_st hR ⟨rfl, hm_le rfl, (hm_ltN hN rfl), hm_st hR (hm_st hR ⟨rfl, hm_le rfl, (hm_ltN hN rfl), hm_st hR (hm_st hR (?_))⟩)⟩)
  refine hm_st hR ⟨hm_le rfl, rfl, (hm_le rfl), (hm_ltN hN rfl), hm_le rfl, hm_le rfl, (0, 0), Nat.zero_le _, Nat.zero_le _, ?_⟩
  refine sp_191 hR hN ?_
  show R 45 57 [(0, .ref 2), (1, .int p1), (2, .int p2), (3, .int p3)] [] (N, hm_sh L g, (T_191 (T_76 (T_150 (T_120 (T_166 s p1 p2 p3) p1 p2 p3) (T_39 (T_120 (T_166 s p1 p2 p3) p1 p2 p3) p2 p3) p1) p2 p3 1) p2 p3)) _ Q
  exact hm_st hR (hq)
/-- CurvekeyHouse.putNew(II)I -/
def T_43 (s : hm_St) (p1 : Int32) (p2 : Int32) : (Int32 × hm_St) := ((T_165 (T_117 s)).1, (T_45 (T_118 ((T_165 (T_117 s)).2) ((T_165 (T_117 s)).1)) ((T_165 (T_117 s)).1) p1 p2))
theorem N_43 {c j : Nat} (h14 : c ≠ 14) (h16 : c ≠ 16) (h18 : c ≠ 18) (h20 : c ≠ 20) (h22 : c ≠ 22) (h24 : c ≠ 24) (h25 : c ≠ 25) (h27 : c ≠ 27) (h29 : c ≠ 29) (h31 : c ≠ 31) (h33 : c ≠ 33) (h35 : c ≠ 35) (h37 : c ≠ 37) (h39 : c ≠ 39) (h41 : c ≠ 41) (h42 : c ≠ 42) (h44 : c ≠ 44) (h46 : c ≠ 46) (h49 : c ≠ 49) (h58 : c ≠ 58) {s : hm_St} {p1 : Int32} {p2 : Int32} : (T_43 s p1 p2).2 c j = s c j := by
  unfold T_43
  repeat' split
  all_goals first | with_reducible rfl | simp only [hm_w1n h14, hm_w1n h16, hm_w1n h18, hm_w1n h20, hm_w1n h22, hm_w1n h24, hm_w1n h25, hm_w1n h27, hm_w1n h29, hm_w1n h31, hm_w1n h33, hm_w1n h35, hm_w1n h37, hm_w1n h39, hm_w1n h41, hm_w1n h42, hm_w1n h44, hm_w1n h46, hm_w1n h49, hm_w1n h58, N_45 h16 h18 h25 h27 h29 h31 h33 h35 h37 h42 h44 h46 h49 h58, N_117 h25, N_118 h37 h39 h41, N_165 h14 h20 h22 h24]
set_option maxRecDepth 20000 in
theorem sp_43 {R : hm_R} (hR : hm_Cm R) {N L : Nat} {g : Nat → hm_Sh} {s : hm_St} {b : hm_B} {Q : hm_Q} (hN : 68 ≤ N) {p1 : Int32} {p2 : Int32} (hO : s 47 1 < 100000) (hq : Q (.inr (some (.int (T_43 s p1 p2).1))) (N, hm_sh L g, (T_43 s p1 p2).2)) : R 43 0 (lv_args 0 [.ref 2, .int p1, .int p2]) [] (N, hm_sh L g, s) b Q := by
  unfold T_43 at hq
  show R 43 0 [(0, .ref 2), (1, .int p1), (2, .int p2)] [] (N, hm_sh L g, s) _ Q
  refine hm_st hR (hm_st hR ⟨rfl, hm_le rfl, (hm_ltN hN rfl), ?_⟩)
  refine hm_st hR ⟨hm_le rfl, rfl, (hm_le rfl), (hm_ltN hN rfl), hm_le rfl, hm_le rfl, (0, 0), Nat.zero_le _, Nat.zero_le _, ?_⟩
  refine sp_117 hR hN ?_
  show R 43 7 [(0, .ref 2), (1, .int p1), (2, .int p2)] [] (N, hm_sh L g, (T_117 s)) _ Q
  refine hm_st hR (hm_st hR ⟨rfl, hm_le rfl, (hm_ltN hN rfl), ?_⟩)
  refine hm_st hR ⟨hm_le rfl, rfl, (hm_le rfl), (hm_ltN hN rfl), hm_le rfl, hm_le rfl, (0, 0), Nat.zero_le _, Nat.zero_le _, ?_⟩
  refine sp_165 hR hN ?_
  show R 43 14 [(0, .ref 2), (1, .int p1), (2, .int p2)] [.int (T_165 (T_117 s)).1] (N, hm_sh L g, (T_165 (T_117 s)).2) _ Q
  refine hm_st hR (hm_st hR (hm_st hR ⟨rfl, hm_le rfl, (hm_ltN hN rfl), hm_st hR (?_)⟩))
  refine hm_st hR ⟨hm_le rfl, rfl, (hm_le rfl), (hm_ltN hN rfl), hm_le rfl, hm_le rfl, (0, 0), Nat.zero_le _, Nat.zero_le _, ?_⟩
  refine sp_118 hR hN ?_
  show R 43 23 [(3, .int (T_165 (T_117 s)).1), (0, .ref 2), (1, .int p1), (2, .int p2)] [] (N, hm_sh L g, (T_118 ((T_165 (T_117 s)).2) ((T_165 (T_117 s)).1))) _ Q
  refine hm_st hR (hm_st hR (hm_st hR (hm_st hR (?_))))
  refine hm_st hR ⟨hm_le rfl, rfl, (hm_le rfl), (hm_ltN hN rfl), hm_le rfl, hm_le rfl, (0, 0), Nat.zero_le _, Nat.zero_le _, ?_⟩
  refine sp_45 hR hN (by simp only [N_118 (show (47 : Nat) ≠ 37 by decide) (show (47 : Nat) ≠ 39 by decide) (show (47 : Nat) ≠ 41 by decide), N_165 (show (47 : Nat) ≠ 14 by decide) (show (47 : Nat) ≠ 20 by decide) (show (47 : Nat) ≠ 22 by decide) (show (47 : Nat) ≠ 24 by decide), N_117 (show (47 : Nat) ≠ 25 by decide)]; exact hO) ?_
  show R 43 30 [(3, .int (T_165 (T_117 s)).1), (0, .ref 2), (1, .int p1), (2, .int p2)] [] (N, hm_sh L g, (T_45 (T_118 ((T_165 (T_117 s)).2) ((T_165 (T_117 s)).1)) ((T_165 (T_117 s)).1) p1 p2)) _ Q
  refine hm_st hR (?_)
  exact hm_st hR ⟨fun z => absurd z (by decide), hm_pqi hq⟩
/-- CurvekeyHouse.put(II)I -/
def T_5 (N : Nat) (g : Nat → hm_Sh) (s : hm_St) (p1 : Int32) (p2 : Int32) : hm_Er Int32 := (if ((T_37 s p1 p2) : Int32) = 0 then (1, 0, N, g, s) else (if (T_41 s p1 p2) = (-1) then (if ((if 80 ≤ (T_157 s) then (0 : Int32) else 1) : Int32) = 0 then (2, 0, N, g, s) else (0, (T_43 s p1 p2).1, N, g, (T_43 s p1 p2).2)) else (2, 0, N, g, s)))
theorem N_5 {c j : Nat} (h14 : c ≠ 14) (h16 : c ≠ 16) (h18 : c ≠ 18) (h20 : c ≠ 20) (h22 : c ≠ 22) (h24 : c ≠ 24) (h25 : c ≠ 25) (h27 : c ≠ 27) (h29 : c ≠ 29) (h31 : c ≠ 31) (h33 : c ≠ 33) (h35 : c ≠ 35) (h37 : c ≠ 37) (h39 : c ≠ 39) (h41 : c ≠ 41) (h42 : c ≠ 42) (h44 : c ≠ 44) (h46 : c ≠ 46) (h49 : c ≠ 49) (h58 : c ≠ 58) {N : Nat} {g : Nat → hm_Sh} {s : hm_St} {p1 : Int32} {p2 : Int32} : (T_5 N g s p1 p2).2.2.2.2 c j = s c j := by
  unfold T_5
  repeat' split
  all_goals first | with_reducible rfl | simp only [hm_w1n h14, hm_w1n h16, hm_w1n h18, hm_w1n h20, hm_w1n h22, hm_w1n h24, hm_w1n h25, hm_w1n h27, hm_w1n h29, hm_w1n h31, hm_w1n h33, hm_w1n h35, hm_w1n h37, hm_w1n h39, hm_w1n h41, hm_w1n h42, hm_w1n h44, hm_w1n h46, hm_w1n h49, hm_w1n h58, N_43 h14 h16 h18 h20 h22 h24 h25 h27 h29 h31 h33 h35 h37 h39 h41 h42 h44 h46 h49 h58]
set_option maxRecDepth 20000 in
theorem sp_5 {R : hm_R} (hR : hm_Cm R) {N L : Nat} {g : Nat → hm_Sh} {s : hm_St} {b : hm_B} {Q : hm_Q} (hN : 68 ≤ N) (hb1 : 1 ≤ b.1) (hb2 : 6 ≤ b.2) {p1 : Int32} {p2 : Int32} (hO : s 47 1 < 100000) (hq : hm_qx Q L (fun v => some (.int v)) (T_5 N g s p1 p2)) : R 5 0 (lv_args 0 [.ref 2, .int p1, .int p2]) [] (N, hm_sh L g, s) b Q := by
  unfold T_5 at hq
  show R 5 0 [(0, .ref 2), (1, .int p1), (2, .int p2)] [] (N, hm_sh L g, s) _ Q
  refine hm_st hR (hm_st hR (hm_st hR (?_)))
  refine hm_st hR ⟨hm_le rfl, rfl, (hm_le rfl), (hm_ltN hN rfl), hm_le rfl, hm_le rfl, (0, 0), Nat.zero_le _, Nat.zero_le _, ?_⟩
  refine sp_37 hR hN ?_
  show R 5 6 [(0, .ref 2), (1, .int p1), (2, .int p2)] [.int (T_37 s p1 p2)] (N, hm_sh L g, s) _ Q
  show R 5 6 [(0, .ref 2), (1, .int p1), (2, .int p2)] [.int (T_37 s p1 p2)] (N, hm_sh L g, s) _ Q
  by_cases c6 : ((T_37 s p1 p2) : Int32) = 0
  · rw [if_pos c6] at hq
    exact hm_st hR ⟨hm_le rfl, hm_le rfl, hm_le rfl, (1, 6), (by show 1 ≤ b.1 - 0; omega), (by show 6 ≤ b.2 - 0; omega), hm_needT31 hR hN c6 (fun N2 hN2 => hm_KX (by decide) (hq N2 hN2))⟩
  · rw [if_neg c6] at hq
    refine hm_st hR ⟨hm_le rfl, hm_le rfl, hm_le rfl, (0, 0), Nat.zero_le _, Nat.zero_le _, hm_needP31 hR c6 ?_⟩
    show R 5 9 [(0, .ref 2), (1, .int p1), (2, .int p2)] [] (N, hm_sh L g, s) _ Q
    refine hm_st hR (hm_st hR (hm_st hR (?_)))
    refine hm_st hR ⟨hm_le rfl, rfl, (hm_le rfl), (hm_ltN hN rfl), hm_le rfl, hm_le rfl, (0, 0), Nat.zero_le _, Nat.zero_le _, ?_⟩
    refine sp_41 hR hN ?_
    show R 5 15 [(0, .ref 2), (1, .int p1), (2, .int p2)] [.int (T_41 s p1 p2)] (N, hm_sh L g, s) _ Q
    refine hm_st hR (?_)
    show R 5 16 [(0, .ref 2), (1, .int p1), (2, .int p2)] [.int (-1), .int (T_41 s p1 p2)] (N, hm_sh L g, s) _ Q
    refine hm_st hR ⟨fun c16 => ?_, fun c16 => ?_⟩
    · rw [if_neg c16] at hq
      show R 5 35 [(0, .ref 2), (1, .int p1), (2, .int p2)] [] (N, hm_sh L g, s) _ Q
      refine hm_st hR (?_)
      show R 5 36 [(0, .ref 2), (1, .int p1), (2, .int p2)] [.int 0] (N, hm_sh L g, s) _ Q
      exact hm_st hR ⟨hm_le rfl, hm_le rfl, hm_le rfl, (1, 6), (by show 1 ≤ b.1 - 0 - 0 - 0; omega), (by show 6 ≤ b.2 - 0 - 0 - 0; omega), hm_needT32 hR hN rfl (fun N2 hN2 => hm_KX (by decide) (hq N2 hN2))⟩
    · rw [if_pos c16] at hq
      show R 5 19 [(0, .ref 2), (1, .int p1), (2, .int p2)] [] (N, hm_sh L g, s) _ Q
      refine hm_st hR (hm_st hR ⟨rfl, hm_le rfl, (hm_ltN hN rfl), ?_⟩)
      refine hm_st hR ⟨hm_le rfl, rfl, (hm_le rfl), (hm_ltN hN rfl), hm_le rfl, hm_le rfl, (0, 0), Nat.zero_le _, Nat.zero_le _, ?_⟩
      refine sp_157 hR hN ?_
      show R 5 26 [(0, .ref 2), (1, .int p1), (2, .int p2)] [.int (T_157 s)] (N, hm_sh L g, s) _ Q
      refine hm_st hR (?_)
      show R 5 28 [(0, .ref 2), (1, .int p1), (2, .int p2)] [.int 80, .int (T_157 s)] (N, hm_sh L g, s) _ Q
      suffices G : ∀ w : Int32, w = (if 80 ≤ (T_157 s) then (0 : Int32) else 1) → R 5 36 [(0, .ref 2), (1, .int p1), (2, .int p2)] [.int w] (N, hm_sh L g, s) (b.1 - 0 - 0 - 0 - 0, b.2 - 0 - 0 - 0 - 0) Q by
        show R 5 28 [(0, .ref 2), (1, .int p1), (2, .int p2)] [.int 80, .int (T_157 s)] (N, hm_sh L g, s) _ Q
        refine hm_st hR ⟨fun c => ?_, fun c => ?_⟩
        · exact hm_st hR (G _ (if_pos c).symm)
        · exact hm_st hR (hm_st hR (G _ (if_neg c).symm))
      intro w hw
      subst hw
      show R 5 36 [(0, .ref 2), (1, .int p1), (2, .int p2)] [.int (if 80 ≤ (T_157 s) then (0 : Int32) else 1)] (N, hm_sh L g, s) _ Q
      show R 5 36 [(0, .ref 2), (1, .int p1), (2, .int p2)] [.int (if 80 ≤ (T_157 s) then (0 : Int32) else 1)] (N, hm_sh L g, s) _ Q
      by_cases c36 : ((if 80 ≤ (T_157 s) then (0 : Int32) else 1) : Int32) = 0
      · rw [if_pos c36] at hq
        exact hm_st hR ⟨hm_le rfl, hm_le rfl, hm_le rfl, (1, 6), (by show 1 ≤ b.1 - 0 - 0 - 0 - 0; omega), (by show 6 ≤ b.2 - 0 - 0 - 0 - 0; omega), hm_needT32 hR hN c36 (fun N2 hN2 => hm_KX (by decide) (hq N2 hN2))⟩
      · rw [if_neg c36] at hq
        refine hm_st hR ⟨hm_le rfl, hm_le rfl, hm_le rfl, (0, 0), Nat.zero_le _, Nat.zero_le _, hm_needP32 hR c36 ?_⟩
        show R 5 39 [(0, .ref 2), (1, .int p1), (2, .int p2)] [] (N, hm_sh L g, s) _ Q
        refine hm_st hR (hm_st hR (hm_st hR (?_)))
        refine hm_st hR ⟨hm_le rfl, rfl, (hm_le rfl), (hm_ltN hN rfl), hm_le rfl, hm_le rfl, (0, 0), Nat.zero_le _, Nat.zero_le _, ?_⟩
        refine sp_43 hR hN hO ?_
        show R 5 45 [(0, .ref 2), (1, .int p1), (2, .int p2)] [.int (T_43 s p1 p2).1] (N, hm_sh L g, (T_43 s p1 p2).2) _ Q
        exact hm_st hR ⟨fun z => absurd z (by decide), hm_qx0 hq⟩
/-- CurvekeyHouse.nextOfRow(I)I -/
def T_42 (s : hm_St) (p1 : Int32) : Int32 := (((37 * p1) + 11) - ((37 * p1) + 11) / 113 * 113)
set_option maxRecDepth 20000 in
theorem sp_42 {R : hm_R} (hR : hm_Cm R) {N L : Nat} {g : Nat → hm_Sh} {s : hm_St} {b : hm_B} {Q : hm_Q} (hN : 68 ≤ N) {p1 : Int32} (hq : Q (.inr (some (.int (T_42 s p1)))) (N, hm_sh L g, s)) : R 42 0 (lv_args 0 [.int p1]) [] (N, hm_sh L g, s) b Q := by
  unfold T_42 at hq
  show R 42 0 [(0, .int p1)] [] (N, hm_sh L g, s) _ Q
  refine hm_st hR (hm_st hR (hm_st hR (hm_st hR (hm_st hR (hm_st hR (hm_st hR ⟨(by decide), ?_⟩))))))
  exact hm_st hR ⟨fun z => absurd z (by decide), hq⟩
def T_6_36 (N : Nat) (g : Nat → hm_Sh) : Nat → hm_St → Int32 → Int32 → Int32 → Int32 → Int32 → hm_Er Int32
  | 0, s, _, _, _, _, _ => (0, 0, N, g, s)
  | n + 1, s, v1, v2, v3, v4, v5 => (if v1 ≤ v5 then (0, v4, N, g, s) else (if (T_41 s ((T_42 s v3) &&& ((T_86 s) - 1)) ((T_42 s (T_42 s v3)) &&& ((T_86 s) - 1))) = (-1) then (if 80 ≤ (T_157 s) then (T_6_36 N g n s v1 v2 (T_42 s (T_42 s v3)) v4 (v5 + 1)) else (T_6_36 N g n ((T_43 s ((T_42 s v3) &&& ((T_86 s) - 1)) ((T_42 s (T_42 s v3)) &&& ((T_86 s) - 1))).2) v1 v2 (T_42 s (T_42 s v3)) (v4 + 1) (v5 + 1))) else (T_6_36 N g n s v1 v2 (T_42 s (T_42 s v3)) v4 (v5 + 1))))
/-- CurvekeyHouse.bulk(II)I -/
def T_6 (N : Nat) (g : Nat → hm_Sh) (s : hm_St) (p1 : Int32) (p2 : Int32) : hm_Er Int32 := (if (T_34 s p1 1 40) = 0 then (1, 0, N, g, s) else (if ((if (T_34 s p2 0 99) = 0 then (0 : Int32) else 1) : Int32) = 0 then (1, 0, N, g, s) else (T_6_36 N g (hm_df p1 0 + 1) s p1 p2 p2 0 0)))
theorem N_6_36 (N : Nat) (g : Nat → hm_Sh) {c j : Nat} (h14 : c ≠ 14) (h16 : c ≠ 16) (h18 : c ≠ 18) (h20 : c ≠ 20) (h22 : c ≠ 22) (h24 : c ≠ 24) (h25 : c ≠ 25) (h27 : c ≠ 27) (h29 : c ≠ 29) (h31 : c ≠ 31) (h33 : c ≠ 33) (h35 : c ≠ 35) (h37 : c ≠ 37) (h39 : c ≠ 39) (h41 : c ≠ 41) (h42 : c ≠ 42) (h44 : c ≠ 44) (h46 : c ≠ 46) (h49 : c ≠ 49) (h58 : c ≠ 58) : ∀ (n : Nat) (s : hm_St) (v0 v1 v2 v3 v4 : Int32), (T_6_36 N g n s v0 v1 v2 v3 v4).2.2.2.2 c j = s c j := by
  intro n
  induction n with
  | zero => intros; rfl
  | succ n ih =>
    intros
    unfold T_6_36
    repeat' split
    all_goals first | with_reducible rfl | simp only [ih, hm_w1n h14, hm_w1n h16, hm_w1n h18, hm_w1n h20, hm_w1n h22, hm_w1n h24, hm_w1n h25, hm_w1n h27, hm_w1n h29, hm_w1n h31, hm_w1n h33, hm_w1n h35, hm_w1n h37, hm_w1n h39, hm_w1n h41, hm_w1n h42, hm_w1n h44, hm_w1n h46, hm_w1n h49, hm_w1n h58, N_43 h14 h16 h18 h20 h22 h24 h25 h27 h29 h31 h33 h35 h37 h39 h41 h42 h44 h46 h49 h58]
theorem N_6 {c j : Nat} (h14 : c ≠ 14) (h16 : c ≠ 16) (h18 : c ≠ 18) (h20 : c ≠ 20) (h22 : c ≠ 22) (h24 : c ≠ 24) (h25 : c ≠ 25) (h27 : c ≠ 27) (h29 : c ≠ 29) (h31 : c ≠ 31) (h33 : c ≠ 33) (h35 : c ≠ 35) (h37 : c ≠ 37) (h39 : c ≠ 39) (h41 : c ≠ 41) (h42 : c ≠ 42) (h44 : c ≠ 44) (h46 : c ≠ 46) (h49 : c ≠ 49) (h58 : c ≠ 58) {N : Nat} {g : Nat → hm_Sh} {s : hm_St} {p1 : Int32} {p2 : Int32} : (T_6 N g s p1 p2).2.2.2.2 c j = s c j := by
  unfold T_6
  repeat' split
  all_goals first | with_reducible rfl | simp only [hm_w1n h14, hm_w1n h16, hm_w1n h18, hm_w1n h20, hm_w1n h22, hm_w1n h24, hm_w1n h25, hm_w1n h27, hm_w1n h29, hm_w1n h31, hm_w1n h33, hm_w1n h35, hm_w1n h37, hm_w1n h39, hm_w1n h41, hm_w1n h42, hm_w1n h44, hm_w1n h46, hm_w1n h49, hm_w1n h58, N_43 h14 h16 h18 h20 h22 h24 h25 h27 h29 h31 h33 h35 h37 h39 h41 h42 h44 h46 h49 h58, N_6_36 _ _ h14 h16 h18 h20 h22 h24 h25 h27 h29 h31 h33 h35 h37 h39 h41 h42 h44 h46 h49 h58]
set_option maxRecDepth 20000 in
theorem lp_6_36 {R : hm_R} (hR : hm_Cm R) {N L : Nat} {g : Nat → hm_Sh} {b : hm_B} {Q : hm_Q} (hN : 68 ≤ N) : ∀ (n : Nat) (s : hm_St) (v1 : Int32) (v2 : Int32) (v3 : Int32) (v4 : Int32) (v5 : Int32), hm_df v1 v5 < n → (hinv : s 47 1 < 100000) → (hq : hm_qx Q L (fun v => some (.int v)) (T_6_36 N g n s v1 v2 v3 v4 v5)) → R 6 36 [(5, .int v5), (4, .int v4), (3, .int v3), (0, .ref 2), (1, .int v1), (2, .int v2)] [] (N, hm_sh L g, s) b Q := by
  intro n
  induction n with
  | zero => intro s v1 v2 v3 v4 v5 hm hinv _; exact absurd hm (Nat.not_lt_zero _)
  | succ n ih =>
    intro s v1 v2 v3 v4 v5 hm hinv hq
    unfold T_6_36 at hq
    refine hm_st hR (hm_st hR (?_))
    show R 6 39 [(5, .int v5), (4, .int v4), (3, .int v3), (0, .ref 2), (1, .int v1), (2, .int v2)] [.int v1, .int v5] (N, hm_sh L g, s) _ Q
    refine hm_st hR ⟨fun c39 => ?_, fun c39 => ?_⟩
    · rw [if_pos c39] at hq
      show R 6 120 [(5, .int v5), (4, .int v4), (3, .int v3), (0, .ref 2), (1, .int v1), (2, .int v2)] [] (N, hm_sh L g, s) _ Q
      refine hm_st hR (?_)
      exact hm_st hR ⟨fun z => absurd z (by decide), hm_qx0 hq⟩
    · rw [if_neg c39] at hq
      show R 6 42 [(5, .int v5), (4, .int v4), (3, .int v3), (0, .ref 2), (1, .int v1), (2, .int v2)] [] (N, hm_sh L g, s) _ Q
      refine hm_st hR (?_)
      refine hm_st hR ⟨hm_le rfl, hm_le rfl, hm_le rfl, (0, 0), Nat.zero_le _, Nat.zero_le _, ?_⟩
      refine sp_42 hR hN ?_
      show R 6 46 [(5, .int v5), (4, .int v4), (3, .int v3), (0, .ref 2), (1, .int v1), (2, .int v2)] [.int (T_42 s v3)] (N, hm_sh L g, s) _ Q
      refine hm_st hR (hm_st hR (hm_st hR (hm_st hR ⟨rfl, hm_le rfl, (hm_ltN hN rfl), ?_⟩)))
      refine hm_st hR ⟨hm_le rfl, rfl, (hm_le rfl), (hm_ltN hN rfl), hm_le rfl, hm_le rfl, (0, 0), Nat.zero_le _, Nat.zero_le _, ?_⟩
      refine sp_86 hR hN ?_
      show R 6 55 [(3, .int (T_42 s v3)), (5, .int v5), (4, .int v4), (0, .ref 2), (1, .int v1), (2, .int v2)] [.int (T_86 s), .int (T_42 s v3)] (N, hm_sh L g, s) _ Q
      refine hm_st hR (hm_st hR (hm_st hR (hm_st hR (hm_st hR (?_)))))
      refine hm_st hR ⟨hm_le rfl, hm_le rfl, hm_le rfl, (0, 0), Nat.zero_le _, Nat.zero_le _, ?_⟩
      refine sp_42 hR hN ?_
      show R 6 64 [(6, .int ((T_42 s v3) &&& ((T_86 s) - 1))), (3, .int (T_42 s v3)), (5, .int v5), (4, .int v4), (0, .ref 2), (1, .int v1), (2, .int v2)] [.int (T_42 s (T_42 s v3))] (N, hm_sh L g, s) _ Q
      refine hm_st hR (hm_st hR (hm_st hR (hm_st hR ⟨rfl, hm_le rfl, (hm_ltN hN rfl), ?_⟩)))
      refine hm_st hR ⟨hm_le rfl, rfl, (hm_le rfl), (hm_ltN hN rfl), hm_le rfl, hm_le rfl, (0, 0), Nat.zero_le _, Nat.zero_le _, ?_⟩
      refine sp_86 hR hN ?_
      show R 6 73 [(3, .int (T_42 s (T_42 s v3))), (6, .int ((T_42 s v3) &&& ((T_86 s) - 1))), (5, .int v5), (4, .int v4), (0, .ref 2), (1, .int v1), (2, .int v2)] [.int (T_86 s), .int (T_42 s (T_42 s v3))] (N, hm_sh L g, s) _ Q
      refine hm_st hR (hm_st hR (hm_st hR (hm_st hR (hm_st hR (hm_st hR (hm_st hR (?_)))))))
      refine hm_st hR ⟨hm_le rfl, rfl, (hm_le rfl), (hm_ltN hN rfl), hm_le rfl, hm_le rfl, (0, 0), Nat.zero_le _, Nat.zero_le _, ?_⟩
      refine sp_41 hR hN ?_
      show R 6 86 [(7, .int ((T_42 s (T_42 s v3)) &&& ((T_86 s) - 1))), (3, .int (T_42 s (T_42 s v3))), (6, .int ((T_42 s v3) &&& ((T_86 s) - 1))), (5, .int v5), (4, .int v4), (0, .ref 2), (1, .int v1), (2, .int v2)] [.int (T_41 s ((T_42 s v3) &&& ((T_86 s) - 1)) ((T_42 s (T_42 s v3)) &&& ((T_86 s) - 1)))] (N, hm_sh L g, s) _ Q
      refine hm_st hR (?_)
      show R 6 87 [(7, .int ((T_42 s (T_42 s v3)) &&& ((T_86 s) - 1))), (3, .int (T_42 s (T_42 s v3))), (6, .int ((T_42 s v3) &&& ((T_86 s) - 1))), (5, .int v5), (4, .int v4), (0, .ref 2), (1, .int v1), (2, .int v2)] [.int (-1), .int (T_41 s ((T_42 s v3) &&& ((T_86 s) - 1)) ((T_42 s (T_42 s v3)) &&& ((T_86 s) - 1)))] (N, hm_sh L g, s) _ Q
      refine hm_st hR ⟨fun c87 => ?_, fun c87 => ?_⟩
      · rw [if_neg c87] at hq
        show R 6 114 [(7, .int ((T_42 s (T_42 s v3)) &&& ((T_86 s) - 1))), (3, .int (T_42 s (T_42 s v3))), (6, .int ((T_42 s v3) &&& ((T_86 s) - 1))), (5, .int v5), (4, .int v4), (0, .ref 2), (1, .int v1), (2, .int v2)] [] (N, hm_sh L g, s) _ Q
        refine hm_st hR (hm_st hR (?_))
        show R 6 36 [(5, .int (v5 + 1)), (7, .int ((T_42 s (T_42 s v3)) &&& ((T_86 s) - 1))), (3, .int (T_42 s (T_42 s v3))), (6, .int ((T_42 s v3) &&& ((T_86 s) - 1))), (4, .int v4), (0, .ref 2), (1, .int v1), (2, .int v2)] [] (N, hm_sh L g, s) _ Q
        exact hm_lvS hR (by intro q hq; simp only [List.mem_cons, List.not_mem_nil, or_false] at hq ⊢; rcases hq with rfl | rfl | rfl | rfl | rfl | rfl <;> simp) (ih s v1 v2 (T_42 s (T_42 s v3)) v4 (v5 + 1) (hm_dcx c39 hm) (by first | with_reducible exact hinv | (simp only [N_43 (show (47 : Nat) ≠ 14 by decide) (show (47 : Nat) ≠ 16 by decide) (show (47 : Nat) ≠ 18 by decide) (show (47 : Nat) ≠ 20 by decide) (show (47 : Nat) ≠ 22 by decide) (show (47 : Nat) ≠ 24 by decide) (show (47 : Nat) ≠ 25 by decide) (show (47 : Nat) ≠ 27 by decide) (show (47 : Nat) ≠ 29 by decide) (show (47 : Nat) ≠ 31 by decide) (show (47 : Nat) ≠ 33 by decide) (show (47 : Nat) ≠ 35 by decide) (show (47 : Nat) ≠ 37 by decide) (show (47 : Nat) ≠ 39 by decide) (show (47 : Nat) ≠ 41 by decide) (show (47 : Nat) ≠ 42 by decide) (show (47 : Nat) ≠ 44 by decide) (show (47 : Nat) ≠ 46 by decide) (show (47 : Nat) ≠ 49 by decide) (show (47 : Nat) ≠ 58 by decide)]; exact hinv)) hq)
      · rw [if_pos c87] at hq
        show R 6 90 [(7, .int ((T_42 s (T_42 s v3)) &&& ((T_86 s) - 1))), (3, .int (T_42 s (T_42 s v3))), (6, .int ((T_42 s v3) &&& ((T_86 s) - 1))), (5, .int v5), (4, .int v4), (0, .ref 2), (1, .int v1), (2, .int v2)] [] (N, hm_sh L g, s) _ Q
        refine hm_st hR (hm_st hR ⟨rfl, hm_le rfl, (hm_ltN hN rfl), ?_⟩)
        refine hm_st hR ⟨hm_le rfl, rfl, (hm_le rfl), (hm_ltN hN rfl), hm_le rfl, hm_le rfl, (0, 0), Nat.zero_le _, Nat.zero_le _, ?_⟩
        refine sp_157 hR hN ?_
        show R 6 97 [(7, .int ((T_42 s (T_42 s v3)) &&& ((T_86 s) - 1))), (3, .int (T_42 s (T_42 s v3))), (6, .int ((T_42 s v3) &&& ((T_86 s) - 1))), (5, .int v5), (4, .int v4), (0, .ref 2), (1, .int v1), (2, .int v2)] [.int (T_157 s)] (N, hm_sh L g, s) _ Q
        refine hm_st hR (?_)
        show R 6 99 [(7, .int ((T_42 s (T_42 s v3)) &&& ((T_86 s) - 1))), (3, .int (T_42 s (T_42 s v3))), (6, .int ((T_42 s v3) &&& ((T_86 s) - 1))), (5, .int v5), (4, .int v4), (0, .ref 2), (1, .int v1), (2, .int v2)] [.int 80, .int (T_157 s)] (N, hm_sh L g, s) _ Q
        refine hm_st hR ⟨fun c99 => ?_, fun c99 => ?_⟩
        · rw [if_pos c99] at hq
          show R 6 114 [(7, .int ((T_42 s (T_42 s v3)) &&& ((T_86 s) - 1))), (3, .int (T_42 s (T_42 s v3))), (6, .int ((T_42 s v3) &&& ((T_86 s) - 1))), (5, .int v5), (4, .int v4), (0, .ref 2), (1, .int v1), (2, .int v2)] [] (N, hm_sh L g, s) _ Q
          refine hm_st hR (hm_st hR (?_))
          show R 6 36 [(5, .int (v5 + 1)), (7, .int ((T_42 s (T_42 s v3)) &&& ((T_86 s) - 1))), (3, .int (T_42 s (T_42 s v3))), (6, .int ((T_42 s v3) &&& ((T_86 s) - 1))), (4, .int v4), (0, .ref 2), (1, .int v1), (2, .int v2)] [] (N, hm_sh L g, s) _ Q
          exact hm_lvS hR (by intro q hq; simp only [List.mem_cons, List.not_mem_nil, or_false] at hq ⊢; rcases hq with rfl | rfl | rfl | rfl | rfl | rfl <;> simp) (ih s v1 v2 (T_42 s (T_42 s v3)) v4 (v5 + 1) (hm_dcx c39 hm) (by first | with_reducible exact hinv | (simp only [N_43 (show (47 : Nat) ≠ 14 by decide) (show (47 : Nat) ≠ 16 by decide) (show (47 : Nat) ≠ 18 by decide) (show (47 : Nat) ≠ 20 by decide) (show (47 : Nat) ≠ 22 by decide) (show (47 : Nat) ≠ 24 by decide) (show (47 : Nat) ≠ 25 by decide) (show (47 : Nat) ≠ 27 by decide) (show (47 : Nat) ≠ 29 by decide) (show (47 : Nat) ≠ 31 by decide) (show (47 : Nat) ≠ 33 by decide) (show (47 : Nat) ≠ 35 by decide) (show (47 : Nat) ≠ 37 by decide) (show (47 : Nat) ≠ 39 by decide) (show (47 : Nat) ≠ 41 by decide) (show (47 : Nat) ≠ 42 by decide) (show (47 : Nat) ≠ 44 by decide) (show (47 : Nat) ≠ 46 by decide) (show (47 : Nat) ≠ 49 by decide) (show (47 : Nat) ≠ 58 by decide)]; exact hinv)) hq)
        · rw [if_neg c99] at hq
          show R 6 102 [(7, .int ((T_42 s (T_42 s v3)) &&& ((T_86 s) - 1))), (3, .int (T_42 s (T_42 s v3))), (6, .int ((T_42 s v3) &&& ((T_86 s) - 1))), (5, .int v5), (4, .int v4), (0, .ref 2), (1, .int v1), (2, .int v2)] [] (N, hm_sh L g, s) _ Q
          refine hm_st hR (hm_st hR (hm_st hR (?_)))
          refine hm_st hR ⟨hm_le rfl, rfl, (hm_le rfl), (hm_ltN hN rfl), hm_le rfl, hm_le rfl, (0, 0), Nat.zero_le _, Nat.zero_le _, ?_⟩
          refine sp_43 hR hN hinv ?_
          show R 6 110 [(7, .int ((T_42 s (T_42 s v3)) &&& ((T_86 s) - 1))), (3, .int (T_42 s (T_42 s v3))), (6, .int ((T_42 s v3) &&& ((T_86 s) - 1))), (5, .int v5), (4, .int v4), (0, .ref 2), (1, .int v1), (2, .int v2)] [.int (T_43 s ((T_42 s v3) &&& ((T_86 s) - 1)) ((T_42 s (T_42 s v3)) &&& ((T_86 s) - 1))).1] (N, hm_sh L g, (T_43 s ((T_42 s v3) &&& ((T_86 s) - 1)) ((T_42 s (T_42 s v3)) &&& ((T_86 s) - 1))).2) _ Q
          refine hm_st hR ⟨rfl, hm_st hR (hm_st hR (hm_st hR (?_)))⟩
          show R 6 36 [(5, .int (v5 + 1)), (4, .int (v4 + 1)), (7, .int ((T_42 s (T_42 s v3)) &&& ((T_86 s) - 1))), (3, .int (T_42 s (T_42 s v3))), (6, .int ((T_42 s v3) &&& ((T_86 s) - 1))), (0, .ref 2), (1, .int v1), (2, .int v2)] [] (N, hm_sh L g, (T_43 s ((T_42 s v3) &&& ((T_86 s) - 1)) ((T_42 s (T_42 s v3)) &&& ((T_86 s) - 1))).2) _ Q
          exact hm_lvS hR (by intro q hq; simp only [List.mem_cons, List.not_mem_nil, or_false] at hq ⊢; rcases hq with rfl | rfl | rfl | rfl | rfl | rfl <;> simp) (ih ((T_43 s ((T_42 s v3) &&& ((T_86 s) - 1)) ((T_42 s (T_42 s v3)) &&& ((T_86 s) - 1))).2) v1 v2 (T_42 s (T_42 s v3)) (v4 + 1) (v5 + 1) (hm_dcx c39 hm) (by first | with_reducible exact hinv | (simp only [N_43 (show (47 : Nat) ≠ 14 by decide) (show (47 : Nat) ≠ 16 by decide) (show (47 : Nat) ≠ 18 by decide) (show (47 : Nat) ≠ 20 by decide) (show (47 : Nat) ≠ 22 by decide) (show (47 : Nat) ≠ 24 by decide) (show (47 : Nat) ≠ 25 by decide) (show (47 : Nat) ≠ 27 by decide) (show (47 : Nat) ≠ 29 by decide) (show (47 : Nat) ≠ 31 by decide) (show (47 : Nat) ≠ 33 by decide) (show (47 : Nat) ≠ 35 by decide) (show (47 : Nat) ≠ 37 by decide) (show (47 : Nat) ≠ 39 by decide) (show (47 : Nat) ≠ 41 by decide) (show (47 : Nat) ≠ 42 by decide) (show (47 : Nat) ≠ 44 by decide) (show (47 : Nat) ≠ 46 by decide) (show (47 : Nat) ≠ 49 by decide) (show (47 : Nat) ≠ 58 by decide)]; exact hinv)) hq)
set_option maxRecDepth 20000 in
theorem sp_6 {R : hm_R} (hR : hm_Cm R) {N L : Nat} {g : Nat → hm_Sh} {s : hm_St} {b : hm_B} {Q : hm_Q} (hN : 68 ≤ N) (hb1 : 1 ≤ b.1) (hb2 : 6 ≤ b.2) {p1 : Int32} {p2 : Int32} (hO : s 47 1 < 100000) (hq : hm_qx Q L (fun v => some (.int v)) (T_6 N g s p1 p2)) : R 6 0 (lv_args 0 [.ref 2, .int p1, .int p2]) [] (N, hm_sh L g, s) b Q := by
  unfold T_6 at hq
  show R 6 0 [(0, .ref 2), (1, .int p1), (2, .int p2)] [] (N, hm_sh L g, s) _ Q
  refine hm_st hR (hm_st hR (hm_st hR (?_)))
  refine hm_st hR ⟨hm_le rfl, hm_le rfl, hm_le rfl, (0, 0), Nat.zero_le _, Nat.zero_le _, ?_⟩
  refine sp_34 hR hN ?_
  show R 6 7 [(0, .ref 2), (1, .int p1), (2, .int p2)] [.int (T_34 s p1 1 40)] (N, hm_sh L g, s) _ Q
  show R 6 7 [(0, .ref 2), (1, .int p1), (2, .int p2)] [.int (T_34 s p1 1 40)] (N, hm_sh L g, s) _ Q
  refine hm_st hR ⟨fun c7 => ?_, fun c7 => ?_⟩
  · rw [if_pos c7] at hq
    show R 6 24 [(0, .ref 2), (1, .int p1), (2, .int p2)] [] (N, hm_sh L g, s) _ Q
    refine hm_st hR (?_)
    show R 6 25 [(0, .ref 2), (1, .int p1), (2, .int p2)] [.int 0] (N, hm_sh L g, s) _ Q
    exact hm_st hR ⟨hm_le rfl, hm_le rfl, hm_le rfl, (1, 6), (by show 1 ≤ b.1 - 0; omega), (by show 6 ≤ b.2 - 0; omega), hm_needT31 hR hN rfl (fun N2 hN2 => hm_KX (by decide) (hq N2 hN2))⟩
  · rw [if_neg c7] at hq
    show R 6 10 [(0, .ref 2), (1, .int p1), (2, .int p2)] [] (N, hm_sh L g, s) _ Q
    refine hm_st hR (hm_st hR (hm_st hR (?_)))
    refine hm_st hR ⟨hm_le rfl, hm_le rfl, hm_le rfl, (0, 0), Nat.zero_le _, Nat.zero_le _, ?_⟩
    refine sp_34 hR hN ?_
    show R 6 17 [(0, .ref 2), (1, .int p1), (2, .int p2)] [.int (T_34 s p2 0 99)] (N, hm_sh L g, s) _ Q
    show R 6 17 [(0, .ref 2), (1, .int p1), (2, .int p2)] [.int (T_34 s p2 0 99)] (N, hm_sh L g, s) _ Q
    suffices G : ∀ w : Int32, w = (if (T_34 s p2 0 99) = 0 then (0 : Int32) else 1) → R 6 25 [(0, .ref 2), (1, .int p1), (2, .int p2)] [.int w] (N, hm_sh L g, s) (b.1 - 0 - 0, b.2 - 0 - 0) Q by
      show R 6 17 [(0, .ref 2), (1, .int p1), (2, .int p2)] [.int (T_34 s p2 0 99)] (N, hm_sh L g, s) _ Q
      refine hm_st hR ⟨fun c => ?_, fun c => ?_⟩
      · exact hm_st hR (G _ (if_pos c).symm)
      · exact hm_st hR (hm_st hR (G _ (if_neg c).symm))
    intro w hw
    subst hw
    show R 6 25 [(0, .ref 2), (1, .int p1), (2, .int p2)] [.int (if (T_34 s p2 0 99) = 0 then (0 : Int32) else 1)] (N, hm_sh L g, s) _ Q
    show R 6 25 [(0, .ref 2), (1, .int p1), (2, .int p2)] [.int (if (T_34 s p2 0 99) = 0 then (0 : Int32) else 1)] (N, hm_sh L g, s) _ Q
    by_cases c25 : ((if (T_34 s p2 0 99) = 0 then (0 : Int32) else 1) : Int32) = 0
    · rw [if_pos c25] at hq
      exact hm_st hR ⟨hm_le rfl, hm_le rfl, hm_le rfl, (1, 6), (by show 1 ≤ b.1 - 0 - 0; omega), (by show 6 ≤ b.2 - 0 - 0; omega), hm_needT31 hR hN c25 (fun N2 hN2 => hm_KX (by decide) (hq N2 hN2))⟩
    · rw [if_neg c25] at hq
      refine hm_st hR ⟨hm_le rfl, hm_le rfl, hm_le rfl, (0, 0), Nat.zero_le _, Nat.zero_le _, hm_needP31 hR c25 ?_⟩
      show R 6 28 [(0, .ref 2), (1, .int p1), (2, .int p2)] [] (N, hm_sh L g, s) _ Q
      refine hm_st hR (hm_st hR (hm_st hR (hm_st hR (hm_st hR (hm_st hR (?_))))))
      show R 6 36 [(5, .int 0), (4, .int 0), (3, .int p2), (0, .ref 2), (1, .int p1), (2, .int p2)] [] (N, hm_sh L g, s) _ Q
      exact lp_6_36 hR hN _ _ _ _ _ _ _ (Nat.lt_succ_self _) hO hq
