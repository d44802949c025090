/-! The methods as functions; the abstract machine does them. -/
/-- CurvekeyHouse.remove(I)I -/
def T_8 (N : Nat) (g : Nat → hm_Sh) (s : hm_St) (p1 : Int32) : hm_Er Int32 := (if ((T_159 s p1) : Int32) = 0 then (3, 0, N, g, s) else (if ((T_160 s p1) : Int32) = 0 then (2, 0, N, g, s) else (0, (T_113 (T_168 (T_119 (T_46 (T_117 s) p1) p1) p1)), N, g, (T_168 (T_119 (T_46 (T_117 s) p1) p1) p1))))
theorem N_8 {c j : Nat} (h14 : c ≠ 14) (h20 : c ≠ 20) (h25 : c ≠ 25) (h33 : c ≠ 33) (h41 : c ≠ 41) (h42 : c ≠ 42) (h44 : c ≠ 44) (h49 : c ≠ 49) (h58 : c ≠ 58) {N : Nat} {g : Nat → hm_Sh} {s : hm_St} {p1 : Int32} : (T_8 N g s p1).2.2.2.2 c j = s c j := by
  unfold T_8
  repeat' split
  all_goals first | with_reducible rfl | simp only [hm_w1n h14, hm_w1n h20, hm_w1n h25, hm_w1n h33, hm_w1n h41, hm_w1n h42, hm_w1n h44, hm_w1n h49, hm_w1n h58, N_46 h33 h42 h44 h49 h58, N_117 h25, N_119 h41, N_168 h14 h20]
set_option maxRecDepth 20000 in
theorem sp_8 {R : hm_R} (hR : hm_Cm R) {N L : Nat} {g : Nat → hm_Sh} {s : hm_St} {b : hm_B} {Q : hm_Q} (hN : 68 ≤ N) (hb1 : 1 ≤ b.1) (hb2 : 6 ≤ b.2) {p1 : Int32} (hO : s 47 1 < 100000) (hq : hm_qx Q L (fun v => some (.int v)) (T_8 N g s p1)) : R 8 0 (lv_args 0 [.ref 2, .int p1]) [] (N, hm_sh L g, s) b Q := by
  unfold T_8 at hq
  show R 8 0 [(0, .ref 2), (1, .int p1)] [] (N, hm_sh L g, s) _ Q
  refine hm_st hR (hm_st hR ⟨rfl, hm_le rfl, (hm_ltN hN rfl), hm_st hR (?_)⟩)
  refine hm_st hR ⟨hm_le rfl, rfl, (hm_le rfl), (hm_ltN hN rfl), hm_le rfl, hm_le rfl, (0, 0), Nat.zero_le _, Nat.zero_le _, ?_⟩
  refine sp_159 hR hN ?_
  show R 8 8 [(0, .ref 2), (1, .int p1)] [.int (T_159 s p1)] (N, hm_sh L g, s) _ Q
  show R 8 8 [(0, .ref 2), (1, .int p1)] [.int (T_159 s p1)] (N, hm_sh L g, s) _ Q
  by_cases c8 : ((T_159 s p1) : Int32) = 0
  · rw [if_pos c8] at hq
    exact hm_st hR ⟨hm_le rfl, hm_le rfl, hm_le rfl, (1, 6), (by show 1 ≤ b.1 - 0; omega), (by show 6 ≤ b.2 - 0; omega), hm_needT33 hR hN c8 (fun N2 hN2 => hm_KX (by decide) (hq N2 hN2))⟩
  · rw [if_neg c8] at hq
    refine hm_st hR ⟨hm_le rfl, hm_le rfl, hm_le rfl, (0, 0), Nat.zero_le _, Nat.zero_le _, hm_needP33 hR c8 ?_⟩
    show R 8 11 [(0, .ref 2), (1, .int p1)] [] (N, hm_sh L g, s) _ Q
    refine hm_st hR (hm_st hR ⟨rfl, hm_le rfl, (hm_ltN hN rfl), hm_st hR (?_)⟩)
    refine hm_st hR ⟨hm_le rfl, rfl, (hm_le rfl), (hm_ltN hN rfl), hm_le rfl, hm_le rfl, (0, 0), Nat.zero_le _, Nat.zero_le _, ?_⟩
    refine sp_160 hR hN ?_
    show R 8 19 [(0, .ref 2), (1, .int p1)] [.int (T_160 s p1)] (N, hm_sh L g, s) _ Q
    show R 8 19 [(0, .ref 2), (1, .int p1)] [.int (T_160 s p1)] (N, hm_sh L g, s) _ Q
    by_cases c19 : ((T_160 s p1) : Int32) = 0
    · rw [if_pos c19] at hq
      exact hm_st hR ⟨hm_le rfl, hm_le rfl, hm_le rfl, (1, 6), (by show 1 ≤ b.1 - 0 - 0 - 0; omega), (by show 6 ≤ b.2 - 0 - 0 - 0; omega), hm_needT32 hR hN c19 (fun N2 hN2 => hm_KX (by decide) (hq N2 hN2))⟩
    · rw [if_neg c19] at hq
      refine hm_st hR ⟨hm_le rfl, hm_le rfl, hm_le rfl, (0, 0), Nat.zero_le _, Nat.zero_le _, hm_needP32 hR c19 ?_⟩
      show R 8 22 [(0, .ref 2), (1, .int p1)] [] (N, hm_sh L g, s) _ Q
      refine hm_st hR (hm_st hR ⟨rfl, hm_le rfl, (hm_ltN hN rfl), ?_⟩)
      refine hm_st hR ⟨hm_le rfl, rfl, (hm_le rfl), (hm_ltN hN rfl), hm_le rfl, hm_le rfl, (0, 0), Nat.zero_le _, Nat.zero_le _, ?_⟩
      refine sp_117 hR hN ?_
      show R 8 29 [(0, .ref 2), (1, .int p1)] [] (N, hm_sh L g, (T_117 s)) _ Q
      refine hm_st hR (hm_st hR (?_))
      refine hm_st hR ⟨hm_le rfl, rfl, (hm_le rfl), (hm_ltN hN rfl), hm_le rfl, hm_le rfl, (0, 0), Nat.zero_le _, Nat.zero_le _, ?_⟩
      refine sp_46 hR hN (by simp only [N_117 (show (47 : Nat) ≠ 25 by decide)]; exact hO) ?_
      show R 8 34 [(0, .ref 2), (1, .int p1)] [] (N, hm_sh L g, (T_46 (T_117 s) p1)) _ Q
      refine hm_st hR (hm_st hR ⟨rfl, hm_le rfl, (hm_ltN hN rfl), hm_st hR (?_)⟩)
      refine hm_st hR ⟨hm_le rfl, rfl, (hm_le rfl), (hm_ltN hN rfl), hm_le rfl, hm_le rfl, (0, 0), Nat.zero_le _, Nat.zero_le _, ?_⟩
      refine sp_119 hR hN ?_
      show R 8 42 [(0, .ref 2), (1, .int p1)] [] (N, hm_sh L g, (T_119 (T_46 (T_117 s) p1) p1)) _ Q
      refine hm_st hR (hm_st hR ⟨rfl, hm_le rfl, (hm_ltN hN rfl), hm_st hR (?_)⟩)
      refine hm_st hR ⟨hm_le rfl, rfl, (hm_le rfl), (hm_ltN hN rfl), hm_le rfl, hm_le rfl, (0, 0), Nat.zero_le _, Nat.zero_le _, ?_⟩
      refine sp_168 hR hN ?_
      show R 8 50 [(0, .ref 2), (1, .int p1)] [] (N, hm_sh L g, (T_168 (T_119 (T_46 (T_117 s) p1) p1) p1)) _ Q
      refine hm_st hR (hm_st hR ⟨rfl, hm_le rfl, (hm_ltN hN rfl), ?_⟩)
      refine hm_st hR ⟨hm_le rfl, rfl, (hm_le rfl), (hm_ltN hN rfl), hm_le rfl, hm_le rfl, (0, 0), Nat.zero_le _, Nat.zero_le _, ?_⟩
      refine sp_113 hR hN ?_
      show R 8 57 [(0, .ref 2), (1, .int p1)] [.int (T_113 (T_168 (T_119 (T_46 (T_117 s) p1) p1) p1))] (N, hm_sh L g, (T_168 (T_119 (T_46 (T_117 s) p1) p1) p1)) _ Q
      exact hm_st hR ⟨fun z => absurd z (by decide), hm_qx0 hq⟩
def T_183_2 (aa : Nat) (nn : Nat) : Nat → hm_St → Int32 → Int32 → Int32 → hm_St
  | 0, s, _, _, _ => s
  | n + 1, s, v1, v2, v3 => (if v2 ≤ (v3 + 1) then s else (T_183_2 aa nn n (T_179 s aa nn v3 (T_178 s aa nn (v3 + 1))) v1 v2 (v3 + 1)))
/-- CurvekeyHouse$Row.drop(II)V -/
def T_183 (s : hm_St) (aa : Nat) (nn : Nat) (p1 : Int32) (p2 : Int32) : hm_St := (T_183_2 aa nn (hm_df p2 (p1 + 1) + 1) s p1 p2 p1)
theorem N_183_2 (aa : Nat) (nn : Nat) {c j : Nat} (haa : c ≠ aa) : ∀ (n : Nat) (s : hm_St) (v0 v1 v2 : Int32), (T_183_2 aa nn n s v0 v1 v2) c j = s c j := by
  intro n
  induction n with
  | zero => intros; rfl
  | succ n ih =>
    intros
    unfold T_183_2
    repeat' split
    all_goals first | with_reducible rfl | simp only [ih, hm_w1n haa, N_179 haa]
theorem N_183 {c j : Nat} {aa nn : Nat} (haa : c ≠ aa) {s : hm_St} {p1 : Int32} {p2 : Int32} : (T_183 s aa nn p1 p2) c j = s c j := by
  unfold T_183
  repeat' split
  all_goals first | with_reducible rfl | simp only [hm_w1n haa, N_179 haa, N_183_2 _ _ haa]
set_option maxRecDepth 20000 in
theorem lp_183_2 {R : hm_R} (hR : hm_Cm R) {N L : Nat} {g : Nat → hm_Sh} {b : hm_B} {Q : hm_Q} (hN : 68 ≤ N) {rr aa nn : Nat} (hrk : (hm_sh L g rr).1 = 8) (hra : (hm_sh L g rr).2.2 0 = some aa) (hr2 : 2 ≤ rr) (hrl : rr < N) (hak : (hm_sh L g aa).1 = 1000) (han : (hm_sh L g aa).2.1 = nn) (ha2 : 2 ≤ aa) (hal : aa < N) (hnn : nn < 2 ^ 31) : ∀ (n : Nat) (s : hm_St) (v1 : Int32) (v2 : Int32) (v3 : Int32), hm_df v2 (v3 + 1) < n → (hq : Q (.inr none) (N, hm_sh L g, (T_183_2 aa nn n s v1 v2 v3))) → R 183 2 [(3, .int v3), (0, .ref rr), (1, .int v1), (2, .int v2)] [] (N, hm_sh L g, s) b Q := by
  intro n
  induction n with
  | zero => intro s v1 v2 v3 hm _; exact absurd hm (Nat.not_lt_zero _)
  | succ n ih =>
    intro s v1 v2 v3 hm hq
    unfold T_183_2 at hq
    refine hm_st hR (hm_st hR (hm_st hR (hm_st hR (?_))))
    show R 183 6 [(3, .int v3), (0, .ref rr), (1, .int v1), (2, .int v2)] [.int v2, .int (v3 + 1)] (N, hm_sh L g, s) _ Q
    refine hm_st hR ⟨fun c6 => ?_, fun c6 => ?_⟩
    · rw [if_pos c6] at hq
      show R 183 27 [(3, .int v3), (0, .ref rr), (1, .int v1), (2, .int v2)] [] (N, hm_sh L g, s) _ Q
      exact hm_st hR (hq)
    · rw [if_neg c6] at hq
      show R 183 9 [(3, .int v3), (0, .ref rr), (1, .int v1), (2, .int v2)] [] (N, hm_sh L g, s) _ Q
      refine hm_st hR (hm_st hR (hm_st hR (hm_st hR (hm_st hR (hm_st hR (?_))))))
      refine hm_st hR ⟨hm_le rfl, hrk, hr2, hrl, hm_le rfl, hm_le rfl, (0, 0), Nat.zero_le _, Nat.zero_le _, ?_⟩
      refine sp_178 hR hN (rr := rr) (aa := aa) (nn := nn) hrk hra hr2 hrl hak han ha2 hal hnn ?_
      show R 183 18 [(3, .int v3), (0, .ref rr), (1, .int v1), (2, .int v2)] [.int (T_178 s aa nn (v3 + 1)), .int v3, .ref rr] (N, hm_sh L g, s) _ Q
      refine hm_st hR ⟨hm_le rfl, hrk, hr2, hrl, hm_le rfl, hm_le rfl, (0, 0), Nat.zero_le _, Nat.zero_le _, ?_⟩
      refine sp_179 hR hN (rr := rr) (aa := aa) (nn := nn) hrk hra hr2 hrl hak han ha2 hal hnn ?_
      show R 183 21 [(3, .int v3), (0, .ref rr), (1, .int v1), (2, .int v2)] [] (N, hm_sh L g, (T_179 s aa nn v3 (T_178 s aa nn (v3 + 1)))) _ Q
      refine hm_st hR (hm_st hR (?_))
      show R 183 2 [(3, .int (v3 + 1)), (0, .ref rr), (1, .int v1), (2, .int v2)] [] (N, hm_sh L g, (T_179 s aa nn v3 (T_178 s aa nn (v3 + 1)))) _ Q
      exact hm_lvS hR (by intro q hq; simp only [List.mem_cons, List.not_mem_nil, or_false] at hq ⊢; rcases hq with rfl | rfl | rfl | rfl <;> simp) (ih (T_179 s aa nn v3 (T_178 s aa nn (v3 + 1))) v1 v2 (v3 + 1) (hm_dcx c6 hm) hq)
set_option maxRecDepth 20000 in
theorem sp_183 {R : hm_R} (hR : hm_Cm R) {N L : Nat} {g : Nat → hm_Sh} {s : hm_St} {b : hm_B} {Q : hm_Q} (hN : 68 ≤ N) {rr aa nn : Nat} (hrk : (hm_sh L g rr).1 = 8) (hra : (hm_sh L g rr).2.2 0 = some aa) (hr2 : 2 ≤ rr) (hrl : rr < N) (hak : (hm_sh L g aa).1 = 1000) (han : (hm_sh L g aa).2.1 = nn) (ha2 : 2 ≤ aa) (hal : aa < N) (hnn : nn < 2 ^ 31) {p1 : Int32} {p2 : Int32} (hq : Q (.inr none) (N, hm_sh L g, (T_183 s aa nn p1 p2))) : R 183 0 (lv_args 0 [.ref rr, .int p1, .int p2]) [] (N, hm_sh L g, s) b Q := by
  unfold T_183 at hq
  show R 183 0 [(0, .ref rr), (1, .int p1), (2, .int p2)] [] (N, hm_sh L g, s) _ Q
  refine hm_st hR (hm_st hR (?_))
  show R 183 2 [(3, .int p1), (0, .ref rr), (1, .int p1), (2, .int p2)] [] (N, hm_sh L g, s) _ Q
  exact lp_183_2 hR hN hrk hra hr2 hrl hak han ha2 hal hnn _ _ _ _ _ (Nat.lt_succ_self _) hq
def T_153_7 : Nat → hm_St → Int32 → Int32 → hm_St
  | 0, s, _, _ => s
  | n + 1, s, v1, v2 => (if v2 ≤ 1 then s else (if ((s 42 3) / 2) < ((T_141 s v1) + (T_141 s (v1 + 1))) then (T_153_7 n s (v1 + 1) (v2 + (-1))) else (T_153_7 n (hm_w1 (T_183 s 46 1025 (v1 + 1) ((s 42 4) + 1)) 42 4 (((T_183 s 46 1025 (v1 + 1) ((s 42 4) + 1)) 42 4) - 1)) v1 (v2 + (-1)))))
/-- CurvekeyHouse$Pages.joinSmall()V -/
def T_153 (s : hm_St) : hm_St := (T_153_7 (hm_df (s 42 4) 1 + 1) s 0 (s 42 4))
theorem N_153_7 {c j : Nat} (h42 : c ≠ 42) (h46 : c ≠ 46) : ∀ (n : Nat) (s : hm_St) (v0 v1 : Int32), (T_153_7  n s v0 v1) c j = s c j := by
  intro n
  induction n with
  | zero => intros; rfl
  | succ n ih =>
    intros
    unfold T_153_7
    repeat' split
    all_goals first | with_reducible rfl | simp only [ih, hm_w1n h42, hm_w1n h46, N_183 h42, N_183 h46]
theorem N_153 {c j : Nat} (h42 : c ≠ 42) (h46 : c ≠ 46) {s : hm_St} : (T_153 s) c j = s c j := by
  unfold T_153
  repeat' split
  all_goals first | with_reducible rfl | simp only [hm_w1n h42, hm_w1n h46, N_183 h42, N_183 h46, N_153_7 h42 h46]
set_option maxRecDepth 20000 in
theorem lp_153_7 {R : hm_R} (hR : hm_Cm R) {N L : Nat} {g : Nat → hm_Sh} {b : hm_B} {Q : hm_Q} (hN : 68 ≤ N) : ∀ (n : Nat) (s : hm_St) (v1 : Int32) (v2 : Int32), hm_df v2 1 < n → (hq : Q (.inr none) (N, hm_sh L g, (T_153_7 n s v1 v2))) → R 153 7 [(2, .int v2), (1, .int v1), (0, .ref 42)] [] (N, hm_sh L g, s) b Q := by
  intro n
  induction n with
  | zero => intro s v1 v2 hm _; exact absurd hm (Nat.not_lt_zero _)
  | succ n ih =>
    intro s v1 v2 hm hq
    unfold T_153_7 at hq
    refine hm_st hR (hm_st hR (?_))
    show R 153 9 [(2, .int v2), (1, .int v1), (0, .ref 42)] [.int 1, .int v2] (N, hm_sh L g, s) _ Q
    refine hm_st hR ⟨fun c9 => ?_, fun c9 => ?_⟩
    · rw [if_pos c9] at hq
      show R 153 72 [(2, .int v2), (1, .int v1), (0, .ref 42)] [] (N, hm_sh L g, s) _ Q
      exact hm_st hR (hq)
    · rw [if_neg c9] at hq
      show R 153 12 [(2, .int v2), (1, .int v1), (0, .ref 42)] [] (N, hm_sh L g, s) _ Q
      refine hm_st hR (hm_st hR (?_))
      refine hm_st hR ⟨hm_le rfl, rfl, (hm_le rfl), (hm_ltN hN rfl), hm_le rfl, hm_le rfl, (0, 0), Nat.zero_le _, Nat.zero_le _, ?_⟩
      refine sp_141 hR hN ?_
      show R 153 17 [(2, .int v2), (1, .int v1), (0, .ref 42)] [.int (T_141 s v1)] (N, hm_sh L g, s) _ Q
      refine hm_st hR (hm_st hR (hm_st hR (hm_st hR (?_))))
      refine hm_st hR ⟨hm_le rfl, rfl, (hm_le rfl), (hm_ltN hN rfl), hm_le rfl, hm_le rfl, (0, 0), Nat.zero_le _, Nat.zero_le _, ?_⟩
      refine sp_141 hR hN ?_
      show R 153 24 [(2, .int v2), (1, .int v1), (0, .ref 42)] [.int (T_141 s (v1 + 1)), .int (T_141 s v1)] (N, hm_sh L g, s) _ Q
      refine hm_st hR (hm_st hR (hm_st hR ⟨rfl, hm_le rfl, (hm_ltN hN rfl), hm_st hR (hm_st hR ⟨(by decide), ?_⟩)⟩))
      show R 153 31 [(2, .int v2), (1, .int v1), (0, .ref 42)] [.int ((s 42 3) / 2), .int ((T_141 s v1) + (T_141 s (v1 + 1)))] (N, hm_sh L g, s) _ Q
      refine hm_st hR ⟨fun c31 => ?_, fun c31 => ?_⟩
      · rw [if_pos c31] at hq
        show R 153 63 [(2, .int v2), (1, .int v1), (0, .ref 42)] [] (N, hm_sh L g, s) _ Q
        refine hm_st hR (hm_st hR (hm_st hR (?_)))
        show R 153 7 [(2, .int (v2 + (-1))), (1, .int (v1 + 1)), (0, .ref 42)] [] (N, hm_sh L g, s) _ Q
        exact hm_lvS hR (by intro q hq; simp only [List.mem_cons, List.not_mem_nil, or_false] at hq ⊢; rcases hq with rfl | rfl | rfl <;> simp) (ih s (v1 + 1) (v2 + (-1)) (hm_dcm c9 hm) hq)
      · rw [if_neg c31] at hq
        show R 153 34 [(2, .int v2), (1, .int v1), (0, .ref 42)] [] (N, hm_sh L g, s) _ Q
        refine hm_st hR (hm_st hR ⟨rfl, hm_le rfl, (hm_ltN hN rfl), hm_st hR (hm_st hR (hm_st hR (hm_st hR (hm_st hR ⟨rfl, hm_le rfl, (hm_ltN hN rfl), hm_st hR (hm_st hR (?_))⟩))))⟩)
        refine hm_st hR ⟨hm_le rfl, rfl, (hm_le rfl), (hm_ltN hN rfl), hm_le rfl, hm_le rfl, (0, 0), Nat.zero_le _, Nat.zero_le _, ?_⟩
        refine sp_183 hR hN (rr := 45) (aa := 46) (nn := 1025) rfl rfl (hm_le rfl) (hm_ltN hN rfl) rfl rfl (hm_le rfl) (hm_ltN hN rfl) (by decide) ?_
        show R 153 50 [(2, .int v2), (1, .int v1), (0, .ref 42)] [] (N, hm_sh L g, (T_183 s 46 1025 (v1 + 1) ((s 42 4) + 1))) _ Q
        refine hm_st hR (hm_st hR ⟨rfl, hm_st hR ⟨rfl, hm_le rfl, (hm_ltN hN rfl), hm_st hR (hm_st hR (hm_st hR ⟨rfl, rfl, hm_le rfl, (hm_ltN hN rfl), ?_⟩))⟩⟩)
        show R 153 60 [(2, .int v2), (1, .int v1), (0, .ref 42)] [] (N, hm_sh L g, (hm_w1 (T_183 s 46 1025 (v1 + 1) ((s 42 4) + 1)) 42 4 (((T_183 s 46 1025 (v1 + 1) ((s 42 4) + 1)) 42 4) - 1))) _ Q
        refine hm_st hR (hm_st hR (hm_st hR (?_)))
        show R 153 7 [(2, .int (v2 + (-1))), (1, .int v1), (0, .ref 42)] [] (N, hm_sh L g, (hm_w1 (T_183 s 46 1025 (v1 + 1) ((s 42 4) + 1)) 42 4 (((T_183 s 46 1025 (v1 + 1) ((s 42 4) + 1)) 42 4) - 1))) _ Q
        exact hm_lvS hR (by intro q hq; simp only [List.mem_cons, List.not_mem_nil, or_false] at hq ⊢; rcases hq with rfl | rfl | rfl <;> simp) (ih (hm_w1 (T_183 s 46 1025 (v1 + 1) ((s 42 4) + 1)) 42 4 (((T_183 s 46 1025 (v1 + 1) ((s 42 4) + 1)) 42 4) - 1)) v1 (v2 + (-1)) (hm_dcm c9 hm) hq)
set_option maxRecDepth 20000 in
theorem sp_153 {R : hm_R} (hR : hm_Cm R) {N L : Nat} {g : Nat → hm_Sh} {s : hm_St} {b : hm_B} {Q : hm_Q} (hN : 68 ≤ N) (hq : Q (.inr none) (N, hm_sh L g, (T_153 s))) : R 153 0 (lv_args 0 [.ref 42]) [] (N, hm_sh L g, s) b Q := by
  unfold T_153 at hq
  show R 153 0 [(0, .ref 42)] [] (N, hm_sh L g, s) _ Q
  refine hm_st hR (hm_st hR (hm_st hR (hm_st hR ⟨rfl, hm_le rfl, (hm_ltN hN rfl), hm_st hR (?_)⟩)))
  show R 153 7 [(2, .int (s 42 4)), (1, .int 0), (0, .ref 42)] [] (N, hm_sh L g, s) _ Q
  exact lp_153_7 hR hN _ _ _ _ (Nat.lt_succ_self _) hq
def T_152_7 : Nat → hm_St → Int32 → Int32 → (Int32 × hm_St)
  | 0, s, _, _ => (0, s)
  | n + 1, s, v1, v2 => (if (s 42 2) ≤ v2 then (v1, (T_153 (hm_w1 s 42 5 0))) else (if (T_178 s 44 1024 v2) = (-2) then (T_152_7 n (T_179 s 44 1024 v2 (-1)) v1 (v2 + 1)) else (T_152_7 n s v1 (v2 + 1))))
/-- CurvekeyHouse$Pages.clean()I -/
def T_152 (s : hm_St) : (Int32 × hm_St) := (T_152_7 (hm_df (s 42 2) 0 + 1) s (s 42 5) 0)
theorem N_152_7 {c j : Nat} (h42 : c ≠ 42) (h44 : c ≠ 44) (h46 : c ≠ 46) : ∀ (n : Nat) (s : hm_St) (v0 v1 : Int32), (T_152_7  n s v0 v1).2 c j = s c j := by
  intro n
  induction n with
  | zero => intros; rfl
  | succ n ih =>
    intros
    unfold T_152_7
    repeat' split
    all_goals first | with_reducible rfl | simp only [ih, hm_w1n h42, hm_w1n h44, hm_w1n h46, N_153 h42 h46, N_179 h42, N_179 h44, N_179 h46]
theorem N_152 {c j : Nat} (h42 : c ≠ 42) (h44 : c ≠ 44) (h46 : c ≠ 46) {s : hm_St} : (T_152 s).2 c j = s c j := by
  unfold T_152
  repeat' split
  all_goals first | with_reducible rfl | simp only [hm_w1n h42, hm_w1n h44, hm_w1n h46, N_153 h42 h46, N_179 h42, N_179 h44, N_179 h46, N_152_7 h42 h44 h46]
set_option maxRecDepth 20000 in
theorem lp_152_7 {R : hm_R} (hR : hm_Cm R) {N L : Nat} {g : Nat → hm_Sh} {b : hm_B} {Q : hm_Q} (hN : 68 ≤ N) : ∀ (n : Nat) (s : hm_St) (v1 : Int32) (v2 : Int32), hm_df (s 42 2) v2 < n → (hq : Q (.inr (some (.int (T_152_7 n s v1 v2).1))) (N, hm_sh L g, (T_152_7 n s v1 v2).2)) → R 152 7 [(2, .int v2), (1, .int v1), (0, .ref 42)] [] (N, hm_sh L g, s) b Q := by
  intro n
  induction n with
  | zero => intro s v1 v2 hm _; exact absurd hm (Nat.not_lt_zero _)
  | succ n ih =>
    intro s v1 v2 hm hq
    unfold T_152_7 at hq
    refine hm_st hR (hm_st hR (hm_st hR ⟨rfl, hm_le rfl, (hm_ltN hN rfl), ?_⟩))
    show R 152 12 [(2, .int v2), (1, .int v1), (0, .ref 42)] [.int (s 42 2), .int v2] (N, hm_sh L g, s) _ Q
    refine hm_st hR ⟨fun c12 => ?_, fun c12 => ?_⟩
    · rw [if_pos c12] at hq
      show R 152 43 [(2, .int v2), (1, .int v1), (0, .ref 42)] [] (N, hm_sh L g, s) _ Q
      refine hm_st hR (hm_st hR (hm_st hR ⟨rfl, rfl, hm_le rfl, (hm_ltN hN rfl), ?_⟩))
      show R 152 48 [(2, .int v2), (1, .int v1), (0, .ref 42)] [] (N, hm_sh L g, (hm_w1 s 42 5 0)) _ Q
      refine hm_st hR (?_)
      refine hm_st hR ⟨hm_le rfl, rfl, (hm_le rfl), (hm_ltN hN rfl), hm_le rfl, hm_le rfl, (0, 0), Nat.zero_le _, Nat.zero_le _, ?_⟩
      refine sp_153 hR hN ?_
      show R 152 52 [(2, .int v2), (1, .int v1), (0, .ref 42)] [] (N, hm_sh L g, (T_153 (hm_w1 s 42 5 0))) _ Q
      refine hm_st hR (?_)
      exact hm_st hR ⟨fun z => absurd z (by decide), hm_pqi hq⟩
    · rw [if_neg c12] at hq
      show R 152 15 [(2, .int v2), (1, .int v1), (0, .ref 42)] [] (N, hm_sh L g, s) _ Q
      refine hm_st hR (hm_st hR ⟨rfl, hm_le rfl, (hm_ltN hN rfl), hm_st hR (?_)⟩)
      refine hm_st hR ⟨hm_le rfl, rfl, (hm_le rfl), (hm_ltN hN rfl), hm_le rfl, hm_le rfl, (0, 0), Nat.zero_le _, Nat.zero_le _, ?_⟩
      refine sp_178 hR hN (rr := 43) (aa := 44) (nn := 1024) rfl rfl (hm_le rfl) (hm_ltN hN rfl) rfl rfl (hm_le rfl) (hm_ltN hN rfl) (by decide) ?_
      show R 152 23 [(2, .int v2), (1, .int v1), (0, .ref 42)] [.int (T_178 s 44 1024 v2)] (N, hm_sh L g, s) _ Q
      refine hm_st hR (?_)
      show R 152 25 [(2, .int v2), (1, .int v1), (0, .ref 42)] [.int (-2), .int (T_178 s 44 1024 v2)] (N, hm_sh L g, s) _ Q
      refine hm_st hR ⟨fun c25 => ?_, fun c25 => ?_⟩
      · rw [if_neg c25] at hq
        show R 152 37 [(2, .int v2), (1, .int v1), (0, .ref 42)] [] (N, hm_sh L g, s) _ Q
        refine hm_st hR (hm_st hR (?_))
        show R 152 7 [(2, .int (v2 + 1)), (1, .int v1), (0, .ref 42)] [] (N, hm_sh L g, s) _ Q
        exact hm_lvS hR (by intro q hq; simp only [List.mem_cons, List.not_mem_nil, or_false] at hq ⊢; rcases hq with rfl | rfl | rfl <;> simp) (ih s v1 (v2 + 1) (by first | with_reducible exact hm_dcx c12 hm | exact hm_dcE (N_179 (c := 42) (aa := 44) (by decide)) (hm_dcx c12 hm)) hq)
      · rw [if_pos c25] at hq
        show R 152 28 [(2, .int v2), (1, .int v1), (0, .ref 42)] [] (N, hm_sh L g, s) _ Q
        refine hm_st hR (hm_st hR ⟨rfl, hm_le rfl, (hm_ltN hN rfl), hm_st hR (hm_st hR (?_))⟩)
        refine hm_st hR ⟨hm_le rfl, rfl, (hm_le rfl), (hm_ltN hN rfl), hm_le rfl, hm_le rfl, (0, 0), Nat.zero_le _, Nat.zero_le _, ?_⟩
        refine sp_179 hR hN (rr := 43) (aa := 44) (nn := 1024) rfl rfl (hm_le rfl) (hm_ltN hN rfl) rfl rfl (hm_le rfl) (hm_ltN hN rfl) (by decide) ?_
        show R 152 37 [(2, .int v2), (1, .int v1), (0, .ref 42)] [] (N, hm_sh L g, (T_179 s 44 1024 v2 (-1))) _ Q
        refine hm_st hR (hm_st hR (?_))
        show R 152 7 [(2, .int (v2 + 1)), (1, .int v1), (0, .ref 42)] [] (N, hm_sh L g, (T_179 s 44 1024 v2 (-1))) _ Q
        exact hm_lvS hR (by intro q hq; simp only [List.mem_cons, List.not_mem_nil, or_false] at hq ⊢; rcases hq with rfl | rfl | rfl <;> simp) (ih (T_179 s 44 1024 v2 (-1)) v1 (v2 + 1) (by first | with_reducible exact hm_dcx c12 hm | exact hm_dcE (N_179 (c := 42) (aa := 44) (by decide)) (hm_dcx c12 hm)) hq)
set_option maxRecDepth 20000 in
theorem sp_152 {R : hm_R} (hR : hm_Cm R) {N L : Nat} {g : Nat → hm_Sh} {s : hm_St} {b : hm_B} {Q : hm_Q} (hN : 68 ≤ N) (hq : Q (.inr (some (.int (T_152 s).1))) (N, hm_sh L g, (T_152 s).2)) : R 152 0 (lv_args 0 [.ref 42]) [] (N, hm_sh L g, s) b Q := by
  unfold T_152 at hq
  show R 152 0 [(0, .ref 42)] [] (N, hm_sh L g, s) _ Q
  refine hm_st hR (hm_st hR ⟨rfl, hm_le rfl, (hm_ltN hN rfl), hm_st hR (hm_st hR (hm_st hR (?_)))⟩)
  show R 152 7 [(2, .int 0), (1, .int (s 42 5)), (0, .ref 42)] [] (N, hm_sh L g, s) _ Q
  exact lp_152_7 hR hN _ _ _ _ (Nat.lt_succ_self _) hq
/-- CurvekeyHouse.sweep()I -/
def T_9 (s : hm_St) : (Int32 × hm_St) := ((T_152 s).1, (T_152 s).2)
theorem N_9 {c j : Nat} (h42 : c ≠ 42) (h44 : c ≠ 44) (h46 : c ≠ 46) {s : hm_St} : (T_9 s).2 c j = s c j := by
  unfold T_9
  repeat' split
  all_goals first | with_reducible rfl | simp only [hm_w1n h42, hm_w1n h44, hm_w1n h46, N_152 h42 h44 h46]
set_option maxRecDepth 20000 in
theorem sp_9 {R : hm_R} (hR : hm_Cm R) {N L : Nat} {g : Nat → hm_Sh} {s : hm_St} {b : hm_B} {Q : hm_Q} (hN : 68 ≤ N) (hq : Q (.inr (some (.int (T_9 s).1))) (N, hm_sh L g, (T_9 s).2)) : R 9 0 (lv_args 0 [.ref 2]) [] (N, hm_sh L g, s) b Q := by
  unfold T_9 at hq
  show R 9 0 [(0, .ref 2)] [] (N, hm_sh L g, s) _ Q
  refine hm_st hR (hm_st hR ⟨rfl, hm_le rfl, (hm_ltN hN rfl), ?_⟩)
  refine hm_st hR ⟨hm_le rfl, rfl, (hm_le rfl), (hm_ltN hN rfl), hm_le rfl, hm_le rfl, (0, 0), Nat.zero_le _, Nat.zero_le _, ?_⟩
  refine sp_152 hR hN ?_
  show R 9 7 [(0, .ref 2)] [.int (T_152 s).1] (N, hm_sh L g, (T_152 s).2) _ Q
  exact hm_st hR ⟨fun z => absurd z (by decide), hm_pqi hq⟩
/-- CurvekeyHouse.keyOfPoint(I)I -/
def T_40 (s : hm_St) (p1 : Int32) : Int32 := (T_39 s (T_161 s p1) (T_162 s p1))
set_option maxRecDepth 20000 in
theorem sp_40 {R : hm_R} (hR : hm_Cm R) {N L : Nat} {g : Nat → hm_Sh} {s : hm_St} {b : hm_B} {Q : hm_Q} (hN : 68 ≤ N) {p1 : Int32} (hq : Q (.inr (some (.int (T_40 s p1)))) (N, hm_sh L g, s)) : R 40 0 (lv_args 0 [.ref 2, .int p1]) [] (N, hm_sh L g, s) b Q := by
  unfold T_40 at hq
  show R 40 0 [(0, .ref 2), (1, .int p1)] [] (N, hm_sh L g, s) _ Q
  refine hm_st hR (hm_st hR (hm_st hR ⟨rfl, hm_le rfl, (hm_ltN hN rfl), hm_st hR (?_)⟩))
  refine hm_st hR ⟨hm_le rfl, rfl, (hm_le rfl), (hm_ltN hN rfl), hm_le rfl, hm_le rfl, (0, 0), Nat.zero_le _, Nat.zero_le _, ?_⟩
  refine sp_161 hR hN ?_
  show R 40 9 [(0, .ref 2), (1, .int p1)] [.int (T_161 s p1), .ref 2] (N, hm_sh L g, s) _ Q
  refine hm_st hR (hm_st hR ⟨rfl, hm_le rfl, (hm_ltN hN rfl), hm_st hR (?_)⟩)
  refine hm_st hR ⟨hm_le rfl, rfl, (hm_le rfl), (hm_ltN hN rfl), hm_le rfl, hm_le rfl, (0, 0), Nat.zero_le _, Nat.zero_le _, ?_⟩
  refine sp_162 hR hN ?_
  show R 40 17 [(0, .ref 2), (1, .int p1)] [.int (T_162 s p1), .int (T_161 s p1), .ref 2] (N, hm_sh L g, s) _ Q
  refine hm_st hR ⟨hm_le rfl, rfl, (hm_le rfl), (hm_ltN hN rfl), hm_le rfl, hm_le rfl, (0, 0), Nat.zero_le _, Nat.zero_le _, ?_⟩
  refine sp_39 hR hN ?_
  show R 40 20 [(0, .ref 2), (1, .int p1)] [.int (T_39 s (T_161 s p1) (T_162 s p1))] (N, hm_sh L g, s) _ Q
  exact hm_st hR ⟨fun z => absurd z (by decide), hq⟩
/-- CurvekeyHouse$History.spellsOf(I)I -/
def T_114 (s : hm_St) (p1 : Int32) : Int32 := (T_178 s 37 80 p1)
set_option maxRecDepth 20000 in
theorem sp_114 {R : hm_R} (hR : hm_Cm R) {N L : Nat} {g : Nat → hm_Sh} {s : hm_St} {b : hm_B} {Q : hm_Q} (hN : 68 ≤ N) {p1 : Int32} (hq : Q (.inr (some (.int (T_114 s p1)))) (N, hm_sh L g, s)) : R 114 0 (lv_args 0 [.ref 25, .int p1]) [] (N, hm_sh L g, s) b Q := by
  unfold T_114 at hq
  show R 114 0 [(0, .ref 25), (1, .int p1)] [] (N, hm_sh L g, s) _ Q
  refine hm_st hR (hm_st hR ⟨rfl, hm_le rfl, (hm_ltN hN rfl), hm_st hR (?_)⟩)
  refine hm_st hR ⟨hm_le rfl, rfl, (hm_le rfl), (hm_ltN hN rfl), hm_le rfl, hm_le rfl, (0, 0), Nat.zero_le _, Nat.zero_le _, ?_⟩
  refine sp_178 hR hN (rr := 36) (aa := 37) (nn := 80) rfl rfl (hm_le rfl) (hm_ltN hN rfl) rfl rfl (hm_le rfl) (hm_ltN hN rfl) (by decide) ?_
  show R 114 8 [(0, .ref 25), (1, .int p1)] [.int (T_178 s 37 80 p1)] (N, hm_sh L g, s) _ Q
  exact hm_st hR ⟨fun z => absurd z (by decide), hq⟩
/-- CurvekeyHouse$History.birthOf(I)I -/
def T_115 (s : hm_St) (p1 : Int32) : Int32 := (T_178 s 39 80 p1)
set_option maxRecDepth 20000 in
theorem sp_115 {R : hm_R} (hR : hm_Cm R) {N L : Nat} {g : Nat → hm_Sh} {s : hm_St} {b : hm_B} {Q : hm_Q} (hN : 68 ≤ N) {p1 : Int32} (hq : Q (.inr (some (.int (T_115 s p1)))) (N, hm_sh L g, s)) : R 115 0 (lv_args 0 [.ref 25, .int p1]) [] (N, hm_sh L g, s) b Q := by
  unfold T_115 at hq
  show R 115 0 [(0, .ref 25), (1, .int p1)] [] (N, hm_sh L g, s) _ Q
  refine hm_st hR (hm_st hR ⟨rfl, hm_le rfl, (hm_ltN hN rfl), hm_st hR (?_)⟩)
  refine hm_st hR ⟨hm_le rfl, rfl, (hm_le rfl), (hm_ltN hN rfl), hm_le rfl, hm_le rfl, (0, 0), Nat.zero_le _, Nat.zero_le _, ?_⟩
  refine sp_178 hR hN (rr := 38) (aa := 39) (nn := 80) rfl rfl (hm_le rfl) (hm_ltN hN rfl) rfl rfl (hm_le rfl) (hm_ltN hN rfl) (by decide) ?_
  show R 115 8 [(0, .ref 25), (1, .int p1)] [.int (T_178 s 39 80 p1)] (N, hm_sh L g, s) _ Q
  exact hm_st hR ⟨fun z => absurd z (by decide), hq⟩
/-- CurvekeyHouse$History.endOf(I)I -/
def T_116 (s : hm_St) (p1 : Int32) : Int32 := (T_178 s 41 80 p1)
set_option maxRecDepth 20000 in
theorem sp_116 {R : hm_R} (hR : hm_Cm R) {N L : Nat} {g : Nat → hm_Sh} {s : hm_St} {b : hm_B} {Q : hm_Q} (hN : 68 ≤ N) {p1 : Int32} (hq : Q (.inr (some (.int (T_116 s p1)))) (N, hm_sh L g, s)) : R 116 0 (lv_args 0 [.ref 25, .int p1]) [] (N, hm_sh L g, s) b Q := by
  unfold T_116 at hq
  show R 116 0 [(0, .ref 25), (1, .int p1)] [] (N, hm_sh L g, s) _ Q
  refine hm_st hR (hm_st hR ⟨rfl, hm_le rfl, (hm_ltN hN rfl), hm_st hR (?_)⟩)
  refine hm_st hR ⟨hm_le rfl, rfl, (hm_le rfl), (hm_ltN hN rfl), hm_le rfl, hm_le rfl, (0, 0), Nat.zero_le _, Nat.zero_le _, ?_⟩
  refine sp_178 hR hN (rr := 40) (aa := 41) (nn := 80) rfl rfl (hm_le rfl) (hm_ltN hN rfl) rfl rfl (hm_le rfl) (hm_ltN hN rfl) (by decide) ?_
  show R 116 8 [(0, .ref 25), (1, .int p1)] [.int (T_178 s 41 80 p1)] (N, hm_sh L g, s) _ Q
  exact hm_st hR ⟨fun z => absurd z (by decide), hq⟩
/-- CurvekeyHouse$Points.speedX(I)I -/
def T_163 (s : hm_St) (p1 : Int32) : Int32 := (T_178 s 22 80 p1)
set_option maxRecDepth 20000 in
theorem sp_163 {R : hm_R} (hR : hm_Cm R) {N L : Nat} {g : Nat → hm_Sh} {s : hm_St} {b : hm_B} {Q : hm_Q} (hN : 68 ≤ N) {p1 : Int32} (hq : Q (.inr (some (.int (T_163 s p1)))) (N, hm_sh L g, s)) : R 163 0 (lv_args 0 [.ref 14, .int p1]) [] (N, hm_sh L g, s) b Q := by
  unfold T_163 at hq
  show R 163 0 [(0, .ref 14), (1, .int p1)] [] (N, hm_sh L g, s) _ Q
  refine hm_st hR (hm_st hR ⟨rfl, hm_le rfl, (hm_ltN hN rfl), hm_st hR (?_)⟩)
  refine hm_st hR ⟨hm_le rfl, rfl, (hm_le rfl), (hm_ltN hN rfl), hm_le rfl, hm_le rfl, (0, 0), Nat.zero_le _, Nat.zero_le _, ?_⟩
  refine sp_178 hR hN (rr := 21) (aa := 22) (nn := 80) rfl rfl (hm_le rfl) (hm_ltN hN rfl) rfl rfl (hm_le rfl) (hm_ltN hN rfl) (by decide) ?_
  show R 163 8 [(0, .ref 14), (1, .int p1)] [.int (T_178 s 22 80 p1)] (N, hm_sh L g, s) _ Q
  exact hm_st hR ⟨fun z => absurd z (by decide), hq⟩
/-- CurvekeyHouse$Points.speedY(I)I -/
def T_164 (s : hm_St) (p1 : Int32) : Int32 := (T_178 s 24 80 p1)
set_option maxRecDepth 20000 in
theorem sp_164 {R : hm_R} (hR : hm_Cm R) {N L : Nat} {g : Nat → hm_Sh} {s : hm_St} {b : hm_B} {Q : hm_Q} (hN : 68 ≤ N) {p1 : Int32} (hq : Q (.inr (some (.int (T_164 s p1)))) (N, hm_sh L g, s)) : R 164 0 (lv_args 0 [.ref 14, .int p1]) [] (N, hm_sh L g, s) b Q := by
  unfold T_164 at hq
  show R 164 0 [(0, .ref 14), (1, .int p1)] [] (N, hm_sh L g, s) _ Q
  refine hm_st hR (hm_st hR ⟨rfl, hm_le rfl, (hm_ltN hN rfl), hm_st hR (?_)⟩)
  refine hm_st hR ⟨hm_le rfl, rfl, (hm_le rfl), (hm_ltN hN rfl), hm_le rfl, hm_le rfl, (0, 0), Nat.zero_le _, Nat.zero_le _, ?_⟩
  refine sp_178 hR hN (rr := 23) (aa := 24) (nn := 80) rfl rfl (hm_le rfl) (hm_ltN hN rfl) rfl rfl (hm_le rfl) (hm_ltN hN rfl) (by decide) ?_
  show R 164 8 [(0, .ref 14), (1, .int p1)] [.int (T_178 s 24 80 p1)] (N, hm_sh L g, s) _ Q
  exact hm_st hR ⟨fun z => absurd z (by decide), hq⟩
/-- CurvekeyHouse.pointFact(II)I -/
def T_53 (s : hm_St) (p1 : Int32) (p2 : Int32) : Int32 := (if p2 = 0 then (T_161 s p1) else (if p2 = 1 then (T_162 s p1) else (if p2 = 2 then (T_40 s p1) else (if p2 = 3 then (if (T_160 s p1) = 0 then (0 : Int32) else 1) else (if p2 = 4 then (T_114 s p1) else (if p2 = 5 then (T_115 s p1) else (if p2 = 6 then (T_116 s p1) else (if p2 = 7 then (if (T_160 s p1) = 0 then (-1) else (T_139 s (T_40 s p1))) else (if p2 = 8 then (T_163 s p1) else (T_164 s p1))))))))))
set_option maxRecDepth 20000 in
theorem sp_53 {R : hm_R} (hR : hm_Cm R) {N L : Nat} {g : Nat → hm_Sh} {s : hm_St} {b : hm_B} {Q : hm_Q} (hN : 68 ≤ N) {p1 : Int32} {p2 : Int32} (hq : Q (.inr (some (.int (T_53 s p1 p2)))) (N, hm_sh L g, s)) : R 53 0 (lv_args 0 [.ref 2, .int p1, .int p2]) [] (N, hm_sh L g, s) b Q := by
  unfold T_53 at hq
  show R 53 0 [(0, .ref 2), (1, .int p1), (2, .int p2)] [] (N, hm_sh L g, s) _ Q
  refine hm_st hR (?_)
  show R 53 1 [(0, .ref 2), (1, .int p1), (2, .int p2)] [.int p2] (N, hm_sh L g, s) _ Q
  by_cases w1_0 : p2 = 0
  · rw [if_pos w1_0] at hq
    refine hm_tsS hR 52 (by rfl) (by rw [w1_0]; rfl) ?_
    show R 53 52 [(0, .ref 2), (1, .int p1), (2, .int p2)] [] (N, hm_sh L g, s) _ Q
    refine hm_st hR (hm_st hR ⟨rfl, hm_le rfl, (hm_ltN hN rfl), hm_st hR (?_)⟩)
    refine hm_st hR ⟨hm_le rfl, rfl, (hm_le rfl), (hm_ltN hN rfl), hm_le rfl, hm_le rfl, (0, 0), Nat.zero_le _, Nat.zero_le _, ?_⟩
    refine sp_161 hR hN ?_
    show R 53 60 [(0, .ref 2), (1, .int p1), (2, .int p2)] [.int (T_161 s p1)] (N, hm_sh L g, s) _ Q
    exact hm_st hR ⟨fun z => absurd z (by decide), hq⟩
  rw [if_neg w1_0] at hq
  by_cases w1_1 : p2 = 1
  · rw [if_pos w1_1] at hq
    refine hm_tsS hR 61 (by rfl) (by rw [w1_1]; rfl) ?_
    show R 53 61 [(0, .ref 2), (1, .int p1), (2, .int p2)] [] (N, hm_sh L g, s) _ Q
    refine hm_st hR (hm_st hR ⟨rfl, hm_le rfl, (hm_ltN hN rfl), hm_st hR (?_)⟩)
    refine hm_st hR ⟨hm_le rfl, rfl, (hm_le rfl), (hm_ltN hN rfl), hm_le rfl, hm_le rfl, (0, 0), Nat.zero_le _, Nat.zero_le _, ?_⟩
    refine sp_162 hR hN ?_
    show R 53 69 [(0, .ref 2), (1, .int p1), (2, .int p2)] [.int (T_162 s p1)] (N, hm_sh L g, s) _ Q
    exact hm_st hR ⟨fun z => absurd z (by decide), hq⟩
  rw [if_neg w1_1] at hq
  by_cases w1_2 : p2 = 2
  · rw [if_pos w1_2] at hq
    refine hm_tsS hR 70 (by rfl) (by rw [w1_2]; rfl) ?_
    show R 53 70 [(0, .ref 2), (1, .int p1), (2, .int p2)] [] (N, hm_sh L g, s) _ Q
    refine hm_st hR (hm_st hR (?_))
    refine hm_st hR ⟨hm_le rfl, rfl, (hm_le rfl), (hm_ltN hN rfl), hm_le rfl, hm_le rfl, (0, 0), Nat.zero_le _, Nat.zero_le _, ?_⟩
    refine sp_40 hR hN ?_
    show R 53 75 [(0, .ref 2), (1, .int p1), (2, .int p2)] [.int (T_40 s p1)] (N, hm_sh L g, s) _ Q
    exact hm_st hR ⟨fun z => absurd z (by decide), hq⟩
  rw [if_neg w1_2] at hq
  by_cases w1_3 : p2 = 3
  · rw [if_pos w1_3] at hq
    refine hm_tsS hR 76 (by rfl) (by rw [w1_3]; rfl) ?_
    show R 53 76 [(0, .ref 2), (1, .int p1), (2, .int p2)] [] (N, hm_sh L g, s) _ Q
    refine hm_st hR (hm_st hR ⟨rfl, hm_le rfl, (hm_ltN hN rfl), hm_st hR (?_)⟩)
    refine hm_st hR ⟨hm_le rfl, rfl, (hm_le rfl), (hm_ltN hN rfl), hm_le rfl, hm_le rfl, (0, 0), Nat.zero_le _, Nat.zero_le _, ?_⟩
    refine sp_160 hR hN ?_
    show R 53 84 [(0, .ref 2), (1, .int p1), (2, .int p2)] [.int (T_160 s p1)] (N, hm_sh L g, s) _ Q
    show R 53 84 [(0, .ref 2), (1, .int p1), (2, .int p2)] [.int (T_160 s p1)] (N, hm_sh L g, s) _ Q
    suffices G : ∀ w : Int32, w = (if (T_160 s p1) = 0 then (0 : Int32) else 1) → R 53 92 [(0, .ref 2), (1, .int p1), (2, .int p2)] [.int w] (N, hm_sh L g, s) (b.1 - 0 - 0 - 0 - 0, b.2 - 0 - 0 - 0 - 0) Q by
      show R 53 84 [(0, .ref 2), (1, .int p1), (2, .int p2)] [.int (T_160 s p1)] (N, hm_sh L g, s) _ Q
      refine hm_st hR ⟨fun c => ?_, fun c => ?_⟩
      · exact hm_st hR (G _ (if_pos c).symm)
      · exact hm_st hR (hm_st hR (G _ (if_neg c).symm))
    intro w hw
    subst hw
    show R 53 92 [(0, .ref 2), (1, .int p1), (2, .int p2)] [.int (if (T_160 s p1) = 0 then (0 : Int32) else 1)] (N, hm_sh L g, s) _ Q
    exact hm_st hR ⟨fun z => absurd z (by decide), hq⟩
  rw [if_neg w1_3] at hq
  by_cases w1_4 : p2 = 4
  · rw [if_pos w1_4] at hq
    refine hm_tsS hR 93 (by rfl) (by rw [w1_4]; rfl) ?_
    show R 53 93 [(0, .ref 2), (1, .int p1), (2, .int p2)] [] (N, hm_sh L g, s) _ Q
    refine hm_st hR (hm_st hR ⟨rfl, hm_le rfl, (hm_ltN hN rfl), hm_st hR (?_)⟩)
    refine hm_st hR ⟨hm_le rfl, rfl, (hm_le rfl), (hm_ltN hN rfl), hm_le rfl, hm_le rfl, (0, 0), Nat.zero_le _, Nat.zero_le _, ?_⟩
    refine sp_114 hR hN ?_
    show R 53 101 [(0, .ref 2), (1, .int p1), (2, .int p2)] [.int (T_114 s p1)] (N, hm_sh L g, s) _ Q
    exact hm_st hR ⟨fun z => absurd z (by decide), hq⟩
  rw [if_neg w1_4] at hq
  by_cases w1_5 : p2 = 5
  · rw [if_pos w1_5] at hq
    refine hm_tsS hR 102 (by rfl) (by rw [w1_5]; rfl) ?_
    show R 53 102 [(0, .ref 2), (1, .int p1), (2, .int p2)] [] (N, hm_sh L g, s) _ Q
    refine hm_st hR (hm_st hR ⟨rfl, hm_le rfl, (hm_ltN hN rfl), hm_st hR (?_)⟩)
    refine hm_st hR ⟨hm_le rfl, rfl, (hm_le rfl), (hm_ltN hN rfl), hm_le rfl, hm_le rfl, (0, 0), Nat.zero_le _, Nat.zero_le _, ?_⟩
    refine sp_115 hR hN ?_
    show R 53 110 [(0, .ref 2), (1, .int p1), (2, .int p2)] [.int (T_115 s p1)] (N, hm_sh L g, s) _ Q
    exact hm_st hR ⟨fun z => absurd z (by decide), hq⟩
  rw [if_neg w1_5] at hq
  by_cases w1_6 : p2 = 6
  · rw [if_pos w1_6] at hq
    refine hm_tsS hR 111 (by rfl) (by rw [w1_6]; rfl) ?_
    show R 53 111 [(0, .ref 2), (1, .int p1), (2, .int p2)] [] (N, hm_sh L g, s) _ Q
    refine hm_st hR (hm_st hR ⟨rfl, hm_le rfl, (hm_ltN hN rfl), hm_st hR (?_)⟩)
    refine hm_st hR ⟨hm_le rfl, rfl, (hm_le rfl), (hm_ltN hN rfl), hm_le rfl, hm_le rfl, (0, 0), Nat.zero_le _, Nat.zero_le _, ?_⟩
    refine sp_116 hR hN ?_
    show R 53 119 [(0, .ref 2), (1, .int p1), (2, .int p2)] [.int (T_116 s p1)] (N, hm_sh L g, s) _ Q
    exact hm_st hR ⟨fun z => absurd z (by decide), hq⟩
  rw [if_neg w1_6] at hq
  by_cases w1_7 : p2 = 7
  · rw [if_pos w1_7] at hq
    refine hm_tsS hR 120 (by rfl) (by rw [w1_7]; rfl) ?_
    show R 53 120 [(0, .ref 2), (1, .int p1), (2, .int p2)] [] (N, hm_sh L g, s) _ Q
    refine hm_st hR (hm_st hR ⟨rfl, hm_le rfl, (hm_ltN hN rfl), hm_st hR (?_)⟩)
    refine hm_st hR ⟨hm_le rfl, rfl, (hm_le rfl), (hm_ltN hN rfl), hm_le rfl, hm_le rfl, (0, 0), Nat.zero_le _, Nat.zero_le _, ?_⟩
    refine sp_160 hR hN ?_
    show R 53 128 [(0, .ref 2), (1, .int p1), (2, .int p2)] [.int (T_160 s p1)] (N, hm_sh L g, s) _ Q
    show R 53 128 [(0, .ref 2), (1, .int p1), (2, .int p2)] [.int (T_160 s p1)] (N, hm_sh L g, s) _ Q
    refine hm_st hR ⟨fun c128 => ?_, fun c128 => ?_⟩
    · rw [if_pos c128] at hq
      show R 53 146 [(0, .ref 2), (1, .int p1), (2, .int p2)] [] (N, hm_sh L g, s) _ Q
      refine hm_st hR (?_)
      exact hm_st hR ⟨fun z => absurd z (by decide), hq⟩
    · rw [if_neg c128] at hq
      show R 53 131 [(0, .ref 2), (1, .int p1), (2, .int p2)] [] (N, hm_sh L g, s) _ Q
      refine hm_st hR (hm_st hR ⟨rfl, hm_le rfl, (hm_ltN hN rfl), hm_st hR (hm_st hR (?_))⟩)
      refine hm_st hR ⟨hm_le rfl, rfl, (hm_le rfl), (hm_ltN hN rfl), hm_le rfl, hm_le rfl, (0, 0), Nat.zero_le _, Nat.zero_le _, ?_⟩
      refine sp_40 hR hN ?_
      show R 53 140 [(0, .ref 2), (1, .int p1), (2, .int p2)] [.int (T_40 s p1), .ref 42] (N, hm_sh L g, s) _ Q
      refine hm_st hR ⟨hm_le rfl, rfl, (hm_le rfl), (hm_ltN hN rfl), hm_le rfl, hm_le rfl, (0, 0), Nat.zero_le _, Nat.zero_le _, ?_⟩
      refine sp_139 hR hN ?_
      show R 53 143 [(0, .ref 2), (1, .int p1), (2, .int p2)] [.int (T_139 s (T_40 s p1))] (N, hm_sh L g, s) _ Q
      refine hm_st hR (?_)
      exact hm_st hR ⟨fun z => absurd z (by decide), hq⟩
  rw [if_neg w1_7] at hq
  by_cases w1_8 : p2 = 8
  · rw [if_pos w1_8] at hq
    refine hm_tsS hR 148 (by rfl) (by rw [w1_8]; rfl) ?_
    show R 53 148 [(0, .ref 2), (1, .int p1), (2, .int p2)] [] (N, hm_sh L g, s) _ Q
    refine hm_st hR (hm_st hR ⟨rfl, hm_le rfl, (hm_ltN hN rfl), hm_st hR (?_)⟩)
    refine hm_st hR ⟨hm_le rfl, rfl, (hm_le rfl), (hm_ltN hN rfl), hm_le rfl, hm_le rfl, (0, 0), Nat.zero_le _, Nat.zero_le _, ?_⟩
    refine sp_163 hR hN ?_
    show R 53 156 [(0, .ref 2), (1, .int p1), (2, .int p2)] [.int (T_163 s p1)] (N, hm_sh L g, s) _ Q
    exact hm_st hR ⟨fun z => absurd z (by decide), hq⟩
  rw [if_neg w1_8] at hq
  refine hm_tsS hR 157 (by rfl) (by exact hm_swD9 w1_0 w1_1 w1_2 w1_3 w1_4 w1_5 w1_6 w1_7 w1_8) ?_
  show R 53 157 [(0, .ref 2), (1, .int p1), (2, .int p2)] [] (N, hm_sh L g, s) _ Q
  refine hm_st hR (hm_st hR ⟨rfl, hm_le rfl, (hm_ltN hN rfl), hm_st hR (?_)⟩)
  refine hm_st hR ⟨hm_le rfl, rfl, (hm_le rfl), (hm_ltN hN rfl), hm_le rfl, hm_le rfl, (0, 0), Nat.zero_le _, Nat.zero_le _, ?_⟩
  refine sp_164 hR hN ?_
  show R 53 165 [(0, .ref 2), (1, .int p1), (2, .int p2)] [.int (T_164 s p1)] (N, hm_sh L g, s) _ Q
  exact hm_st hR ⟨fun z => absurd z (by decide), hq⟩
