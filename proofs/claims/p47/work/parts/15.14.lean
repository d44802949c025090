/-! The methods as functions; the abstract machine does them. -/
/-- CurvekeyHouse$Pages.floorOf(I)I -/
def T_138 (s : hm_St) (p1 : Int32) : Int32 := (T_178 s 46 1025 p1)
set_option maxRecDepth 20000 in
theorem sp_138 {R : hm_R} (hR : hm_Cm R) {N L : Nat} {g : Nat → hm_Sh} {s : hm_St} {b : hm_B} {Q : hm_Q} (hN : 68 ≤ N) {p1 : Int32} (hq : Q (.inr (some (.int (T_138 s p1)))) (N, hm_sh L g, s)) : R 138 0 (lv_args 0 [.ref 42, .int p1]) [] (N, hm_sh L g, s) b Q := by
  unfold T_138 at hq
  show R 138 0 [(0, .ref 42), (1, .int p1)] [] (N, hm_sh L g, s) _ Q
  refine hm_st hR (hm_st hR ⟨rfl, hm_le rfl, (hm_ltN hN rfl), hm_st hR (?_)⟩)
  refine hm_st hR ⟨hm_le rfl, rfl, (hm_le rfl), (hm_ltN hN rfl), hm_le rfl, hm_le rfl, (0, 0), Nat.zero_le _, Nat.zero_le _, ?_⟩
  refine sp_178 hR hN (rr := 45) (aa := 46) (nn := 1025) rfl rfl (hm_le rfl) (hm_ltN hN rfl) rfl rfl (hm_le rfl) (hm_ltN hN rfl) (by decide) ?_
  show R 138 8 [(0, .ref 42), (1, .int p1)] [.int (T_178 s 46 1025 p1)] (N, hm_sh L g, s) _ Q
  exact hm_st hR ⟨fun z => absurd z (by decide), hq⟩
/-- CurvekeyHouse$Pages.firstIn(I)I -/
def T_143 (s : hm_St) (p1 : Int32) : Int32 := (T_145 s p1 0)
set_option maxRecDepth 20000 in
theorem sp_143 {R : hm_R} (hR : hm_Cm R) {N L : Nat} {g : Nat → hm_Sh} {s : hm_St} {b : hm_B} {Q : hm_Q} (hN : 68 ≤ N) {p1 : Int32} (hq : Q (.inr (some (.int (T_143 s p1)))) (N, hm_sh L g, s)) : R 143 0 (lv_args 0 [.ref 42, .int p1]) [] (N, hm_sh L g, s) b Q := by
  unfold T_143 at hq
  show R 143 0 [(0, .ref 42), (1, .int p1)] [] (N, hm_sh L g, s) _ Q
  refine hm_st hR (hm_st hR (hm_st hR (?_)))
  refine hm_st hR ⟨hm_le rfl, rfl, (hm_le rfl), (hm_ltN hN rfl), hm_le rfl, hm_le rfl, (0, 0), Nat.zero_le _, Nat.zero_le _, ?_⟩
  refine sp_145 hR hN ?_
  show R 143 6 [(0, .ref 42), (1, .int p1)] [.int (T_145 s p1 0)] (N, hm_sh L g, s) _ Q
  exact hm_st hR ⟨fun z => absurd z (by decide), hq⟩
/-- CurvekeyHouse$Pages.lastIn(I)I -/
def T_144 (s : hm_St) (p1 : Int32) : Int32 := (T_145 s p1 ((T_141 s p1) - 1))
set_option maxRecDepth 20000 in
theorem sp_144 {R : hm_R} (hR : hm_Cm R) {N L : Nat} {g : Nat → hm_Sh} {s : hm_St} {b : hm_B} {Q : hm_Q} (hN : 68 ≤ N) {p1 : Int32} (hq : Q (.inr (some (.int (T_144 s p1)))) (N, hm_sh L g, s)) : R 144 0 (lv_args 0 [.ref 42, .int p1]) [] (N, hm_sh L g, s) b Q := by
  unfold T_144 at hq
  show R 144 0 [(0, .ref 42), (1, .int p1)] [] (N, hm_sh L g, s) _ Q
  refine hm_st hR (hm_st hR (hm_st hR (hm_st hR (?_))))
  refine hm_st hR ⟨hm_le rfl, rfl, (hm_le rfl), (hm_ltN hN rfl), hm_le rfl, hm_le rfl, (0, 0), Nat.zero_le _, Nat.zero_le _, ?_⟩
  refine sp_141 hR hN ?_
  show R 144 7 [(0, .ref 42), (1, .int p1)] [.int (T_141 s p1), .int p1, .ref 42] (N, hm_sh L g, s) _ Q
  refine hm_st hR (hm_st hR (?_))
  refine hm_st hR ⟨hm_le rfl, rfl, (hm_le rfl), (hm_ltN hN rfl), hm_le rfl, hm_le rfl, (0, 0), Nat.zero_le _, Nat.zero_le _, ?_⟩
  refine sp_145 hR hN ?_
  show R 144 12 [(0, .ref 42), (1, .int p1)] [.int (T_145 s p1 ((T_141 s p1) - 1))] (N, hm_sh L g, s) _ Q
  exact hm_st hR ⟨fun z => absurd z (by decide), hq⟩
/-- CurvekeyHouse.pageFact(II)I -/
def T_54 (s : hm_St) (p1 : Int32) (p2 : Int32) : Int32 := (if p2 = 0 then (T_138 s p1) else (if p2 = 1 then (T_141 s p1) else (if p2 = 2 then (T_142 s p1) else (if p2 = 3 then (T_143 s p1) else (if p2 = 4 then (T_144 s p1) else (T_146 s p1 (s 2 9)))))))
set_option maxRecDepth 20000 in
theorem sp_54 {R : hm_R} (hR : hm_Cm R) {N L : Nat} {g : Nat → hm_Sh} {s : hm_St} {b : hm_B} {Q : hm_Q} (hN : 68 ≤ N) {p1 : Int32} {p2 : Int32} (hq : Q (.inr (some (.int (T_54 s p1 p2)))) (N, hm_sh L g, s)) : R 54 0 (lv_args 0 [.ref 2, .int p1, .int p2]) [] (N, hm_sh L g, s) b Q := by
  unfold T_54 at hq
  show R 54 0 [(0, .ref 2), (1, .int p1), (2, .int p2)] [] (N, hm_sh L g, s) _ Q
  refine hm_st hR (?_)
  show R 54 1 [(0, .ref 2), (1, .int p1), (2, .int p2)] [.int p2] (N, hm_sh L g, s) _ Q
  by_cases w1_0 : p2 = 0
  · rw [if_pos w1_0] at hq
    refine hm_tsS hR 36 (by rfl) (by rw [w1_0]; rfl) ?_
    show R 54 36 [(0, .ref 2), (1, .int p1), (2, .int p2)] [] (N, hm_sh L g, s) _ Q
    refine hm_st hR (hm_st hR ⟨rfl, hm_le rfl, (hm_ltN hN rfl), hm_st hR (?_)⟩)
    refine hm_st hR ⟨hm_le rfl, rfl, (hm_le rfl), (hm_ltN hN rfl), hm_le rfl, hm_le rfl, (0, 0), Nat.zero_le _, Nat.zero_le _, ?_⟩
    refine sp_138 hR hN ?_
    show R 54 44 [(0, .ref 2), (1, .int p1), (2, .int p2)] [.int (T_138 s p1)] (N, hm_sh L g, s) _ Q
    exact hm_st hR ⟨fun z => absurd z (by decide), hq⟩
  rw [if_neg w1_0] at hq
  by_cases w1_1 : p2 = 1
  · rw [if_pos w1_1] at hq
    refine hm_tsS hR 45 (by rfl) (by rw [w1_1]; rfl) ?_
    show R 54 45 [(0, .ref 2), (1, .int p1), (2, .int p2)] [] (N, hm_sh L g, s) _ Q
    refine hm_st hR (hm_st hR ⟨rfl, hm_le rfl, (hm_ltN hN rfl), hm_st hR (?_)⟩)
    refine hm_st hR ⟨hm_le rfl, rfl, (hm_le rfl), (hm_ltN hN rfl), hm_le rfl, hm_le rfl, (0, 0), Nat.zero_le _, Nat.zero_le _, ?_⟩
    refine sp_141 hR hN ?_
    show R 54 53 [(0, .ref 2), (1, .int p1), (2, .int p2)] [.int (T_141 s p1)] (N, hm_sh L g, s) _ Q
    exact hm_st hR ⟨fun z => absurd z (by decide), hq⟩
  rw [if_neg w1_1] at hq
  by_cases w1_2 : p2 = 2
  · rw [if_pos w1_2] at hq
    refine hm_tsS hR 54 (by rfl) (by rw [w1_2]; rfl) ?_
    show R 54 54 [(0, .ref 2), (1, .int p1), (2, .int p2)] [] (N, hm_sh L g, s) _ Q
    refine hm_st hR (hm_st hR ⟨rfl, hm_le rfl, (hm_ltN hN rfl), hm_st hR (?_)⟩)
    refine hm_st hR ⟨hm_le rfl, rfl, (hm_le rfl), (hm_ltN hN rfl), hm_le rfl, hm_le rfl, (0, 0), Nat.zero_le _, Nat.zero_le _, ?_⟩
    refine sp_142 hR hN ?_
    show R 54 62 [(0, .ref 2), (1, .int p1), (2, .int p2)] [.int (T_142 s p1)] (N, hm_sh L g, s) _ Q
    exact hm_st hR ⟨fun z => absurd z (by decide), hq⟩
  rw [if_neg w1_2] at hq
  by_cases w1_3 : p2 = 3
  · rw [if_pos w1_3] at hq
    refine hm_tsS hR 63 (by rfl) (by rw [w1_3]; rfl) ?_
    show R 54 63 [(0, .ref 2), (1, .int p1), (2, .int p2)] [] (N, hm_sh L g, s) _ Q
    refine hm_st hR (hm_st hR ⟨rfl, hm_le rfl, (hm_ltN hN rfl), hm_st hR (?_)⟩)
    refine hm_st hR ⟨hm_le rfl, rfl, (hm_le rfl), (hm_ltN hN rfl), hm_le rfl, hm_le rfl, (0, 0), Nat.zero_le _, Nat.zero_le _, ?_⟩
    refine sp_143 hR hN ?_
    show R 54 71 [(0, .ref 2), (1, .int p1), (2, .int p2)] [.int (T_143 s p1)] (N, hm_sh L g, s) _ Q
    exact hm_st hR ⟨fun z => absurd z (by decide), hq⟩
  rw [if_neg w1_3] at hq
  by_cases w1_4 : p2 = 4
  · rw [if_pos w1_4] at hq
    refine hm_tsS hR 72 (by rfl) (by rw [w1_4]; rfl) ?_
    show R 54 72 [(0, .ref 2), (1, .int p1), (2, .int p2)] [] (N, hm_sh L g, s) _ Q
    refine hm_st hR (hm_st hR ⟨rfl, hm_le rfl, (hm_ltN hN rfl), hm_st hR (?_)⟩)
    refine hm_st hR ⟨hm_le rfl, rfl, (hm_le rfl), (hm_ltN hN rfl), hm_le rfl, hm_le rfl, (0, 0), Nat.zero_le _, Nat.zero_le _, ?_⟩
    refine sp_144 hR hN ?_
    show R 54 80 [(0, .ref 2), (1, .int p1), (2, .int p2)] [.int (T_144 s p1)] (N, hm_sh L g, s) _ Q
    exact hm_st hR ⟨fun z => absurd z (by decide), hq⟩
  rw [if_neg w1_4] at hq
  refine hm_tsS hR 81 (by rfl) (by exact hm_swD5 w1_0 w1_1 w1_2 w1_3 w1_4) ?_
  show R 54 81 [(0, .ref 2), (1, .int p1), (2, .int p2)] [] (N, hm_sh L g, s) _ Q
  refine hm_st hR (hm_st hR ⟨rfl, hm_le rfl, (hm_ltN hN rfl), hm_st hR (hm_st hR (hm_st hR ⟨rfl, hm_le rfl, (hm_ltN hN rfl), ?_⟩))⟩)
  refine hm_st hR ⟨hm_le rfl, rfl, (hm_le rfl), (hm_ltN hN rfl), hm_le rfl, hm_le rfl, (0, 0), Nat.zero_le _, Nat.zero_le _, ?_⟩
  refine sp_146 hR hN ?_
  show R 54 93 [(0, .ref 2), (1, .int p1), (2, .int p2)] [.int (T_146 s p1 (s 2 9))] (N, hm_sh L g, s) _ Q
  exact hm_st hR ⟨fun z => absurd z (by decide), hq⟩
def T_63_20 (O : hm_St → Int64 → Int64 → Int32 → Int64) : Nat → hm_St → Int64 → Int64 → Int32 → Int32 → Int64
  | 0, s, _, _, _, _ => 0
  | n + 1, s, v1, v3, v5, v6 => (if 6 ≤ v6 then (O s v1 v3 (v5 + 1)) else (T_63_20 O n s v1 (T_60 s v3 (((T_54 s v5 v6)).toInt64)) v5 (v6 + 1)))
def T_63_5 : Nat → hm_St → Int64 → Int64 → Int32 → Int64
  | 0, s, _, _, _ => 0
  | n + 1, s, v1, v3, v5 => (if (T_133 s) ≤ v5 then v3 else (T_63_20 (fun s v1 v3 v5 => T_63_5 n s v1 v3 v5) (hm_df 6 0 + 1) s v1 v3 v5 0))
/-- CurvekeyHouse.mixPages(J)J -/
def T_63 (s : hm_St) (p1 : Int64) : Int64 := (T_63_5 (hm_df (T_133 s) 0 + 1) s p1 p1 0)
set_option maxRecDepth 20000 in
theorem lp_63_20 {R : hm_R} (hR : hm_Cm R) {N L : Nat} {g : Nat → hm_Sh} {b : hm_B} {Q : hm_Q} (hN : 68 ≤ N) {O : hm_St → Int64 → Int64 → Int32 → Int64} {nO : Nat} (hO : ∀ (s : hm_St) (v1 : Int64) (v3 : Int64) (v5 : Int32), hm_df (T_133 s) v5 < nO → (Q (.inr (some (.long (O s v1 v3 v5)))) (N, hm_sh L g, s)) → R 63 5 [(5, .int v5), (3, .long v3), (0, .ref 2), (1, .long v1)] [] (N, hm_sh L g, s) b Q) : ∀ (n : Nat) (s : hm_St) (v1 : Int64) (v3 : Int64) (v5 : Int32) (v6 : Int32), hm_df 6 v6 < n → (hPO : hm_df (T_133 s) (v5 + 1) < nO) → (hq : Q (.inr (some (.long (T_63_20 O n s v1 v3 v5 v6)))) (N, hm_sh L g, s)) → R 63 20 [(6, .int v6), (5, .int v5), (3, .long v3), (0, .ref 2), (1, .long v1)] [] (N, hm_sh L g, s) b Q := by
  intro n
  induction n with
  | zero => intro s v1 v3 v5 v6 hm hPO _; exact absurd hm (Nat.not_lt_zero _)
  | succ n ih =>
    intro s v1 v3 v5 v6 hm hPO hq
    unfold T_63_20 at hq
    refine hm_st hR (hm_st hR (?_))
    show R 63 24 [(6, .int v6), (5, .int v5), (3, .long v3), (0, .ref 2), (1, .long v1)] [.int 6, .int v6] (N, hm_sh L g, s) _ Q
    refine hm_st hR ⟨fun c24 => ?_, fun c24 => ?_⟩
    · rw [if_pos c24] at hq
      show R 63 47 [(6, .int v6), (5, .int v5), (3, .long v3), (0, .ref 2), (1, .long v1)] [] (N, hm_sh L g, s) _ Q
      refine hm_st hR (hm_st hR (?_))
      show R 63 5 [(5, .int (v5 + 1)), (6, .int v6), (3, .long v3), (0, .ref 2), (1, .long v1)] [] (N, hm_sh L g, s) _ Q
      exact hm_lvS hR (by intro q hq; simp only [List.mem_cons, List.not_mem_nil, or_false] at hq ⊢; rcases hq with rfl | rfl | rfl | rfl <;> simp) (hO s v1 v3 (v5 + 1) hPO hq)
    · rw [if_neg c24] at hq
      show R 63 27 [(6, .int v6), (5, .int v5), (3, .long v3), (0, .ref 2), (1, .long v1)] [] (N, hm_sh L g, s) _ Q
      refine hm_st hR (hm_st hR (hm_st hR (hm_st hR (?_))))
      refine hm_st hR ⟨hm_le rfl, rfl, (hm_le rfl), (hm_ltN hN rfl), hm_le rfl, hm_le rfl, (0, 0), Nat.zero_le _, Nat.zero_le _, ?_⟩
      refine sp_54 hR hN ?_
      show R 63 36 [(6, .int v6), (5, .int v5), (3, .long v3), (0, .ref 2), (1, .long v1)] [.int (T_54 s v5 v6), .long v3] (N, hm_sh L g, s) _ Q
      refine hm_st hR (?_)
      refine hm_st hR ⟨hm_le rfl, hm_le rfl, hm_le rfl, (0, 0), Nat.zero_le _, Nat.zero_le _, ?_⟩
      refine sp_60 hR hN ?_
      show R 63 40 [(6, .int v6), (5, .int v5), (3, .long v3), (0, .ref 2), (1, .long v1)] [.long (T_60 s v3 (((T_54 s v5 v6)).toInt64))] (N, hm_sh L g, s) _ Q
      refine hm_st hR (hm_st hR (hm_st hR (?_)))
      show R 63 20 [(6, .int (v6 + 1)), (3, .long (T_60 s v3 (((T_54 s v5 v6)).toInt64))), (5, .int v5), (0, .ref 2), (1, .long v1)] [] (N, hm_sh L g, s) _ Q
      exact hm_lvS hR (by intro q hq; simp only [List.mem_cons, List.not_mem_nil, or_false] at hq ⊢; rcases hq with rfl | rfl | rfl | rfl | rfl <;> simp) (ih s v1 (T_60 s v3 (((T_54 s v5 v6)).toInt64)) v5 (v6 + 1) (hm_dcx c24 hm) hPO hq)
set_option maxRecDepth 20000 in
theorem lp_63_5 {R : hm_R} (hR : hm_Cm R) {N L : Nat} {g : Nat → hm_Sh} {b : hm_B} {Q : hm_Q} (hN : 68 ≤ N) : ∀ (n : Nat) (s : hm_St) (v1 : Int64) (v3 : Int64) (v5 : Int32), hm_df (T_133 s) v5 < n → (hq : Q (.inr (some (.long (T_63_5 n s v1 v3 v5)))) (N, hm_sh L g, s)) → R 63 5 [(5, .int v5), (3, .long v3), (0, .ref 2), (1, .long v1)] [] (N, hm_sh L g, s) b Q := by
  intro n
  induction n with
  | zero => intro s v1 v3 v5 hm _; exact absurd hm (Nat.not_lt_zero _)
  | succ n ih =>
    intro s v1 v3 v5 hm hq
    unfold T_63_5 at hq
    refine hm_st hR (hm_st hR (hm_st hR ⟨rfl, hm_le rfl, (hm_ltN hN rfl), ?_⟩))
    refine hm_st hR ⟨hm_le rfl, rfl, (hm_le rfl), (hm_ltN hN rfl), hm_le rfl, hm_le rfl, (0, 0), Nat.zero_le _, Nat.zero_le _, ?_⟩
    refine sp_133 hR hN ?_
    show R 63 14 [(5, .int v5), (3, .long v3), (0, .ref 2), (1, .long v1)] [.int (T_133 s), .int v5] (N, hm_sh L g, s) _ Q
    show R 63 14 [(5, .int v5), (3, .long v3), (0, .ref 2), (1, .long v1)] [.int (T_133 s), .int v5] (N, hm_sh L g, s) _ Q
    refine hm_st hR ⟨fun c14 => ?_, fun c14 => ?_⟩
    · rw [if_pos c14] at hq
      show R 63 53 [(5, .int v5), (3, .long v3), (0, .ref 2), (1, .long v1)] [] (N, hm_sh L g, s) _ Q
      refine hm_st hR (?_)
      exact hm_st hR (hq)
    · rw [if_neg c14] at hq
      show R 63 17 [(5, .int v5), (3, .long v3), (0, .ref 2), (1, .long v1)] [] (N, hm_sh L g, s) _ Q
      refine hm_st hR (hm_st hR (?_))
      show R 63 20 [(6, .int 0), (5, .int v5), (3, .long v3), (0, .ref 2), (1, .long v1)] [] (N, hm_sh L g, s) _ Q
      exact lp_63_20 hR hN (O := (fun s v1 v3 v5 => T_63_5 n s v1 v3 v5)) (nO := n) (fun s v1 v3 v5 hm hq => ih s v1 v3 v5 hm hq) _ _ _ _ _ _ (Nat.lt_succ_self _) (hm_dcx c14 hm) hq
set_option maxRecDepth 20000 in
theorem sp_63 {R : hm_R} (hR : hm_Cm R) {N L : Nat} {g : Nat → hm_Sh} {s : hm_St} {b : hm_B} {Q : hm_Q} (hN : 68 ≤ N) {p1 : Int64} (hq : Q (.inr (some (.long (T_63 s p1)))) (N, hm_sh L g, s)) : R 63 0 (lv_args 0 [.ref 2, .long p1]) [] (N, hm_sh L g, s) b Q := by
  unfold T_63 at hq
  show R 63 0 [(0, .ref 2), (1, .long p1)] [] (N, hm_sh L g, s) _ Q
  refine hm_st hR (hm_st hR (hm_st hR (hm_st hR (?_))))
  show R 63 5 [(5, .int 0), (3, .long p1), (0, .ref 2), (1, .long p1)] [] (N, hm_sh L g, s) _ Q
  exact lp_63_5 hR hN _ _ _ _ _ (Nat.lt_succ_self _) hq
/-- CurvekeyHouse$Points.isPair(II)Z -/
def T_175 (s : hm_St) (p1 : Int32) (p2 : Int32) : Int32 := (if (T_160 s p1) = 0 then 0 else (if (T_160 s p2) = 0 then (0 : Int32) else 1))
theorem B_175 (s : hm_St) (p1 : Int32) (p2 : Int32) : T_175 s p1 p2 = 0 ∨ T_175 s p1 p2 = 1 := by
  unfold T_175
  repeat' split
  all_goals first | exact Or.inl rfl | exact Or.inr rfl | exact B_160 _ _
set_option maxRecDepth 20000 in
theorem sp_175 {R : hm_R} (hR : hm_Cm R) {N L : Nat} {g : Nat → hm_Sh} {s : hm_St} {b : hm_B} {Q : hm_Q} (hN : 68 ≤ N) {p1 : Int32} {p2 : Int32} (hq : Q (.inr (some (.int (T_175 s p1 p2)))) (N, hm_sh L g, s)) : R 175 0 (lv_args 0 [.ref 14, .int p1, .int p2]) [] (N, hm_sh L g, s) b Q := by
  unfold T_175 at hq
  show R 175 0 [(0, .ref 14), (1, .int p1), (2, .int p2)] [] (N, hm_sh L g, s) _ Q
  refine hm_st hR (hm_st hR (?_))
  refine hm_st hR ⟨hm_le rfl, rfl, (hm_le rfl), (hm_ltN hN rfl), hm_le rfl, hm_le rfl, (0, 0), Nat.zero_le _, Nat.zero_le _, ?_⟩
  refine sp_160 hR hN ?_
  show R 175 5 [(0, .ref 14), (1, .int p1), (2, .int p2)] [.int (T_160 s p1)] (N, hm_sh L g, s) _ Q
  show R 175 5 [(0, .ref 14), (1, .int p1), (2, .int p2)] [.int (T_160 s p1)] (N, hm_sh L g, s) _ Q
  refine hm_st hR ⟨fun c5 => ?_, fun c5 => ?_⟩
  · rw [if_pos c5] at hq
    show R 175 20 [(0, .ref 14), (1, .int p1), (2, .int p2)] [] (N, hm_sh L g, s) _ Q
    refine hm_st hR (?_)
    exact hm_st hR ⟨fun _ => Or.inl rfl, hq⟩
  · rw [if_neg c5] at hq
    show R 175 8 [(0, .ref 14), (1, .int p1), (2, .int p2)] [] (N, hm_sh L g, s) _ Q
    refine hm_st hR (hm_st hR (?_))
    refine hm_st hR ⟨hm_le rfl, rfl, (hm_le rfl), (hm_ltN hN rfl), hm_le rfl, hm_le rfl, (0, 0), Nat.zero_le _, Nat.zero_le _, ?_⟩
    refine sp_160 hR hN ?_
    show R 175 13 [(0, .ref 14), (1, .int p1), (2, .int p2)] [.int (T_160 s p2)] (N, hm_sh L g, s) _ Q
    show R 175 13 [(0, .ref 14), (1, .int p1), (2, .int p2)] [.int (T_160 s p2)] (N, hm_sh L g, s) _ Q
    suffices G : ∀ w : Int32, w = (if (T_160 s p2) = 0 then (0 : Int32) else 1) → R 175 21 [(0, .ref 14), (1, .int p1), (2, .int p2)] [.int w] (N, hm_sh L g, s) (b.1 - 0 - 0, b.2 - 0 - 0) Q by
      show R 175 13 [(0, .ref 14), (1, .int p1), (2, .int p2)] [.int (T_160 s p2)] (N, hm_sh L g, s) _ Q
      refine hm_st hR ⟨fun c => ?_, fun c => ?_⟩
      · exact hm_st hR (G _ (if_pos c).symm)
      · exact hm_st hR (hm_st hR (G _ (if_neg c).symm))
    intro w hw
    subst hw
    show R 175 21 [(0, .ref 14), (1, .int p1), (2, .int p2)] [.int (if (T_160 s p2) = 0 then (0 : Int32) else 1)] (N, hm_sh L g, s) _ Q
    exact hm_st hR ⟨fun _ => (by split <;> first | exact Or.inl rfl | exact Or.inr rfl), hq⟩
def T_176_15 (O : hm_St → Int32 → Int32 → Int32 → Int32) : Nat → hm_St → Int32 → Int32 → Int32 → Int32 → Int32
  | 0, s, _, _, _, _ => 0
  | n + 1, s, v1, v2, v3, v4 => (if v3 ≤ v4 then (O s v1 v2 (v3 + 1)) else (if (T_175 s v3 v4) = 0 then (T_176_15 O n s v1 v2 v3 (v4 + 1)) else (if v2 = (-1) then (T_176_15 O n s v1 (T_172 s v3 (T_161 s v4) (T_162 s v4)) v3 (v4 + 1)) else (if v1 = 0 then (if v2 ≤ (T_172 s v3 (T_161 s v4) (T_162 s v4)) then (T_176_15 O n s v1 v2 v3 (v4 + 1)) else (T_176_15 O n s v1 (T_172 s v3 (T_161 s v4) (T_162 s v4)) v3 (v4 + 1))) else (if (T_172 s v3 (T_161 s v4) (T_162 s v4)) ≤ v2 then (T_176_15 O n s v1 v2 v3 (v4 + 1)) else (T_176_15 O n s v1 (T_172 s v3 (T_161 s v4) (T_162 s v4)) v3 (v4 + 1)))))))
def T_176_4 : Nat → hm_St → Int32 → Int32 → Int32 → Int32
  | 0, s, _, _, _ => 0
  | n + 1, s, v1, v2, v3 => (if (s 14 5) ≤ v3 then v2 else (T_176_15 (fun s v1 v2 v3 => T_176_4 n s v1 v2 v3) (hm_df v3 0 + 1) s v1 v2 v3 0))
/-- CurvekeyHouse$Points.extremeFar(Z)I -/
def T_176 (s : hm_St) (p1 : Int32) : Int32 := (T_176_4 (hm_df (s 14 5) 0 + 1) s p1 (-1) 0)
set_option maxRecDepth 20000 in
theorem lp_176_15 {R : hm_R} (hR : hm_Cm R) {N L : Nat} {g : Nat → hm_Sh} {b : hm_B} {Q : hm_Q} (hN : 68 ≤ N) {O : hm_St → Int32 → Int32 → Int32 → Int32} {nO : Nat} (hO : ∀ (s : hm_St) (v1 : Int32) (v2 : Int32) (v3 : Int32), hm_df (s 14 5) v3 < nO → (Q (.inr (some (.int (O s v1 v2 v3)))) (N, hm_sh L g, s)) → R 176 4 [(3, .int v3), (2, .int v2), (0, .ref 14), (1, .int v1)] [] (N, hm_sh L g, s) b Q) : ∀ (n : Nat) (s : hm_St) (v1 : Int32) (v2 : Int32) (v3 : Int32) (v4 : Int32), hm_df v3 v4 < n → (hPO : hm_df (s 14 5) (v3 + 1) < nO) → (hq : Q (.inr (some (.int (T_176_15 O n s v1 v2 v3 v4)))) (N, hm_sh L g, s)) → R 176 15 [(4, .int v4), (3, .int v3), (2, .int v2), (0, .ref 14), (1, .int v1)] [] (N, hm_sh L g, s) b Q := by
  intro n
  induction n with
  | zero => intro s v1 v2 v3 v4 hm hPO _; exact absurd hm (Nat.not_lt_zero _)
  | succ n ih =>
    intro s v1 v2 v3 v4 hm hPO hq
    unfold T_176_15 at hq
    refine hm_st hR (hm_st hR (?_))
    show R 176 18 [(4, .int v4), (3, .int v3), (2, .int v2), (0, .ref 14), (1, .int v1)] [.int v3, .int v4] (N, hm_sh L g, s) _ Q
    refine hm_st hR ⟨fun c18 => ?_, fun c18 => ?_⟩
    · rw [if_pos c18] at hq
      show R 176 83 [(4, .int v4), (3, .int v3), (2, .int v2), (0, .ref 14), (1, .int v1)] [] (N, hm_sh L g, s) _ Q
      refine hm_st hR (hm_st hR (?_))
      show R 176 4 [(3, .int (v3 + 1)), (4, .int v4), (2, .int v2), (0, .ref 14), (1, .int v1)] [] (N, hm_sh L g, s) _ Q
      exact hm_lvS hR (by intro q hq; simp only [List.mem_cons, List.not_mem_nil, or_false] at hq ⊢; rcases hq with rfl | rfl | rfl | rfl <;> simp) (hO s v1 v2 (v3 + 1) hPO hq)
    · rw [if_neg c18] at hq
      show R 176 21 [(4, .int v4), (3, .int v3), (2, .int v2), (0, .ref 14), (1, .int v1)] [] (N, hm_sh L g, s) _ Q
      refine hm_st hR (hm_st hR (hm_st hR (hm_st hR (?_))))
      refine hm_st hR ⟨hm_le rfl, rfl, (hm_le rfl), (hm_ltN hN rfl), hm_le rfl, hm_le rfl, (0, 0), Nat.zero_le _, Nat.zero_le _, ?_⟩
      refine sp_161 hR hN ?_
      show R 176 29 [(4, .int v4), (3, .int v3), (2, .int v2), (0, .ref 14), (1, .int v1)] [.int (T_161 s v4), .int v3, .ref 14] (N, hm_sh L g, s) _ Q
      refine hm_st hR (hm_st hR (?_))
      refine hm_st hR ⟨hm_le rfl, rfl, (hm_le rfl), (hm_ltN hN rfl), hm_le rfl, hm_le rfl, (0, 0), Nat.zero_le _, Nat.zero_le _, ?_⟩
      refine sp_162 hR hN ?_
      show R 176 35 [(4, .int v4), (3, .int v3), (2, .int v2), (0, .ref 14), (1, .int v1)] [.int (T_162 s v4), .int (T_161 s v4), .int v3, .ref 14] (N, hm_sh L g, s) _ Q
      refine hm_st hR ⟨hm_le rfl, rfl, (hm_le rfl), (hm_ltN hN rfl), hm_le rfl, hm_le rfl, (0, 0), Nat.zero_le _, Nat.zero_le _, ?_⟩
      refine sp_172 hR hN ?_
      show R 176 38 [(4, .int v4), (3, .int v3), (2, .int v2), (0, .ref 14), (1, .int v1)] [.int (T_172 s v3 (T_161 s v4) (T_162 s v4))] (N, hm_sh L g, s) _ Q
      refine hm_st hR (hm_st hR (hm_st hR (hm_st hR (?_))))
      refine hm_st hR ⟨hm_le rfl, rfl, (hm_le rfl), (hm_ltN hN rfl), hm_le rfl, hm_le rfl, (0, 0), Nat.zero_le _, Nat.zero_le _, ?_⟩
      refine sp_175 hR hN ?_
      show R 176 47 [(5, .int (T_172 s v3 (T_161 s v4) (T_162 s v4))), (4, .int v4), (3, .int v3), (2, .int v2), (0, .ref 14), (1, .int v1)] [.int (T_175 s v3 v4)] (N, hm_sh L g, s) _ Q
      show R 176 47 [(5, .int (T_172 s v3 (T_161 s v4) (T_162 s v4))), (4, .int v4), (3, .int v3), (2, .int v2), (0, .ref 14), (1, .int v1)] [.int (T_175 s v3 v4)] (N, hm_sh L g, s) _ Q
      refine hm_st hR ⟨fun c47 => ?_, fun c47 => ?_⟩
      · rw [if_pos c47] at hq
        show R 176 77 [(5, .int (T_172 s v3 (T_161 s v4) (T_162 s v4))), (4, .int v4), (3, .int v3), (2, .int v2), (0, .ref 14), (1, .int v1)] [] (N, hm_sh L g, s) _ Q
        refine hm_st hR (hm_st hR (?_))
        show R 176 15 [(4, .int (v4 + 1)), (5, .int (T_172 s v3 (T_161 s v4) (T_162 s v4))), (3, .int v3), (2, .int v2), (0, .ref 14), (1, .int v1)] [] (N, hm_sh L g, s) _ Q
        exact hm_lvS hR (by intro q hq; simp only [List.mem_cons, List.not_mem_nil, or_false] at hq ⊢; rcases hq with rfl | rfl | rfl | rfl | rfl <;> simp) (ih s v1 v2 v3 (v4 + 1) (hm_dcx c18 hm) hPO hq)
      · rw [if_neg c47] at hq
        show R 176 50 [(5, .int (T_172 s v3 (T_161 s v4) (T_162 s v4))), (4, .int v4), (3, .int v3), (2, .int v2), (0, .ref 14), (1, .int v1)] [] (N, hm_sh L g, s) _ Q
        refine hm_st hR (hm_st hR (?_))
        show R 176 52 [(5, .int (T_172 s v3 (T_161 s v4) (T_162 s v4))), (4, .int v4), (3, .int v3), (2, .int v2), (0, .ref 14), (1, .int v1)] [.int (-1), .int v2] (N, hm_sh L g, s) _ Q
        refine hm_st hR ⟨fun c52 => ?_, fun c52 => ?_⟩
        · rw [if_pos c52] at hq
          show R 176 74 [(5, .int (T_172 s v3 (T_161 s v4) (T_162 s v4))), (4, .int v4), (3, .int v3), (2, .int v2), (0, .ref 14), (1, .int v1)] [] (N, hm_sh L g, s) _ Q
          refine hm_st hR (hm_st hR (hm_st hR (hm_st hR (?_))))
          show R 176 15 [(4, .int (v4 + 1)), (2, .int (T_172 s v3 (T_161 s v4) (T_162 s v4))), (5, .int (T_172 s v3 (T_161 s v4) (T_162 s v4))), (3, .int v3), (0, .ref 14), (1, .int v1)] [] (N, hm_sh L g, s) _ Q
          exact hm_lvS hR (by intro q hq; simp only [List.mem_cons, List.not_mem_nil, or_false] at hq ⊢; rcases hq with rfl | rfl | rfl | rfl | rfl <;> simp) (ih s v1 (T_172 s v3 (T_161 s v4) (T_162 s v4)) v3 (v4 + 1) (hm_dcx c18 hm) hPO hq)
        · rw [if_neg c52] at hq
          show R 176 55 [(5, .int (T_172 s v3 (T_161 s v4) (T_162 s v4))), (4, .int v4), (3, .int v3), (2, .int v2), (0, .ref 14), (1, .int v1)] [] (N, hm_sh L g, s) _ Q
          refine hm_st hR (?_)
          show R 176 56 [(5, .int (T_172 s v3 (T_161 s v4) (T_162 s v4))), (4, .int v4), (3, .int v3), (2, .int v2), (0, .ref 14), (1, .int v1)] [.int v1] (N, hm_sh L g, s) _ Q
          refine hm_st hR ⟨fun c56 => ?_, fun c56 => ?_⟩
          · rw [if_pos c56] at hq
            show R 176 68 [(5, .int (T_172 s v3 (T_161 s v4) (T_162 s v4))), (4, .int v4), (3, .int v3), (2, .int v2), (0, .ref 14), (1, .int v1)] [] (N, hm_sh L g, s) _ Q
            refine hm_st hR (hm_st hR (?_))
            show R 176 71 [(5, .int (T_172 s v3 (T_161 s v4) (T_162 s v4))), (4, .int v4), (3, .int v3), (2, .int v2), (0, .ref 14), (1, .int v1)] [.int v2, .int (T_172 s v3 (T_161 s v4) (T_162 s v4))] (N, hm_sh L g, s) _ Q
            refine hm_st hR ⟨fun c71 => ?_, fun c71 => ?_⟩
            · rw [if_pos c71] at hq
              show R 176 77 [(5, .int (T_172 s v3 (T_161 s v4) (T_162 s v4))), (4, .int v4), (3, .int v3), (2, .int v2), (0, .ref 14), (1, .int v1)] [] (N, hm_sh L g, s) _ Q
              refine hm_st hR (hm_st hR (?_))
              show R 176 15 [(4, .int (v4 + 1)), (5, .int (T_172 s v3 (T_161 s v4) (T_162 s v4))), (3, .int v3), (2, .int v2), (0, .ref 14), (1, .int v1)] [] (N, hm_sh L g, s) _ Q
              exact hm_lvS hR (by intro q hq; simp only [List.mem_cons, List.not_mem_nil, or_false] at hq ⊢; rcases hq with rfl | rfl | rfl | rfl | rfl <;> simp) (ih s v1 v2 v3 (v4 + 1) (hm_dcx c18 hm) hPO hq)
            · rw [if_neg c71] at hq
              show R 176 74 [(5, .int (T_172 s v3 (T_161 s v4) (T_162 s v4))), (4, .int v4), (3, .int v3), (2, .int v2), (0, .ref 14), (1, .int v1)] [] (N, hm_sh L g, s) _ Q
              refine hm_st hR (hm_st hR (hm_st hR (hm_st hR (?_))))
              show R 176 15 [(4, .int (v4 + 1)), (2, .int (T_172 s v3 (T_161 s v4) (T_162 s v4))), (5, .int (T_172 s v3 (T_161 s v4) (T_162 s v4))), (3, .int v3), (0, .ref 14), (1, .int v1)] [] (N, hm_sh L g, s) _ Q
              exact hm_lvS hR (by intro q hq; simp only [List.mem_cons, List.not_mem_nil, or_false] at hq ⊢; rcases hq with rfl | rfl | rfl | rfl | rfl <;> simp) (ih s v1 (T_172 s v3 (T_161 s v4) (T_162 s v4)) v3 (v4 + 1) (hm_dcx c18 hm) hPO hq)
          · rw [if_neg c56] at hq
            show R 176 59 [(5, .int (T_172 s v3 (T_161 s v4) (T_162 s v4))), (4, .int v4), (3, .int v3), (2, .int v2), (0, .ref 14), (1, .int v1)] [] (N, hm_sh L g, s) _ Q
            refine hm_st hR (hm_st hR (?_))
            show R 176 62 [(5, .int (T_172 s v3 (T_161 s v4) (T_162 s v4))), (4, .int v4), (3, .int v3), (2, .int v2), (0, .ref 14), (1, .int v1)] [.int v2, .int (T_172 s v3 (T_161 s v4) (T_162 s v4))] (N, hm_sh L g, s) _ Q
            refine hm_st hR ⟨fun c62 => ?_, fun c62 => ?_⟩
            · rw [if_pos c62] at hq
              show R 176 77 [(5, .int (T_172 s v3 (T_161 s v4) (T_162 s v4))), (4, .int v4), (3, .int v3), (2, .int v2), (0, .ref 14), (1, .int v1)] [] (N, hm_sh L g, s) _ Q
              refine hm_st hR (hm_st hR (?_))
              show R 176 15 [(4, .int (v4 + 1)), (5, .int (T_172 s v3 (T_161 s v4) (T_162 s v4))), (3, .int v3), (2, .int v2), (0, .ref 14), (1, .int v1)] [] (N, hm_sh L g, s) _ Q
              exact hm_lvS hR (by intro q hq; simp only [List.mem_cons, List.not_mem_nil, or_false] at hq ⊢; rcases hq with rfl | rfl | rfl | rfl | rfl <;> simp) (ih s v1 v2 v3 (v4 + 1) (hm_dcx c18 hm) hPO hq)
            · rw [if_neg c62] at hq
              show R 176 65 [(5, .int (T_172 s v3 (T_161 s v4) (T_162 s v4))), (4, .int v4), (3, .int v3), (2, .int v2), (0, .ref 14), (1, .int v1)] [] (N, hm_sh L g, s) _ Q
              refine hm_st hR (hm_st hR (hm_st hR (hm_st hR (hm_st hR (?_)))))
              show R 176 15 [(4, .int (v4 + 1)), (2, .int (T_172 s v3 (T_161 s v4) (T_162 s v4))), (5, .int (T_172 s v3 (T_161 s v4) (T_162 s v4))), (3, .int v3), (0, .ref 14), (1, .int v1)] [] (N, hm_sh L g, s) _ Q
              exact hm_lvS hR (by intro q hq; simp only [List.mem_cons, List.not_mem_nil, or_false] at hq ⊢; rcases hq with rfl | rfl | rfl | rfl | rfl <;> simp) (ih s v1 (T_172 s v3 (T_161 s v4) (T_162 s v4)) v3 (v4 + 1) (hm_dcx c18 hm) hPO hq)
set_option maxRecDepth 20000 in
theorem lp_176_4 {R : hm_R} (hR : hm_Cm R) {N L : Nat} {g : Nat → hm_Sh} {b : hm_B} {Q : hm_Q} (hN : 68 ≤ N) : ∀ (n : Nat) (s : hm_St) (v1 : Int32) (v2 : Int32) (v3 : Int32), hm_df (s 14 5) v3 < n → (hq : Q (.inr (some (.int (T_176_4 n s v1 v2 v3)))) (N, hm_sh L g, s)) → R 176 4 [(3, .int v3), (2, .int v2), (0, .ref 14), (1, .int v1)] [] (N, hm_sh L g, s) b Q := by
  intro n
  induction n with
  | zero => intro s v1 v2 v3 hm _; exact absurd hm (Nat.not_lt_zero _)
  | succ n ih =>
    intro s v1 v2 v3 hm hq
    unfold T_176_4 at hq
    refine hm_st hR (hm_st hR (hm_st hR ⟨rfl, hm_le rfl, (hm_ltN hN rfl), ?_⟩))
    show R 176 9 [(3, .int v3), (2, .int v2), (0, .ref 14), (1, .int v1)] [.int (s 14 5), .int v3] (N, hm_sh L g, s) _ Q
    refine hm_st hR ⟨fun c9 => ?_, fun c9 => ?_⟩
    · rw [if_pos c9] at hq
      show R 176 89 [(3, .int v3), (2, .int v2), (0, .ref 14), (1, .int v1)] [] (N, hm_sh L g, s) _ Q
      refine hm_st hR (?_)
      exact hm_st hR ⟨fun z => absurd z (by decide), hq⟩
    · rw [if_neg c9] at hq
      show R 176 12 [(3, .int v3), (2, .int v2), (0, .ref 14), (1, .int v1)] [] (N, hm_sh L g, s) _ Q
      refine hm_st hR (hm_st hR (?_))
      show R 176 15 [(4, .int 0), (3, .int v3), (2, .int v2), (0, .ref 14), (1, .int v1)] [] (N, hm_sh L g, s) _ Q
      exact lp_176_15 hR hN (O := (fun s v1 v2 v3 => T_176_4 n s v1 v2 v3)) (nO := n) (fun s v1 v2 v3 hm hq => ih s v1 v2 v3 hm hq) _ _ _ _ _ _ (Nat.lt_succ_self _) (hm_dcx c9 hm) hq
set_option maxRecDepth 20000 in
theorem sp_176 {R : hm_R} (hR : hm_Cm R) {N L : Nat} {g : Nat → hm_Sh} {s : hm_St} {b : hm_B} {Q : hm_Q} (hN : 68 ≤ N) {p1 : Int32} (hq : Q (.inr (some (.int (T_176 s p1)))) (N, hm_sh L g, s)) : R 176 0 (lv_args 0 [.ref 14, .int p1]) [] (N, hm_sh L g, s) b Q := by
  unfold T_176 at hq
  show R 176 0 [(0, .ref 14), (1, .int p1)] [] (N, hm_sh L g, s) _ Q
  refine hm_st hR (hm_st hR (hm_st hR (hm_st hR (?_))))
  show R 176 4 [(3, .int 0), (2, .int (-1)), (0, .ref 14), (1, .int p1)] [] (N, hm_sh L g, s) _ Q
  exact lp_176_4 hR hN _ _ _ _ _ (Nat.lt_succ_self _) hq
/-- CurvekeyHouse$Line.errorWhole()I -/
def T_127 (s : hm_St) : Int32 := (if (s 64 1) = 0 then (-1) else (T_130 s 0 ((s 64 1) - 1)))
set_option maxRecDepth 20000 in
theorem sp_127 {R : hm_R} (hR : hm_Cm R) {N L : Nat} {g : Nat → hm_Sh} {s : hm_St} {b : hm_B} {Q : hm_Q} (hN : 68 ≤ N) (hE : (s 64 1 - 1) < 100000) (hq : Q (.inr (some (.int (T_127 s)))) (N, hm_sh L g, s)) : R 127 0 (lv_args 0 [.ref 64]) [] (N, hm_sh L g, s) b Q := by
  unfold T_127 at hq
  show R 127 0 [(0, .ref 64)] [] (N, hm_sh L g, s) _ Q
  refine hm_st hR (hm_st hR ⟨rfl, hm_le rfl, (hm_ltN hN rfl), ?_⟩)
  show R 127 4 [(0, .ref 64)] [.int (s 64 1)] (N, hm_sh L g, s) _ Q
  refine hm_st hR ⟨fun c4 => ?_, fun c4 => ?_⟩
  · rw [if_neg c4] at hq
    show R 127 11 [(0, .ref 64)] [] (N, hm_sh L g, s) _ Q
    refine hm_st hR (hm_st hR (hm_st hR (hm_st hR ⟨rfl, hm_le rfl, (hm_ltN hN rfl), hm_st hR (hm_st hR (?_))⟩)))
    refine hm_st hR ⟨hm_le rfl, rfl, (hm_le rfl), (hm_ltN hN rfl), hm_le rfl, hm_le rfl, (0, 0), Nat.zero_le _, Nat.zero_le _, ?_⟩
    refine sp_130 hR hN hE ?_
    show R 127 22 [(0, .ref 64)] [.int (T_130 s 0 ((s 64 1) - 1))] (N, hm_sh L g, s) _ Q
    exact hm_st hR ⟨fun z => absurd z (by decide), hq⟩
  · rw [if_pos c4] at hq
    show R 127 7 [(0, .ref 64)] [] (N, hm_sh L g, s) _ Q
    refine hm_st hR (hm_st hR (?_))
    exact hm_st hR ⟨fun z => absurd z (by decide), hq⟩
def T_64_17 (O : hm_St → Int64 → Int64 → Int32 → Int64) : Nat → hm_St → Int64 → Int64 → Int32 → Int32 → Int64
  | 0, s, _, _, _, _ => 0
  | n + 1, s, v1, v3, v5, v6 => (if 3 ≤ v6 then (O s v1 v3 (v5 + 1)) else (T_64_17 O n s v1 (T_60 s v3 (((T_57 s v5 v6)).toInt64)) v5 (v6 + 1)))
def T_64_5 : Nat → hm_St → Int64 → Int64 → Int32 → Int64
  | 0, s, _, _, _ => 0
  | n + 1, s, v1, v3, v5 => (if (s 2 9) ≤ v5 then (T_60 s v3 (((T_23 s)).toInt64)) else (T_64_17 (fun s v1 v3 v5 => T_64_5 n s v1 v3 v5) (hm_df 3 0 + 1) s v1 v3 v5 0))
/-- CurvekeyHouse.mixMachines(J)J -/
def T_64 (s : hm_St) (p1 : Int64) : Int64 := (T_64_5 (hm_df (s 2 9) 0 + 1) s p1 p1 0)
set_option maxRecDepth 20000 in
theorem lp_64_17 {R : hm_R} (hR : hm_Cm R) {N L : Nat} {g : Nat → hm_Sh} {b : hm_B} {Q : hm_Q} (hN : 68 ≤ N) {O : hm_St → Int64 → Int64 → Int32 → Int64} {nO : Nat} (hO : ∀ (s : hm_St) (v1 : Int64) (v3 : Int64) (v5 : Int32), hm_df (s 2 9) v5 < nO → (Q (.inr (some (.long (O s v1 v3 v5)))) (N, hm_sh L g, s)) → R 64 5 [(5, .int v5), (3, .long v3), (0, .ref 2), (1, .long v1)] [] (N, hm_sh L g, s) b Q) : ∀ (n : Nat) (s : hm_St) (v1 : Int64) (v3 : Int64) (v5 : Int32) (v6 : Int32), hm_df 3 v6 < n → (hPO : hm_df (s 2 9) (v5 + 1) < nO) → (hq : Q (.inr (some (.long (T_64_17 O n s v1 v3 v5 v6)))) (N, hm_sh L g, s)) → R 64 17 [(6, .int v6), (5, .int v5), (3, .long v3), (0, .ref 2), (1, .long v1)] [] (N, hm_sh L g, s) b Q := by
  intro n
  induction n with
  | zero => intro s v1 v3 v5 v6 hm hPO _; exact absurd hm (Nat.not_lt_zero _)
  | succ n ih =>
    intro s v1 v3 v5 v6 hm hPO hq
    unfold T_64_17 at hq
    refine hm_st hR (hm_st hR (?_))
    show R 64 20 [(6, .int v6), (5, .int v5), (3, .long v3), (0, .ref 2), (1, .long v1)] [.int 3, .int v6] (N, hm_sh L g, s) _ Q
    refine hm_st hR ⟨fun c20 => ?_, fun c20 => ?_⟩
    · rw [if_pos c20] at hq
      show R 64 43 [(6, .int v6), (5, .int v5), (3, .long v3), (0, .ref 2), (1, .long v1)] [] (N, hm_sh L g, s) _ Q
      refine hm_st hR (hm_st hR (?_))
      show R 64 5 [(5, .int (v5 + 1)), (6, .int v6), (3, .long v3), (0, .ref 2), (1, .long v1)] [] (N, hm_sh L g, s) _ Q
      exact hm_lvS hR (by intro q hq; simp only [List.mem_cons, List.not_mem_nil, or_false] at hq ⊢; rcases hq with rfl | rfl | rfl | rfl <;> simp) (hO s v1 v3 (v5 + 1) hPO hq)
    · rw [if_neg c20] at hq
      show R 64 23 [(6, .int v6), (5, .int v5), (3, .long v3), (0, .ref 2), (1, .long v1)] [] (N, hm_sh L g, s) _ Q
      refine hm_st hR (hm_st hR (hm_st hR (hm_st hR (?_))))
      refine hm_st hR ⟨hm_le rfl, rfl, (hm_le rfl), (hm_ltN hN rfl), hm_le rfl, hm_le rfl, (0, 0), Nat.zero_le _, Nat.zero_le _, ?_⟩
      refine sp_57 hR hN ?_
      show R 64 32 [(6, .int v6), (5, .int v5), (3, .long v3), (0, .ref 2), (1, .long v1)] [.int (T_57 s v5 v6), .long v3] (N, hm_sh L g, s) _ Q
      refine hm_st hR (?_)
      refine hm_st hR ⟨hm_le rfl, hm_le rfl, hm_le rfl, (0, 0), Nat.zero_le _, Nat.zero_le _, ?_⟩
      refine sp_60 hR hN ?_
      show R 64 36 [(6, .int v6), (5, .int v5), (3, .long v3), (0, .ref 2), (1, .long v1)] [.long (T_60 s v3 (((T_57 s v5 v6)).toInt64))] (N, hm_sh L g, s) _ Q
      refine hm_st hR (hm_st hR (hm_st hR (?_)))
      show R 64 17 [(6, .int (v6 + 1)), (3, .long (T_60 s v3 (((T_57 s v5 v6)).toInt64))), (5, .int v5), (0, .ref 2), (1, .long v1)] [] (N, hm_sh L g, s) _ Q
      exact hm_lvS hR (by intro q hq; simp only [List.mem_cons, List.not_mem_nil, or_false] at hq ⊢; rcases hq with rfl | rfl | rfl | rfl | rfl <;> simp) (ih s v1 (T_60 s v3 (((T_57 s v5 v6)).toInt64)) v5 (v6 + 1) (hm_dcx c20 hm) hPO hq)
set_option maxRecDepth 20000 in
theorem lp_64_5 {R : hm_R} (hR : hm_Cm R) {N L : Nat} {g : Nat → hm_Sh} {b : hm_B} {Q : hm_Q} (hN : 68 ≤ N) : ∀ (n : Nat) (s : hm_St) (v1 : Int64) (v3 : Int64) (v5 : Int32), hm_df (s 2 9) v5 < n → (hq : Q (.inr (some (.long (T_64_5 n s v1 v3 v5)))) (N, hm_sh L g, s)) → R 64 5 [(5, .int v5), (3, .long v3), (0, .ref 2), (1, .long v1)] [] (N, hm_sh L g, s) b Q := by
  intro n
  induction n with
  | zero => intro s v1 v3 v5 hm _; exact absurd hm (Nat.not_lt_zero _)
  | succ n ih =>
    intro s v1 v3 v5 hm hq
    unfold T_64_5 at hq
    refine hm_st hR (hm_st hR (hm_st hR ⟨rfl, hm_le rfl, (hm_ltN hN rfl), ?_⟩))
    show R 64 11 [(5, .int v5), (3, .long v3), (0, .ref 2), (1, .long v1)] [.int (s 2 9), .int v5] (N, hm_sh L g, s) _ Q
    refine hm_st hR ⟨fun c11 => ?_, fun c11 => ?_⟩
    · rw [if_pos c11] at hq
      show R 64 49 [(5, .int v5), (3, .long v3), (0, .ref 2), (1, .long v1)] [] (N, hm_sh L g, s) _ Q
      refine hm_st hR (hm_st hR (?_))
      refine hm_st hR ⟨hm_le rfl, rfl, (hm_le rfl), (hm_ltN hN rfl), hm_le rfl, hm_le rfl, (0, 0), Nat.zero_le _, Nat.zero_le _, ?_⟩
      refine sp_23 hR hN ?_
      show R 64 54 [(5, .int v5), (3, .long v3), (0, .ref 2), (1, .long v1)] [.int (T_23 s), .long v3] (N, hm_sh L g, s) _ Q
      refine hm_st hR (?_)
      refine hm_st hR ⟨hm_le rfl, hm_le rfl, hm_le rfl, (0, 0), Nat.zero_le _, Nat.zero_le _, ?_⟩
      refine sp_60 hR hN ?_
      show R 64 58 [(5, .int v5), (3, .long v3), (0, .ref 2), (1, .long v1)] [.long (T_60 s v3 (((T_23 s)).toInt64))] (N, hm_sh L g, s) _ Q
      exact hm_st hR (hq)
    · rw [if_neg c11] at hq
      show R 64 14 [(5, .int v5), (3, .long v3), (0, .ref 2), (1, .long v1)] [] (N, hm_sh L g, s) _ Q
      refine hm_st hR (hm_st hR (?_))
      show R 64 17 [(6, .int 0), (5, .int v5), (3, .long v3), (0, .ref 2), (1, .long v1)] [] (N, hm_sh L g, s) _ Q
      exact lp_64_17 hR hN (O := (fun s v1 v3 v5 => T_64_5 n s v1 v3 v5)) (nO := n) (fun s v1 v3 v5 hm hq => ih s v1 v3 v5 hm hq) _ _ _ _ _ _ (Nat.lt_succ_self _) (hm_dcx c11 hm) hq
set_option maxRecDepth 20000 in
theorem sp_64 {R : hm_R} (hR : hm_Cm R) {N L : Nat} {g : Nat → hm_Sh} {s : hm_St} {b : hm_B} {Q : hm_Q} (hN : 68 ≤ N) {p1 : Int64} (hq : Q (.inr (some (.long (T_64 s p1)))) (N, hm_sh L g, s)) : R 64 0 (lv_args 0 [.ref 2, .long p1]) [] (N, hm_sh L g, s) b Q := by
  unfold T_64 at hq
  show R 64 0 [(0, .ref 2), (1, .long p1)] [] (N, hm_sh L g, s) _ Q
  refine hm_st hR (hm_st hR (hm_st hR (hm_st hR (?_))))
  show R 64 5 [(5, .int 0), (3, .long p1), (0, .ref 2), (1, .long p1)] [] (N, hm_sh L g, s) _ Q
  exact lp_64_5 hR hN _ _ _ _ _ (Nat.lt_succ_self _) hq
def T_30_96 : Nat → Nat → (Nat → hm_Sh) → hm_St → Int64 → Int32 → (Int64 × Nat × (Nat → hm_Sh) × hm_St)
  | 0, N, g, s, _, _ => (0, N, g, s)
  | n + 1, N, g, s, v1, v3 => (if 3 ≤ v3 then (if (T_29 N g s).1 = 0 then ((T_60 ((T_29 N g s).2.2.2) v1 0), (T_29 N g s).2.1, (T_29 N g s).2.2.1, (T_29 N g s).2.2.2) else ((T_60 ((T_29 N g s).2.2.2) v1 1), (T_29 N g s).2.1, (T_29 N g s).2.2.1, (T_29 N g s).2.2.2)) else (T_30_96 n ((T_58 N g s v3).2.1) ((T_58 N g s v3).2.2.1) ((T_58 N g s v3).2.2.2) (T_60 ((T_58 N g s v3).2.2.2) v1 (((T_58 N g s v3).1).toInt64)) (v3 + 1)))
/-- CurvekeyHouse.digest()J -/
def T_30 (N : Nat) (g : Nat → hm_Sh) (s : hm_St) : (Int64 × Nat × (Nat → hm_Sh) × hm_St) := (T_30_96 4 N g (T_124 s) (T_64 (T_124 s) (T_60 (T_124 s) (T_60 (T_124 s) (T_60 s (T_60 s (T_63 s (T_62 s (T_61 s 58283))) (((T_176 s 1)).toInt64)) (((T_176 s 0)).toInt64)) (((T_127 (T_124 s))).toInt64)) (((T_128 (T_124 s) 1)).toInt64))) 0)
set_option maxRecDepth 20000 in
theorem lp_30_96 {R : hm_R} (hR : hm_Cm R) {L : Nat} {Q : hm_Q} : ∀ (n N : Nat) (g : Nat → hm_Sh) (s : hm_St) (b : hm_B) (v1 : Int64) (v3 : Int32), 68 ≤ N → (s 47 1 < 100000) → hm_df 3 v3 < n → n * 1 + 1 ≤ b.1 → n * 4 + 4 ≤ b.2 → (hq : Q (.inr (some (.long (T_30_96 n N g s v1 v3).1))) ((T_30_96 n N g s v1 v3).2.1, hm_sh L (T_30_96 n N g s v1 v3).2.2.1, (T_30_96 n N g s v1 v3).2.2.2)) → R 30 96 [(3, .int v3), (1, .long v1), (0, .ref 2)] [] (N, hm_sh L g, s) b Q := by
  intro n
  induction n with
  | zero => intro N g s b v1 v3 _ _ hm; exact absurd hm (Nat.not_lt_zero _)
  | succ n ih =>
    intro N g s b v1 v3 hN hinv hm hb1 hb2 hq
    unfold T_30_96 at hq
    refine hm_st hR (hm_st hR (?_))
    show R 30 98 [(3, .int v3), (1, .long v1), (0, .ref 2)] [.int 3, .int v3] (N, hm_sh L g, s) _ Q
    refine hm_st hR ⟨fun c98 => ?_, fun c98 => ?_⟩
    · rw [if_pos c98] at hq
      show R 30 118 [(3, .int v3), (1, .long v1), (0, .ref 2)] [] (N, hm_sh L g, s) _ Q
      refine hm_st hR (hm_st hR (?_))
      refine hm_st hR ⟨hm_le rfl, rfl, (hm_le rfl), (hm_ltN hN rfl), hm_le rfl, hm_le rfl, (1, 4), (by show 1 ≤ b.1; omega), (by show 4 ≤ b.2; omega), ?_⟩
      refine sp_29 hR hN (Nat.le_refl _) (Nat.le_refl _) ?_
      show R 30 123 [(3, .int v3), (1, .long v1), (0, .ref 2)] [.int (T_29 N g s).1, .long v1] ((T_29 N g s).2.1, hm_sh L ((T_29 N g s).2.2.1), (T_29 N g s).2.2.2) _ Q
      show R 30 123 [(3, .int v3), (1, .long v1), (0, .ref 2)] [.int (T_29 N g s).1, .long v1] ((T_29 N g s).2.1, hm_sh L ((T_29 N g s).2.2.1), (T_29 N g s).2.2.2) _ Q
      refine hm_st hR ⟨fun c123 => ?_, fun c123 => ?_⟩
      · rw [if_pos c123] at hq
        show R 30 130 [(3, .int v3), (1, .long v1), (0, .ref 2)] [.long v1] ((T_29 N g s).2.1, hm_sh L ((T_29 N g s).2.2.1), (T_29 N g s).2.2.2) _ Q
        refine hm_st hR (?_)
        refine hm_st hR ⟨hm_le rfl, hm_le rfl, hm_le rfl, (0, 0), Nat.zero_le _, Nat.zero_le _, ?_⟩
        refine sp_60 hR (Nat.le_trans hN (G_29 N g s)) ?_
        show R 30 134 [(3, .int v3), (1, .long v1), (0, .ref 2)] [.long (T_60 ((T_29 N g s).2.2.2) v1 0)] ((T_29 N g s).2.1, hm_sh L ((T_29 N g s).2.2.1), (T_29 N g s).2.2.2) _ Q
        exact hm_st hR (hm_pal hq)
      · rw [if_neg c123] at hq
        show R 30 126 [(3, .int v3), (1, .long v1), (0, .ref 2)] [.long v1] ((T_29 N g s).2.1, hm_sh L ((T_29 N g s).2.2.1), (T_29 N g s).2.2.2) _ Q
        refine hm_st hR (hm_st hR (?_))
        refine hm_st hR ⟨hm_le rfl, hm_le rfl, hm_le rfl, (0, 0), Nat.zero_le _, Nat.zero_le _, ?_⟩
        refine sp_60 hR (Nat.le_trans hN (G_29 N g s)) ?_
        show R 30 134 [(3, .int v3), (1, .long v1), (0, .ref 2)] [.long (T_60 ((T_29 N g s).2.2.2) v1 1)] ((T_29 N g s).2.1, hm_sh L ((T_29 N g s).2.2.1), (T_29 N g s).2.2.2) _ Q
        exact hm_st hR (hm_pal hq)
    · rw [if_neg c98] at hq
      show R 30 101 [(3, .int v3), (1, .long v1), (0, .ref 2)] [] (N, hm_sh L g, s) _ Q
      refine hm_st hR (hm_st hR (hm_st hR (?_)))
      refine hm_st hR ⟨hm_le rfl, rfl, (hm_le rfl), (hm_ltN hN rfl), hm_le rfl, hm_le rfl, (1, 4), (by show 1 ≤ b.1; omega), (by show 4 ≤ b.2; omega), ?_⟩
      refine sp_58 hR hN (Nat.le_refl _) (Nat.le_refl _) hinv ?_
      show R 30 107 [(3, .int v3), (1, .long v1), (0, .ref 2)] [.int (T_58 N g s v3).1, .long v1] ((T_58 N g s v3).2.1, hm_sh L ((T_58 N g s v3).2.2.1), (T_58 N g s v3).2.2.2) _ Q
      refine hm_st hR (?_)
      refine hm_st hR ⟨hm_le rfl, hm_le rfl, hm_le rfl, (0, 0), Nat.zero_le _, Nat.zero_le _, ?_⟩
      refine sp_60 hR (Nat.le_trans hN (G_58 N g s v3)) ?_
      show R 30 111 [(3, .int v3), (1, .long v1), (0, .ref 2)] [.long (T_60 ((T_58 N g s v3).2.2.2) v1 (((T_58 N g s v3).1).toInt64))] ((T_58 N g s v3).2.1, hm_sh L ((T_58 N g s v3).2.2.1), (T_58 N g s v3).2.2.2) _ Q
      refine hm_st hR (hm_st hR (hm_st hR (?_)))
      show R 30 96 [(3, .int (v3 + 1)), (1, .long (T_60 ((T_58 N g s v3).2.2.2) v1 (((T_58 N g s v3).1).toInt64))), (0, .ref 2)] [] ((T_58 N g s v3).2.1, hm_sh L ((T_58 N g s v3).2.2.1), (T_58 N g s v3).2.2.2) _ Q
      exact hm_lvS hR (by intro q hq; simp only [List.mem_cons, List.not_mem_nil, or_false] at hq ⊢; rcases hq with rfl | rfl | rfl <;> simp) (ih _ _ _ _ _ _ (Nat.le_trans hN (G_58 N g s v3)) (by unfold T_58; (repeat' split); all_goals first | exact hinv | (show T_50 N s 47 1 < 100000; rw [N_50 (hm_cN hN)]; exact hinv)) (hm_dcx c98 hm) (by show n * 1 + 1 ≤ b.1 - 1 - 0; omega) (by show n * 4 + 4 ≤ b.2 - 4 - 0; omega) hq)
set_option maxRecDepth 20000 in
theorem sp_30 {R : hm_R} (hR : hm_Cm R) {N L : Nat} {g : Nat → hm_Sh} {s : hm_St} {b : hm_B} {Q : hm_Q} (hN : 68 ≤ N) (hb1 : 8 ≤ b.1) (hb2 : 32 ≤ b.2) (hO : s 47 1 < 100000) (hE : (T_124 s) 64 1 ≤ 100000) (hE2 : (T_124 s) 64 1 - 1 < 100000) (hq : Q (.inr (some (.long (T_30 N g s).1))) ((T_30 N g s).2.1, hm_sh L (T_30 N g s).2.2.1, (T_30 N g s).2.2.2)) : R 30 0 (lv_args 0 [.ref 2]) [] (N, hm_sh L g, s) b Q := by
  unfold T_30 at hq
  show R 30 0 [(0, .ref 2)] [] (N, hm_sh L g, s) _ Q
  refine hm_st hR (hm_st hR (hm_st hR (hm_st hR (?_))))
  refine hm_st hR ⟨hm_le rfl, rfl, (hm_le rfl), (hm_ltN hN rfl), hm_le rfl, hm_le rfl, (0, 0), Nat.zero_le _, Nat.zero_le _, ?_⟩
  refine sp_61 hR hN ?_
  show R 30 9 [(1, .long 58283), (0, .ref 2)] [.long (T_61 s 58283)] (N, hm_sh L g, s) _ Q
  refine hm_st hR (hm_st hR (hm_st hR (?_)))
  refine hm_st hR ⟨hm_le rfl, rfl, (hm_le rfl), (hm_ltN hN rfl), hm_le rfl, hm_le rfl, (0, 0), Nat.zero_le _, Nat.zero_le _, ?_⟩
  refine sp_62 hR hN ?_
  show R 30 15 [(1, .long (T_61 s 58283)), (0, .ref 2)] [.long (T_62 s (T_61 s 58283))] (N, hm_sh L g, s) _ Q
  refine hm_st hR (hm_st hR (hm_st hR (?_)))
  refine hm_st hR ⟨hm_le rfl, rfl, (hm_le rfl), (hm_ltN hN rfl), hm_le rfl, hm_le rfl, (0, 0), Nat.zero_le _, Nat.zero_le _, ?_⟩
  refine sp_63 hR hN ?_
  show R 30 21 [(1, .long (T_62 s (T_61 s 58283))), (0, .ref 2)] [.long (T_63 s (T_62 s (T_61 s 58283)))] (N, hm_sh L g, s) _ Q
  refine hm_st hR (hm_st hR (hm_st hR (hm_st hR ⟨rfl, hm_le rfl, (hm_ltN hN rfl), hm_st hR (?_)⟩)))
  refine hm_st hR ⟨hm_le rfl, rfl, (hm_le rfl), (hm_ltN hN rfl), hm_le rfl, hm_le rfl, (0, 0), Nat.zero_le _, Nat.zero_le _, ?_⟩
  refine sp_176 hR hN ?_
  show R 30 31 [(1, .long (T_63 s (T_62 s (T_61 s 58283)))), (0, .ref 2)] [.int (T_176 s 1), .long (T_63 s (T_62 s (T_61 s 58283)))] (N, hm_sh L g, s) _ Q
  refine hm_st hR (?_)
  refine hm_st hR ⟨hm_le rfl, hm_le rfl, hm_le rfl, (0, 0), Nat.zero_le _, Nat.zero_le _, ?_⟩
  refine sp_60 hR hN ?_
  show R 30 35 [(1, .long (T_63 s (T_62 s (T_61 s 58283)))), (0, .ref 2)] [.long (T_60 s (T_63 s (T_62 s (T_61 s 58283))) (((T_176 s 1)).toInt64))] (N, hm_sh L g, s) _ Q
  refine hm_st hR (hm_st hR (hm_st hR (hm_st hR ⟨rfl, hm_le rfl, (hm_ltN hN rfl), hm_st hR (?_)⟩)))
  refine hm_st hR ⟨hm_le rfl, rfl, (hm_le rfl), (hm_ltN hN rfl), hm_le rfl, hm_le rfl, (0, 0), Nat.zero_le _, Nat.zero_le _, ?_⟩
  refine sp_176 hR hN ?_
  show R 30 45 [(1, .long (T_60 s (T_63 s (T_62 s (T_61 s 58283))) (((T_176 s 1)).toInt64))), (0, .ref 2)] [.int (T_176 s 0), .long (T_60 s (T_63 s (T_62 s (T_61 s 58283))) (((T_176 s 1)).toInt64))] (N, hm_sh L g, s) _ Q
  refine hm_st hR (?_)
  refine hm_st hR ⟨hm_le rfl, hm_le rfl, hm_le rfl, (0, 0), Nat.zero_le _, Nat.zero_le _, ?_⟩
  refine sp_60 hR hN ?_
  show R 30 49 [(1, .long (T_60 s (T_63 s (T_62 s (T_61 s 58283))) (((T_176 s 1)).toInt64))), (0, .ref 2)] [.long (T_60 s (T_60 s (T_63 s (T_62 s (T_61 s 58283))) (((T_176 s 1)).toInt64)) (((T_176 s 0)).toInt64))] (N, hm_sh L g, s) _ Q
  refine hm_st hR (hm_st hR (hm_st hR ⟨rfl, hm_le rfl, (hm_ltN hN rfl), hm_st hR (hm_st hR ⟨rfl, hm_le rfl, (hm_ltN hN rfl), ?_⟩)⟩))
  refine hm_st hR ⟨hm_le rfl, rfl, (hm_le rfl), (hm_ltN hN rfl), hm_le rfl, hm_le rfl, (0, 0), Nat.zero_le _, Nat.zero_le _, ?_⟩
  refine sp_124 hR hN ?_
  show R 30 61 [(1, .long (T_60 s (T_60 s (T_63 s (T_62 s (T_61 s 58283))) (((T_176 s 1)).toInt64)) (((T_176 s 0)).toInt64))), (0, .ref 2)] [] (N, hm_sh L g, (T_124 s)) _ Q
  refine hm_st hR (hm_st hR (hm_st hR ⟨rfl, hm_le rfl, (hm_ltN hN rfl), ?_⟩))
  refine hm_st hR ⟨hm_le rfl, rfl, (hm_le rfl), (hm_ltN hN rfl), hm_le rfl, hm_le rfl, (0, 0), Nat.zero_le _, Nat.zero_le _, ?_⟩
  refine sp_127 hR hN hE2 ?_
  show R 30 69 [(1, .long (T_60 s (T_60 s (T_63 s (T_62 s (T_61 s 58283))) (((T_176 s 1)).toInt64)) (((T_176 s 0)).toInt64))), (0, .ref 2)] [.int (T_127 (T_124 s)), .long (T_60 s (T_60 s (T_63 s (T_62 s (T_61 s 58283))) (((T_176 s 1)).toInt64)) (((T_176 s 0)).toInt64))] (N, hm_sh L g, (T_124 s)) _ Q
  refine hm_st hR (?_)
  refine hm_st hR ⟨hm_le rfl, hm_le rfl, hm_le rfl, (0, 0), Nat.zero_le _, Nat.zero_le _, ?_⟩
  refine sp_60 hR hN ?_
  show R 30 73 [(1, .long (T_60 s (T_60 s (T_63 s (T_62 s (T_61 s 58283))) (((T_176 s 1)).toInt64)) (((T_176 s 0)).toInt64))), (0, .ref 2)] [.long (T_60 (T_124 s) (T_60 s (T_60 s (T_63 s (T_62 s (T_61 s 58283))) (((T_176 s 1)).toInt64)) (((T_176 s 0)).toInt64)) (((T_127 (T_124 s))).toInt64))] (N, hm_sh L g, (T_124 s)) _ Q
  refine hm_st hR (hm_st hR (hm_st hR (hm_st hR ⟨rfl, hm_le rfl, (hm_ltN hN rfl), hm_st hR (?_)⟩)))
  refine hm_st hR ⟨hm_le rfl, rfl, (hm_le rfl), (hm_ltN hN rfl), hm_le rfl, hm_le rfl, (0, 0), Nat.zero_le _, Nat.zero_le _, ?_⟩
  refine sp_128 hR hN hE ?_
  show R 30 83 [(1, .long (T_60 (T_124 s) (T_60 s (T_60 s (T_63 s (T_62 s (T_61 s 58283))) (((T_176 s 1)).toInt64)) (((T_176 s 0)).toInt64)) (((T_127 (T_124 s))).toInt64))), (0, .ref 2)] [.int (T_128 (T_124 s) 1), .long (T_60 (T_124 s) (T_60 s (T_60 s (T_63 s (T_62 s (T_61 s 58283))) (((T_176 s 1)).toInt64)) (((T_176 s 0)).toInt64)) (((T_127 (T_124 s))).toInt64))] (N, hm_sh L g, (T_124 s)) _ Q
  refine hm_st hR (?_)
  refine hm_st hR ⟨hm_le rfl, hm_le rfl, hm_le rfl, (0, 0), Nat.zero_le _, Nat.zero_le _, ?_⟩
  refine sp_60 hR hN ?_
  show R 30 87 [(1, .long (T_60 (T_124 s) (T_60 s (T_60 s (T_63 s (T_62 s (T_61 s 58283))) (((T_176 s 1)).toInt64)) (((T_176 s 0)).toInt64)) (((T_127 (T_124 s))).toInt64))), (0, .ref 2)] [.long (T_60 (T_124 s) (T_60 (T_124 s) (T_60 s (T_60 s (T_63 s (T_62 s (T_61 s 58283))) (((T_176 s 1)).toInt64)) (((T_176 s 0)).toInt64)) (((T_127 (T_124 s))).toInt64)) (((T_128 (T_124 s) 1)).toInt64))] (N, hm_sh L g, (T_124 s)) _ Q
  refine hm_st hR (hm_st hR (hm_st hR (?_)))
  refine hm_st hR ⟨hm_le rfl, rfl, (hm_le rfl), (hm_ltN hN rfl), hm_le rfl, hm_le rfl, (0, 0), Nat.zero_le _, Nat.zero_le _, ?_⟩
  refine sp_64 hR hN ?_
  show R 30 93 [(1, .long (T_60 (T_124 s) (T_60 (T_124 s) (T_60 s (T_60 s (T_63 s (T_62 s (T_61 s 58283))) (((T_176 s 1)).toInt64)) (((T_176 s 0)).toInt64)) (((T_127 (T_124 s))).toInt64)) (((T_128 (T_124 s) 1)).toInt64))), (0, .ref 2)] [.long (T_64 (T_124 s) (T_60 (T_124 s) (T_60 (T_124 s) (T_60 s (T_60 s (T_63 s (T_62 s (T_61 s 58283))) (((T_176 s 1)).toInt64)) (((T_176 s 0)).toInt64)) (((T_127 (T_124 s))).toInt64)) (((T_128 (T_124 s) 1)).toInt64)))] (N, hm_sh L g, (T_124 s)) _ Q
  refine hm_st hR (hm_st hR (hm_st hR (?_)))
  show R 30 96 [(3, .int 0), (1, .long (T_64 (T_124 s) (T_60 (T_124 s) (T_60 (T_124 s) (T_60 s (T_60 s (T_63 s (T_62 s (T_61 s 58283))) (((T_176 s 1)).toInt64)) (((T_176 s 0)).toInt64)) (((T_127 (T_124 s))).toInt64)) (((T_128 (T_124 s) 1)).toInt64)))), (0, .ref 2)] [] (N, hm_sh L g, (T_124 s)) _ Q
  exact lp_30_96 hR _ _ _ _ _ _ _ hN (by simp only [N_124 (show (47 : Nat) ≠ 64 by decide) (show (47 : Nat) ≠ 66 by decide)]; exact hO) (by decide) (by show 4 * 1 + 1 ≤ b.1 - 0 - 0 - 0 - 0 - 0 - 0 - 0 - 0 - 0 - 0 - 0 - 0 - 0; omega) (by show 4 * 4 + 4 ≤ b.2 - 0 - 0 - 0 - 0 - 0 - 0 - 0 - 0 - 0 - 0 - 0 - 0 - 0; omega) hq
/-- CurvekeyHouse$Curves.enterStep(III)V -/
def T_93 (s : hm_St) (p1 : Int32) (p2 : Int32) (p3 : Int32) : hm_St := (T_179 (T_179 s 5 16 ((4 * (p1 - 2)) + (p3 >>> ((3 : Int32) &&& 31))) p2) 7 16 ((4 * (p1 - 2)) + (p3 >>> ((3 : Int32) &&& 31))) (p3 &&& 7))
theorem N_93 {c j : Nat} (h5 : c ≠ 5) (h7 : c ≠ 7) {s : hm_St} {p1 : Int32} {p2 : Int32} {p3 : Int32} : (T_93 s p1 p2 p3) c j = s c j := by
  unfold T_93
  repeat' split
  all_goals first | with_reducible rfl | simp only [hm_w1n h5, hm_w1n h7, N_179 h5, N_179 h7]
set_option maxRecDepth 20000 in
theorem sp_93 {R : hm_R} (hR : hm_Cm R) {N L : Nat} {g : Nat → hm_Sh} {s : hm_St} {b : hm_B} {Q : hm_Q} (hN : 68 ≤ N) {p1 : Int32} {p2 : Int32} {p3 : Int32} (hq : Q (.inr none) (N, hm_sh L g, (T_93 s p1 p2 p3))) : R 93 0 (lv_args 0 [.ref 3, .int p1, .int p2, .int p3]) [] (N, hm_sh L g, s) b Q := by
  unfold T_93 at hq
  show R 93 0 [(0, .ref 3), (1, .int p1), (2, .int p2), (3, .int p3)] [] (N, hm_sh L g, s) _ Q
  refine hm_st hR (hm_st hR (hm_st hR (hm_st hR (hm_st hR (hm_st hR (hm_st hR (hm_st hR (hm_st hR (hm_st hR (hm_st hR (hm_st hR ⟨rfl, hm_le rfl, (hm_ltN hN rfl), hm_st hR (hm_st hR (?_))⟩)))))))))))
  refine hm_st hR ⟨hm_le rfl, rfl, (hm_le rfl), (hm_ltN hN rfl), hm_le rfl, hm_le rfl, (0, 0), Nat.zero_le _, Nat.zero_le _, ?_⟩
  refine sp_179 hR hN (rr := 4) (aa := 5) (nn := 16) rfl rfl (hm_le rfl) (hm_ltN hN rfl) rfl rfl (hm_le rfl) (hm_ltN hN rfl) (by decide) ?_
  show R 93 21 [(4, .int ((4 * (p1 - 2)) + (p3 >>> ((3 : Int32) &&& 31)))), (0, .ref 3), (1, .int p1), (2, .int p2), (3, .int p3)] [] (N, hm_sh L g, (T_179 s 5 16 ((4 * (p1 - 2)) + (p3 >>> ((3 : Int32) &&& 31))) p2)) _ Q
  refine hm_st hR (hm_st hR ⟨rfl, hm_le rfl, (hm_ltN hN rfl), hm_st hR (hm_st hR (hm_st hR (hm_st hR (?_))))⟩)
  refine hm_st hR ⟨hm_le rfl, rfl, (hm_le rfl), (hm_ltN hN rfl), hm_le rfl, hm_le rfl, (0, 0), Nat.zero_le _, Nat.zero_le _, ?_⟩
  refine sp_179 hR hN (rr := 6) (aa := 7) (nn := 16) rfl rfl (hm_le rfl) (hm_ltN hN rfl) rfl rfl (hm_le rfl) (hm_ltN hN rfl) (by decide) ?_
  show R 93 34 [(4, .int ((4 * (p1 - 2)) + (p3 >>> ((3 : Int32) &&& 31)))), (0, .ref 3), (1, .int p1), (2, .int p2), (3, .int p3)] [] (N, hm_sh L g, (T_179 (T_179 s 5 16 ((4 * (p1 - 2)) + (p3 >>> ((3 : Int32) &&& 31))) p2) 7 16 ((4 * (p1 - 2)) + (p3 >>> ((3 : Int32) &&& 31))) (p3 &&& 7))) _ Q
  exact hm_st hR (hq)
