/-! The methods as functions; the abstract machine does them. -/
def T_139_4 : Nat → hm_St → Int32 → Int32 → Int32 → Int32
  | 0, s, _, _, _ => 0
  | n + 1, s, v1, v2, v3 => (if (s 42 4) ≤ v3 then v2 else (if v1 < (T_178 s 46 1025 v3) then v2 else (T_139_4 n s v1 v3 (v3 + 1))))
/-- CurvekeyHouse$Pages.pageOf(I)I -/
def T_139 (s : hm_St) (p1 : Int32) : Int32 := (T_139_4 (hm_df (s 42 4) 1 + 1) s p1 0 1)
set_option maxRecDepth 20000 in
theorem lp_139_4 {R : hm_R} (hR : hm_Cm R) {N L : Nat} {g : Nat → hm_Sh} {b : hm_B} {Q : hm_Q} (hN : 68 ≤ N) : ∀ (n : Nat) (s : hm_St) (v1 : Int32) (v2 : Int32) (v3 : Int32), hm_df (s 42 4) v3 < n → (hq : Q (.inr (some (.int (T_139_4 n s v1 v2 v3)))) (N, hm_sh L g, s)) → R 139 4 [(3, .int v3), (2, .int v2), (0, .ref 42), (1, .int v1)] [] (N, hm_sh L g, s) b Q := by
  intro n
  induction n with
  | zero => intro s v1 v2 v3 hm _; exact absurd hm (Nat.not_lt_zero _)
  | succ n ih =>
    intro s v1 v2 v3 hm hq
    unfold T_139_4 at hq
    refine hm_st hR (hm_st hR (hm_st hR ⟨rfl, hm_le rfl, (hm_ltN hN rfl), ?_⟩))
    show R 139 9 [(3, .int v3), (2, .int v2), (0, .ref 42), (1, .int v1)] [.int (s 42 4), .int v3] (N, hm_sh L g, s) _ Q
    refine hm_st hR ⟨fun c9 => ?_, fun c9 => ?_⟩
    · rw [if_pos c9] at hq
      show R 139 32 [(3, .int v3), (2, .int v2), (0, .ref 42), (1, .int v1)] [] (N, hm_sh L g, s) _ Q
      refine hm_st hR (?_)
      exact hm_st hR ⟨fun z => absurd z (by decide), hq⟩
    · rw [if_neg c9] at hq
      show R 139 12 [(3, .int v3), (2, .int v2), (0, .ref 42), (1, .int v1)] [] (N, hm_sh L g, s) _ Q
      refine hm_st hR (hm_st hR ⟨rfl, hm_le rfl, (hm_ltN hN rfl), hm_st hR (?_)⟩)
      refine hm_st hR ⟨hm_le rfl, rfl, (hm_le rfl), (hm_ltN hN rfl), hm_le rfl, hm_le rfl, (0, 0), Nat.zero_le _, Nat.zero_le _, ?_⟩
      refine sp_178 hR hN (rr := 45) (aa := 46) (nn := 1025) rfl rfl (hm_le rfl) (hm_ltN hN rfl) rfl rfl (hm_le rfl) (hm_ltN hN rfl) (by decide) ?_
      show R 139 20 [(3, .int v3), (2, .int v2), (0, .ref 42), (1, .int v1)] [.int (T_178 s 46 1025 v3)] (N, hm_sh L g, s) _ Q
      refine hm_st hR (?_)
      show R 139 21 [(3, .int v3), (2, .int v2), (0, .ref 42), (1, .int v1)] [.int v1, .int (T_178 s 46 1025 v3)] (N, hm_sh L g, s) _ Q
      refine hm_st hR ⟨fun c21 => ?_, fun c21 => ?_⟩
      · rw [if_pos c21] at hq
        show R 139 32 [(3, .int v3), (2, .int v2), (0, .ref 42), (1, .int v1)] [] (N, hm_sh L g, s) _ Q
        refine hm_st hR (?_)
        exact hm_st hR ⟨fun z => absurd z (by decide), hq⟩
      · rw [if_neg c21] at hq
        show R 139 24 [(3, .int v3), (2, .int v2), (0, .ref 42), (1, .int v1)] [] (N, hm_sh L g, s) _ Q
        refine hm_st hR (hm_st hR (hm_st hR (hm_st hR (?_))))
        show R 139 4 [(3, .int (v3 + 1)), (2, .int v3), (0, .ref 42), (1, .int v1)] [] (N, hm_sh L g, s) _ Q
        exact hm_lvS hR (by intro q hq; simp only [List.mem_cons, List.not_mem_nil, or_false] at hq ⊢; rcases hq with rfl | rfl | rfl | rfl <;> simp) (ih s v1 v3 (v3 + 1) (hm_dcx c9 hm) hq)
set_option maxRecDepth 20000 in
theorem sp_139 {R : hm_R} (hR : hm_Cm R) {N L : Nat} {g : Nat → hm_Sh} {s : hm_St} {b : hm_B} {Q : hm_Q} (hN : 68 ≤ N) {p1 : Int32} (hq : Q (.inr (some (.int (T_139 s p1)))) (N, hm_sh L g, s)) : R 139 0 (lv_args 0 [.ref 42, .int p1]) [] (N, hm_sh L g, s) b Q := by
  unfold T_139 at hq
  show R 139 0 [(0, .ref 42), (1, .int p1)] [] (N, hm_sh L g, s) _ Q
  refine hm_st hR (hm_st hR (hm_st hR (hm_st hR (?_))))
  show R 139 4 [(3, .int 1), (2, .int 0), (0, .ref 42), (1, .int p1)] [] (N, hm_sh L g, s) _ Q
  exact lp_139_4 hR hN _ _ _ _ _ (Nat.lt_succ_self _) hq
/-- CurvekeyHouse$Points.speedX(I)I -/
def T_163 (s : hm_St) (p1 : Int32) : Int32 := (T_178 s 22 80 p1)
set_option maxRecDepth 20000 in
theorem sp_163 {R : hm_R} (hR : hm_Cm R) {N L : Nat} {g : Nat → hm_Sh} {s : hm_St} {b : hm_B} {Q : hm_Q} (hN : 68 ≤ N) {p1 : Int32} (hq : Q (.inr (some (.int (T_163 s p1)))) (N, hm_sh L g, s)) : R 163 0 (lv_args 0 [.ref 14, .int p1]) [] (N, hm_sh L g, s) b Q := by
  unfold T_163 at hq
  show R 163 0 [(0, .ref 14), (1, .int p1)] [] (N, hm_sh L g, s) _ Q
  refine hm_st hR (hm_st hR ⟨rfl, hm_le rfl, (hm_ltN hN rfl), hm_st hR (?_)⟩)
  refine hm_st hR ⟨hm_le rfl, rfl, (hm_le rfl), (hm_ltN hN rfl), hm_le rfl, hm_le rfl, (0, 0), Nat.zero_le _, Nat.zero_le _, ?_⟩
  refine sp_178 hR hN (rr := 21) (aa := 22) (nn := 80) rfl rfl (hm_le rfl) (hm_ltN hN rfl) rfl rfl (hm_le rfl) (hm_ltN hN rfl) (by decide) ?_
  show R 163 8 [(0, .ref 14), (1, .int p1)] [.int (T_178 s 22 80 p1)] (N, hm_sh L g, s) _ Q
  exact hm_st hR ⟨fun z => absurd z (by decide), hq⟩
/-- CurvekeyHouse$Points.speedY(I)I -/
def T_164 (s : hm_St) (p1 : Int32) : Int32 := (T_178 s 24 80 p1)
set_option maxRecDepth 20000 in
theorem sp_164 {R : hm_R} (hR : hm_Cm R) {N L : Nat} {g : Nat → hm_Sh} {s : hm_St} {b : hm_B} {Q : hm_Q} (hN : 68 ≤ N) {p1 : Int32} (hq : Q (.inr (some (.int (T_164 s p1)))) (N, hm_sh L g, s)) : R 164 0 (lv_args 0 [.ref 14, .int p1]) [] (N, hm_sh L g, s) b Q := by
  unfold T_164 at hq
  show R 164 0 [(0, .ref 14), (1, .int p1)] [] (N, hm_sh L g, s) _ Q
  refine hm_st hR (hm_st hR ⟨rfl, hm_le rfl, (hm_ltN hN rfl), hm_st hR (?_)⟩)
  refine hm_st hR ⟨hm_le rfl, rfl, (hm_le rfl), (hm_ltN hN rfl), hm_le rfl, hm_le rfl, (0, 0), Nat.zero_le _, Nat.zero_le _, ?_⟩
  refine sp_178 hR hN (rr := 23) (aa := 24) (nn := 80) rfl rfl (hm_le rfl) (hm_ltN hN rfl) rfl rfl (hm_le rfl) (hm_ltN hN rfl) (by decide) ?_
  show R 164 8 [(0, .ref 14), (1, .int p1)] [.int (T_178 s 24 80 p1)] (N, hm_sh L g, s) _ Q
  exact hm_st hR ⟨fun z => absurd z (by decide), hq⟩
/-- CurvekeyHouse.pointFact(II)I -/
def T_53 (s : hm_St) (p1 : Int32) (p2 : Int32) : Int32 := (if p2 = 0 then (T_161 s p1) else (if p2 = 1 then (T_162 s p1) else (if p2 = 2 then (T_40 s p1) else (if p2 = 3 then (if (T_160 s p1) = 0 then 0 else 1) else (if p2 = 4 then (T_114 s p1) else (if p2 = 5 then (T_115 s p1) else (if p2 = 6 then (T_116 s p1) else (if p2 = 7 then (if (T_160 s p1) = 0 then (-1) else (T_139 s (T_40 s p1))) else (if p2 = 8 then (T_163 s p1) else (T_164 s p1))))))))))
set_option maxRecDepth 20000 in
theorem sp_53 {R : hm_R} (hR : hm_Cm R) {N L : Nat} {g : Nat → hm_Sh} {s : hm_St} {b : hm_B} {Q : hm_Q} (hN : 68 ≤ N) {p1 : Int32} {p2 : Int32} (hq : Q (.inr (some (.int (T_53 s p1 p2)))) (N, hm_sh L g, s)) : R 53 0 (lv_args 0 [.ref 2, .int p1, .int p2]) [] (N, hm_sh L g, s) b Q := by
  unfold T_53 at hq
  show R 53 0 [(0, .ref 2), (1, .int p1), (2, .int p2)] [] (N, hm_sh L g, s) _ Q
  refine hm_st hR (?_)
  show R 53 1 [(0, .ref 2), (1, .int p1), (2, .int p2)] [.int p2] (N, hm_sh L g, s) _ Q
  by_cases w1_0 : p2 = 0
  · rw [if_pos w1_0] at hq
    refine hm_tsS hR 52 (by rfl) (by rw [w1_0]; rfl) ?_
    show R 53 52 [(0, .ref 2), (1, .int p1), (2, .int p2)] [] (N, hm_sh L g, s) _ Q
    refine hm_st hR (hm_st hR ⟨rfl, hm_le rfl, (hm_ltN hN rfl), hm_st hR (?_)⟩)
    refine hm_st hR ⟨hm_le rfl, rfl, (hm_le rfl), (hm_ltN hN rfl), hm_le rfl, hm_le rfl, (0, 0), Nat.zero_le _, Nat.zero_le _, ?_⟩
    refine sp_161 hR hN ?_
    show R 53 60 [(0, .ref 2), (1, .int p1), (2, .int p2)] [.int (T_161 s p1)] (N, hm_sh L g, s) _ Q
    exact hm_st hR ⟨fun z => absurd z (by decide), hq⟩
  rw [if_neg w1_0] at hq
  by_cases w1_1 : p2 = 1
  · rw [if_pos w1_1] at hq
    refine hm_tsS hR 61 (by rfl) (by rw [w1_1]; rfl) ?_
    show R 53 61 [(0, .ref 2), (1, .int p1), (2, .int p2)] [] (N, hm_sh L g, s) _ Q
    refine hm_st hR (hm_st hR ⟨rfl, hm_le rfl, (hm_ltN hN rfl), hm_st hR (?_)⟩)
    refine hm_st hR ⟨hm_le rfl, rfl, (hm_le rfl), (hm_ltN hN rfl), hm_le rfl, hm_le rfl, (0, 0), Nat.zero_le _, Nat.zero_le _, ?_⟩
    refine sp_162 hR hN ?_
    show R 53 69 [(0, .ref 2), (1, .int p1), (2, .int p2)] [.int (T_162 s p1)] (N, hm_sh L g, s) _ Q
    exact hm_st hR ⟨fun z => absurd z (by decide), hq⟩
  rw [if_neg w1_1] at hq
  by_cases w1_2 : p2 = 2
  · rw [if_pos w1_2] at hq
    refine hm_tsS hR 70 (by rfl) (by rw [w1_2]; rfl) ?_
    show R 53 70 [(0, .ref 2), (1, .int p1), (2, .int p2)] [] (N, hm_sh L g, s) _ Q
    refine hm_st hR (hm_st hR (?_))
    refine hm_st hR ⟨hm_le rfl, rfl, (hm_le rfl), (hm_ltN hN rfl), hm_le rfl, hm_le rfl, (0, 0), Nat.zero_le _, Nat.zero_le _, ?_⟩
    refine sp_40 hR hN ?_
    show R 53 75 [(0, .ref 2), (1, .int p1), (2, .int p2)] [.int (T_40 s p1)] (N, hm_sh L g, s) _ Q
    exact hm_st hR ⟨fun z => absurd z (by decide), hq⟩
  rw [if_neg w1_2] at hq
  by_cases w1_3 : p2 = 3
  · rw [if_pos w1_3] at hq
    refine hm_tsS hR 76 (by rfl) (by rw [w1_3]; rfl) ?_
    show R 53 76 [(0, .ref 2), (1, .int p1), (2, .int p2)] [] (N, hm_sh L g, s) _ Q
    refine hm_st hR (hm_st hR ⟨rfl, hm_le rfl, (hm_ltN hN rfl), hm_st hR (?_)⟩)
    refine hm_st hR ⟨hm_le rfl, rfl, (hm_le rfl), (hm_ltN hN rfl), hm_le rfl, hm_le rfl, (0, 0), Nat.zero_le _, Nat.zero_le _, ?_⟩
    refine sp_160 hR hN ?_
    show R 53 84 [(0, .ref 2), (1, .int p1), (2, .int p2)] [.int (T_160 s p1)] (N, hm_sh L g, s) _ Q
    show R 53 84 [(0, .ref 2), (1, .int p1), (2, .int p2)] [.int (T_160 s p1)] (N, hm_sh L g, s) _ Q
    suffices G : R 53 92 [(0, .ref 2), (1, .int p1), (2, .int p2)] [.int (if (T_160 s p1) = 0 then 0 else 1)] (N, hm_sh L g, s) ((((b.1 - 0, b.2 - 0).1 - 0, (b.1 - 0, b.2 - 0).2 - 0).1 - 0, ((b.1 - 0, b.2 - 0).1 - 0, (b.1 - 0, b.2 - 0).2 - 0).2 - 0).1 - 0, (((b.1 - 0, b.2 - 0).1 - 0, (b.1 - 0, b.2 - 0).2 - 0).1 - 0, ((b.1 - 0, b.2 - 0).1 - 0, (b.1 - 0, b.2 - 0).2 - 0).2 - 0).2 - 0) Q by
      show R 53 84 [(0, .ref 2), (1, .int p1), (2, .int p2)] [.int (T_160 s p1)] (N, hm_sh L g, s) _ Q
      refine hm_st hR ⟨fun c => ?_, fun c => ?_⟩
      · rw [if_pos c] at G; exact hm_st hR (G)
      · rw [if_neg c] at G; exact hm_st hR (hm_st hR (G))
    exact hm_st hR ⟨fun z => absurd z (by decide), hq⟩
  rw [if_neg w1_3] at hq
  by_cases w1_4 : p2 = 4
  · rw [if_pos w1_4] at hq
    refine hm_tsS hR 93 (by rfl) (by rw [w1_4]; rfl) ?_
    show R 53 93 [(0, .ref 2), (1, .int p1), (2, .int p2)] [] (N, hm_sh L g, s) _ Q
    refine hm_st hR (hm_st hR ⟨rfl, hm_le rfl, (hm_ltN hN rfl), hm_st hR (?_)⟩)
    refine hm_st hR ⟨hm_le rfl, rfl, (hm_le rfl), (hm_ltN hN rfl), hm_le rfl, hm_le rfl, (0, 0), Nat.zero_le _, Nat.zero_le _, ?_⟩
    refine sp_114 hR hN ?_
    show R 53 101 [(0, .ref 2), (1, .int p1), (2, .int p2)] [.int (T_114 s p1)] (N, hm_sh L g, s) _ Q
    exact hm_st hR ⟨fun z => absurd z (by decide), hq⟩
  rw [if_neg w1_4] at hq
  by_cases w1_5 : p2 = 5
  · rw [if_pos w1_5] at hq
    refine hm_tsS hR 102 (by rfl) (by rw [w1_5]; rfl) ?_
    show R 53 102 [(0, .ref 2), (1, .int p1), (2, .int p2)] [] (N, hm_sh L g, s) _ Q
    refine hm_st hR (hm_st hR ⟨rfl, hm_le rfl, (hm_ltN hN rfl), hm_st hR (?_)⟩)
    refine hm_st hR ⟨hm_le rfl, rfl, (hm_le rfl), (hm_ltN hN rfl), hm_le rfl, hm_le rfl, (0, 0), Nat.zero_le _, Nat.zero_le _, ?_⟩
    refine sp_115 hR hN ?_
    show R 53 110 [(0, .ref 2), (1, .int p1), (2, .int p2)] [.int (T_115 s p1)] (N, hm_sh L g, s) _ Q
    exact hm_st hR ⟨fun z => absurd z (by decide), hq⟩
  rw [if_neg w1_5] at hq
  by_cases w1_6 : p2 = 6
  · rw [if_pos w1_6] at hq
    refine hm_tsS hR 111 (by rfl) (by rw [w1_6]; rfl) ?_
    show R 53 111 [(0, .ref 2), (1, .int p1), (2, .int p2)] [] (N, hm_sh L g, s) _ Q
    refine hm_st hR (hm_st hR ⟨rfl, hm_le rfl, (hm_ltN hN rfl), hm_st hR (?_)⟩)
    refine hm_st hR ⟨hm_le rfl, rfl, (hm_le rfl), (hm_ltN hN rfl), hm_le rfl, hm_le rfl, (0, 0), Nat.zero_le _, Nat.zero_le _, ?_⟩
    refine sp_116 hR hN ?_
    show R 53 119 [(0, .ref 2), (1, .int p1), (2, .int p2)] [.int (T_116 s p1)] (N, hm_sh L g, s) _ Q
    exact hm_st hR ⟨fun z => absurd z (by decide), hq⟩
  rw [if_neg w1_6] at hq
  by_cases w1_7 : p2 = 7
  · rw [if_pos w1_7] at hq
    refine hm_tsS hR 120 (by rfl) (by rw [w1_7]; rfl) ?_
    show R 53 120 [(0, .ref 2), (1, .int p1), (2, .int p2)] [] (N, hm_sh L g, s) _ Q
    refine hm_st hR (hm_st hR ⟨rfl, hm_le rfl, (hm_ltN hN rfl), hm_st hR (?_)⟩)
    refine hm_st hR ⟨hm_le rfl, rfl, (hm_le rfl), (hm_ltN hN rfl), hm_le rfl, hm_le rfl, (0, 0), Nat.zero_le _, Nat.zero_le _, ?_⟩
    refine sp_160 hR hN ?_
    show R 53 128 [(0, .ref 2), (1, .int p1), (2, .int p2)] [.int (T_160 s p1)] (N, hm_sh L g, s) _ Q
    show R 53 128 [(0, .ref 2), (1, .int p1), (2, .int p2)] [.int (T_160 s p1)] (N, hm_sh L g, s) _ Q
    refine hm_st hR ⟨fun c128 => ?_, fun c128 => ?_⟩
    · rw [if_pos c128] at hq
      show R 53 146 [(0, .ref 2), (1, .int p1), (2, .int p2)] [] (N, hm_sh L g, s) _ Q
      refine hm_st hR (?_)
      exact hm_st hR ⟨fun z => absurd z (by decide), hq⟩
    · rw [if_neg c128] at hq
      show R 53 131 [(0, .ref 2), (1, .int p1), (2, .int p2)] [] (N, hm_sh L g, s) _ Q
      refine hm_st hR (hm_st hR ⟨rfl, hm_le rfl, (hm_ltN hN rfl), hm_st hR (hm_st hR (?_))⟩)
      refine hm_st hR ⟨hm_le rfl, rfl, (hm_le rfl), (hm_ltN hN rfl), hm_le rfl, hm_le rfl, (0, 0), Nat.zero_le _, Nat.zero_le _, ?_⟩
      refine sp_40 hR hN ?_
      show R 53 140 [(0, .ref 2), (1, .int p1), (2, .int p2)] [.int (T_40 s p1), .ref 42] (N, hm_sh L g, s) _ Q
      refine hm_st hR ⟨hm_le rfl, rfl, (hm_le rfl), (hm_ltN hN rfl), hm_le rfl, hm_le rfl, (0, 0), Nat.zero_le _, Nat.zero_le _, ?_⟩
      refine sp_139 hR hN ?_
      show R 53 143 [(0, .ref 2), (1, .int p1), (2, .int p2)] [.int (T_139 s (T_40 s p1))] (N, hm_sh L g, s) _ Q
      refine hm_st hR (?_)
      exact hm_st hR ⟨fun z => absurd z (by decide), hq⟩
  rw [if_neg w1_7] at hq
  by_cases w1_8 : p2 = 8
  · rw [if_pos w1_8] at hq
    refine hm_tsS hR 148 (by rfl) (by rw [w1_8]; rfl) ?_
    show R 53 148 [(0, .ref 2), (1, .int p1), (2, .int p2)] [] (N, hm_sh L g, s) _ Q
    refine hm_st hR (hm_st hR ⟨rfl, hm_le rfl, (hm_ltN hN rfl), hm_st hR (?_)⟩)
    refine hm_st hR ⟨hm_le rfl, rfl, (hm_le rfl), (hm_ltN hN rfl), hm_le rfl, hm_le rfl, (0, 0), Nat.zero_le _, Nat.zero_le _, ?_⟩
    refine sp_163 hR hN ?_
    show R 53 156 [(0, .ref 2), (1, .int p1), (2, .int p2)] [.int (T_163 s p1)] (N, hm_sh L g, s) _ Q
    exact hm_st hR ⟨fun z => absurd z (by decide), hq⟩
  rw [if_neg w1_8] at hq
  refine hm_tsS hR 157 (by rfl) (by exact hm_swD9 w1_0 w1_1 w1_2 w1_3 w1_4 w1_5 w1_6 w1_7 w1_8) ?_
  show R 53 157 [(0, .ref 2), (1, .int p1), (2, .int p2)] [] (N, hm_sh L g, s) _ Q
  refine hm_st hR (hm_st hR ⟨rfl, hm_le rfl, (hm_ltN hN rfl), hm_st hR (?_)⟩)
  refine hm_st hR ⟨hm_le rfl, rfl, (hm_le rfl), (hm_ltN hN rfl), hm_le rfl, hm_le rfl, (0, 0), Nat.zero_le _, Nat.zero_le _, ?_⟩
  refine sp_164 hR hN ?_
  show R 53 165 [(0, .ref 2), (1, .int p1), (2, .int p2)] [.int (T_164 s p1)] (N, hm_sh L g, s) _ Q
  exact hm_st hR ⟨fun z => absurd z (by decide), hq⟩
def T_62_20 (O : hm_St → Int64 → Int64 → Int32 → Int64) : Nat → hm_St → Int64 → Int64 → Int32 → Int32 → Int64
  | 0, s, _, _, _, _ => 0
  | n + 1, s, v1, v3, v5, v6 => (if 10 ≤ v6 then (O s v1 v3 (v5 + 1)) else (T_62_20 O n s v1 (T_60 s v3 (((T_53 s v5 v6)).toInt64)) v5 (v6 + 1)))
def T_62_5 : Nat → hm_St → Int64 → Int64 → Int32 → Int64
  | 0, s, _, _, _ => 0
  | n + 1, s, v1, v3, v5 => (if (T_157 s) ≤ v5 then v3 else (T_62_20 (fun s v1 v3 v5 => T_62_5 n s v1 v3 v5) (hm_df 10 0 + 1) s v1 v3 v5 0))
/-- CurvekeyHouse.mixPoints(J)J -/
def T_62 (s : hm_St) (p1 : Int64) : Int64 := (T_62_5 (hm_df (T_157 s) 0 + 1) s p1 p1 0)
set_option maxRecDepth 20000 in
theorem lp_62_20 {R : hm_R} (hR : hm_Cm R) {N L : Nat} {g : Nat → hm_Sh} {b : hm_B} {Q : hm_Q} (hN : 68 ≤ N) {O : hm_St → Int64 → Int64 → Int32 → Int64} {nO : Nat} (hO : ∀ (s : hm_St) (v1 : Int64) (v3 : Int64) (v5 : Int32), hm_df (T_157 s) v5 < nO → (Q (.inr (some (.long (O s v1 v3 v5)))) (N, hm_sh L g, s)) → R 62 5 [(5, .int v5), (3, .long v3), (0, .ref 2), (1, .long v1)] [] (N, hm_sh L g, s) b Q) : ∀ (n : Nat) (s : hm_St) (v1 : Int64) (v3 : Int64) (v5 : Int32) (v6 : Int32), hm_df 10 v6 < n → (hPO : hm_df (T_157 s) (v5 + 1) < nO) → (hq : Q (.inr (some (.long (T_62_20 O n s v1 v3 v5 v6)))) (N, hm_sh L g, s)) → R 62 20 [(6, .int v6), (5, .int v5), (3, .long v3), (0, .ref 2), (1, .long v1)] [] (N, hm_sh L g, s) b Q := by
  intro n
  induction n with
  | zero => intro s v1 v3 v5 v6 hm hPO _; exact absurd hm (Nat.not_lt_zero _)
  | succ n ih =>
    intro s v1 v3 v5 v6 hm hPO hq
    unfold T_62_20 at hq
    refine hm_st hR (hm_st hR (?_))
    show R 62 24 [(6, .int v6), (5, .int v5), (3, .long v3), (0, .ref 2), (1, .long v1)] [.int 10, .int v6] (N, hm_sh L g, s) _ Q
    refine hm_st hR ⟨fun c24 => ?_, fun c24 => ?_⟩
    · rw [if_pos c24] at hq
      show R 62 47 [(6, .int v6), (5, .int v5), (3, .long v3), (0, .ref 2), (1, .long v1)] [] (N, hm_sh L g, s) _ Q
      refine hm_st hR (hm_st hR (?_))
      show R 62 5 [(5, .int (v5 + 1)), (6, .int v6), (3, .long v3), (0, .ref 2), (1, .long v1)] [] (N, hm_sh L g, s) _ Q
      exact hm_lvS hR (by intro q hq; simp only [List.mem_cons, List.not_mem_nil, or_false] at hq ⊢; rcases hq with rfl | rfl | rfl | rfl <;> simp) (hO s v1 v3 (v5 + 1) hPO hq)
    · rw [if_neg c24] at hq
      show R 62 27 [(6, .int v6), (5, .int v5), (3, .long v3), (0, .ref 2), (1, .long v1)] [] (N, hm_sh L g, s) _ Q
      refine hm_st hR (hm_st hR (hm_st hR (hm_st hR (?_))))
      refine hm_st hR ⟨hm_le rfl, rfl, (hm_le rfl), (hm_ltN hN rfl), hm_le rfl, hm_le rfl, (0, 0), Nat.zero_le _, Nat.zero_le _, ?_⟩
      refine sp_53 hR hN ?_
      show R 62 36 [(6, .int v6), (5, .int v5), (3, .long v3), (0, .ref 2), (1, .long v1)] [.int (T_53 s v5 v6), .long v3] (N, hm_sh L g, s) _ Q
      refine hm_st hR (?_)
      refine hm_st hR ⟨hm_le rfl, hm_le rfl, hm_le rfl, (0, 0), Nat.zero_le _, Nat.zero_le _, ?_⟩
      refine sp_60 hR hN ?_
      show R 62 40 [(6, .int v6), (5, .int v5), (3, .long v3), (0, .ref 2), (1, .long v1)] [.long (T_60 s v3 (((T_53 s v5 v6)).toInt64))] (N, hm_sh L g, s) _ Q
      refine hm_st hR (hm_st hR (hm_st hR (?_)))
      show R 62 20 [(6, .int (v6 + 1)), (3, .long (T_60 s v3 (((T_53 s v5 v6)).toInt64))), (5, .int v5), (0, .ref 2), (1, .long v1)] [] (N, hm_sh L g, s) _ Q
      exact hm_lvS hR (by intro q hq; simp only [List.mem_cons, List.not_mem_nil, or_false] at hq ⊢; rcases hq with rfl | rfl | rfl | rfl | rfl <;> simp) (ih s v1 (T_60 s v3 (((T_53 s v5 v6)).toInt64)) v5 (v6 + 1) (hm_dcx c24 hm) hPO hq)
set_option maxRecDepth 20000 in
theorem lp_62_5 {R : hm_R} (hR : hm_Cm R) {N L : Nat} {g : Nat → hm_Sh} {b : hm_B} {Q : hm_Q} (hN : 68 ≤ N) : ∀ (n : Nat) (s : hm_St) (v1 : Int64) (v3 : Int64) (v5 : Int32), hm_df (T_157 s) v5 < n → (hq : Q (.inr (some (.long (T_62_5 n s v1 v3 v5)))) (N, hm_sh L g, s)) → R 62 5 [(5, .int v5), (3, .long v3), (0, .ref 2), (1, .long v1)] [] (N, hm_sh L g, s) b Q := by
  intro n
  induction n with
  | zero => intro s v1 v3 v5 hm _; exact absurd hm (Nat.not_lt_zero _)
  | succ n ih =>
    intro s v1 v3 v5 hm hq
    unfold T_62_5 at hq
    refine hm_st hR (hm_st hR (hm_st hR ⟨rfl, hm_le rfl, (hm_ltN hN rfl), ?_⟩))
    refine hm_st hR ⟨hm_le rfl, rfl, (hm_le rfl), (hm_ltN hN rfl), hm_le rfl, hm_le rfl, (0, 0), Nat.zero_le _, Nat.zero_le _, ?_⟩
    refine sp_157 hR hN ?_
    show R 62 14 [(5, .int v5), (3, .long v3), (0, .ref 2), (1, .long v1)] [.int (T_157 s), .int v5] (N, hm_sh L g, s) _ Q
    show R 62 14 [(5, .int v5), (3, .long v3), (0, .ref 2), (1, .long v1)] [.int (T_157 s), .int v5] (N, hm_sh L g, s) _ Q
    refine hm_st hR ⟨fun c14 => ?_, fun c14 => ?_⟩
    · rw [if_pos c14] at hq
      show R 62 53 [(5, .int v5), (3, .long v3), (0, .ref 2), (1, .long v1)] [] (N, hm_sh L g, s) _ Q
      refine hm_st hR (?_)
      exact hm_st hR hq
    · rw [if_neg c14] at hq
      show R 62 17 [(5, .int v5), (3, .long v3), (0, .ref 2), (1, .long v1)] [] (N, hm_sh L g, s) _ Q
      refine hm_st hR (hm_st hR (?_))
      show R 62 20 [(6, .int 0), (5, .int v5), (3, .long v3), (0, .ref 2), (1, .long v1)] [] (N, hm_sh L g, s) _ Q
      exact lp_62_20 hR hN (O := (fun s v1 v3 v5 => T_62_5 n s v1 v3 v5)) (nO := n) (fun s v1 v3 v5 hm hq => ih s v1 v3 v5 hm hq) _ _ _ _ _ _ (Nat.lt_succ_self _) (hm_dcx c14 hm) hq
set_option maxRecDepth 20000 in
theorem sp_62 {R : hm_R} (hR : hm_Cm R) {N L : Nat} {g : Nat → hm_Sh} {s : hm_St} {b : hm_B} {Q : hm_Q} (hN : 68 ≤ N) {p1 : Int64} (hq : Q (.inr (some (.long (T_62 s p1)))) (N, hm_sh L g, s)) : R 62 0 (lv_args 0 [.ref 2, .long p1]) [] (N, hm_sh L g, s) b Q := by
  unfold T_62 at hq
  show R 62 0 [(0, .ref 2), (1, .long p1)] [] (N, hm_sh L g, s) _ Q
  refine hm_st hR (hm_st hR (hm_st hR (hm_st hR (?_))))
  show R 62 5 [(5, .int 0), (3, .long p1), (0, .ref 2), (1, .long p1)] [] (N, hm_sh L g, s) _ Q
  exact lp_62_5 hR hN _ _ _ _ _ (Nat.lt_succ_self _) hq
/-- CurvekeyHouse$Pages.floorOf(I)I -/
def T_138 (s : hm_St) (p1 : Int32) : Int32 := (T_178 s 46 1025 p1)
set_option maxRecDepth 20000 in
theorem sp_138 {R : hm_R} (hR : hm_Cm R) {N L : Nat} {g : Nat → hm_Sh} {s : hm_St} {b : hm_B} {Q : hm_Q} (hN : 68 ≤ N) {p1 : Int32} (hq : Q (.inr (some (.int (T_138 s p1)))) (N, hm_sh L g, s)) : R 138 0 (lv_args 0 [.ref 42, .int p1]) [] (N, hm_sh L g, s) b Q := by
  unfold T_138 at hq
  show R 138 0 [(0, .ref 42), (1, .int p1)] [] (N, hm_sh L g, s) _ Q
  refine hm_st hR (hm_st hR ⟨rfl, hm_le rfl, (hm_ltN hN rfl), hm_st hR (?_)⟩)
  refine hm_st hR ⟨hm_le rfl, rfl, (hm_le rfl), (hm_ltN hN rfl), hm_le rfl, hm_le rfl, (0, 0), Nat.zero_le _, Nat.zero_le _, ?_⟩
  refine sp_178 hR hN (rr := 45) (aa := 46) (nn := 1025) rfl rfl (hm_le rfl) (hm_ltN hN rfl) rfl rfl (hm_le rfl) (hm_ltN hN rfl) (by decide) ?_
  show R 138 8 [(0, .ref 42), (1, .int p1)] [.int (T_178 s 46 1025 p1)] (N, hm_sh L g, s) _ Q
  exact hm_st hR ⟨fun z => absurd z (by decide), hq⟩
def T_145_24 : Nat → hm_St → Int32 → Int32 → Int32 → Int32 → Int32 → Int32
  | 0, s, _, _, _, _, _ => 0
  | n + 1, s, v1, v2, v3, v4, v5 => (if v4 ≤ v5 then (-1) else (if (T_178 s 44 1024 v5) = (-1) then (T_145_24 n s v1 v2 v3 v4 (v5 + 1)) else (if v3 = v2 then v5 else (T_145_24 n s v1 v2 (v3 + 1) v4 (v5 + 1)))))
/-- CurvekeyHouse$Pages.entryIn(II)I -/
def T_145 (s : hm_St) (p1 : Int32) (p2 : Int32) : Int32 := (T_145_24 (hm_df (T_178 s 46 1025 (p1 + 1)) (T_178 s 46 1025 p1) + 1) s p1 p2 0 (T_178 s 46 1025 (p1 + 1)) (T_178 s 46 1025 p1))
set_option maxRecDepth 20000 in
theorem lp_145_24 {R : hm_R} (hR : hm_Cm R) {N L : Nat} {g : Nat → hm_Sh} {b : hm_B} {Q : hm_Q} (hN : 68 ≤ N) : ∀ (n : Nat) (s : hm_St) (v1 : Int32) (v2 : Int32) (v3 : Int32) (v4 : Int32) (v5 : Int32), hm_df v4 v5 < n → (hq : Q (.inr (some (.int (T_145_24 n s v1 v2 v3 v4 v5)))) (N, hm_sh L g, s)) → R 145 24 [(5, .int v5), (4, .int v4), (3, .int v3), (0, .ref 42), (1, .int v1), (2, .int v2)] [] (N, hm_sh L g, s) b Q := by
  intro n
  induction n with
  | zero => intro s v1 v2 v3 v4 v5 hm _; exact absurd hm (Nat.not_lt_zero _)
  | succ n ih =>
    intro s v1 v2 v3 v4 v5 hm hq
    unfold T_145_24 at hq
    refine hm_st hR (hm_st hR (?_))
    show R 145 28 [(5, .int v5), (4, .int v4), (3, .int v3), (0, .ref 42), (1, .int v1), (2, .int v2)] [.int v4, .int v5] (N, hm_sh L g, s) _ Q
    refine hm_st hR ⟨fun c28 => ?_, fun c28 => ?_⟩
    · rw [if_pos c28] at hq
      show R 145 61 [(5, .int v5), (4, .int v4), (3, .int v3), (0, .ref 42), (1, .int v1), (2, .int v2)] [] (N, hm_sh L g, s) _ Q
      refine hm_st hR (?_)
      exact hm_st hR ⟨fun z => absurd z (by decide), hq⟩
    · rw [if_neg c28] at hq
      show R 145 31 [(5, .int v5), (4, .int v4), (3, .int v3), (0, .ref 42), (1, .int v1), (2, .int v2)] [] (N, hm_sh L g, s) _ Q
      refine hm_st hR (hm_st hR ⟨rfl, hm_le rfl, (hm_ltN hN rfl), hm_st hR (?_)⟩)
      refine hm_st hR ⟨hm_le rfl, rfl, (hm_le rfl), (hm_ltN hN rfl), hm_le rfl, hm_le rfl, (0, 0), Nat.zero_le _, Nat.zero_le _, ?_⟩
      refine sp_178 hR hN (rr := 43) (aa := 44) (nn := 1024) rfl rfl (hm_le rfl) (hm_ltN hN rfl) rfl rfl (hm_le rfl) (hm_ltN hN rfl) (by decide) ?_
      show R 145 40 [(5, .int v5), (4, .int v4), (3, .int v3), (0, .ref 42), (1, .int v1), (2, .int v2)] [.int (T_178 s 44 1024 v5)] (N, hm_sh L g, s) _ Q
      refine hm_st hR (?_)
      show R 145 41 [(5, .int v5), (4, .int v4), (3, .int v3), (0, .ref 42), (1, .int v1), (2, .int v2)] [.int (-1), .int (T_178 s 44 1024 v5)] (N, hm_sh L g, s) _ Q
      refine hm_st hR ⟨fun c41 => ?_, fun c41 => ?_⟩
      · rw [if_pos c41] at hq
        show R 145 55 [(5, .int v5), (4, .int v4), (3, .int v3), (0, .ref 42), (1, .int v1), (2, .int v2)] [] (N, hm_sh L g, s) _ Q
        refine hm_st hR (hm_st hR (?_))
        show R 145 24 [(5, .int (v5 + 1)), (4, .int v4), (3, .int v3), (0, .ref 42), (1, .int v1), (2, .int v2)] [] (N, hm_sh L g, s) _ Q
        exact hm_lvS hR (by intro q hq; simp only [List.mem_cons, List.not_mem_nil, or_false] at hq ⊢; rcases hq with rfl | rfl | rfl | rfl | rfl | rfl <;> simp) (ih s v1 v2 v3 v4 (v5 + 1) (hm_dcx c28 hm) hq)
      · rw [if_neg c41] at hq
        show R 145 44 [(5, .int v5), (4, .int v4), (3, .int v3), (0, .ref 42), (1, .int v1), (2, .int v2)] [] (N, hm_sh L g, s) _ Q
        refine hm_st hR (hm_st hR (?_))
        show R 145 46 [(5, .int v5), (4, .int v4), (3, .int v3), (0, .ref 42), (1, .int v1), (2, .int v2)] [.int v2, .int v3] (N, hm_sh L g, s) _ Q
        refine hm_st hR ⟨fun c46 => ?_, fun c46 => ?_⟩
        · rw [if_neg c46] at hq
          show R 145 52 [(5, .int v5), (4, .int v4), (3, .int v3), (0, .ref 42), (1, .int v1), (2, .int v2)] [] (N, hm_sh L g, s) _ Q
          refine hm_st hR (hm_st hR (hm_st hR (?_)))
          show R 145 24 [(5, .int (v5 + 1)), (3, .int (v3 + 1)), (4, .int v4), (0, .ref 42), (1, .int v1), (2, .int v2)] [] (N, hm_sh L g, s) _ Q
          exact hm_lvS hR (by intro q hq; simp only [List.mem_cons, List.not_mem_nil, or_false] at hq ⊢; rcases hq with rfl | rfl | rfl | rfl | rfl | rfl <;> simp) (ih s v1 v2 (v3 + 1) v4 (v5 + 1) (hm_dcx c28 hm) hq)
        · rw [if_pos c46] at hq
          show R 145 49 [(5, .int v5), (4, .int v4), (3, .int v3), (0, .ref 42), (1, .int v1), (2, .int v2)] [] (N, hm_sh L g, s) _ Q
          refine hm_st hR (?_)
          exact hm_st hR ⟨fun z => absurd z (by decide), hq⟩
set_option maxRecDepth 20000 in
theorem sp_145 {R : hm_R} (hR : hm_Cm R) {N L : Nat} {g : Nat → hm_Sh} {s : hm_St} {b : hm_B} {Q : hm_Q} (hN : 68 ≤ N) {p1 : Int32} {p2 : Int32} (hq : Q (.inr (some (.int (T_145 s p1 p2)))) (N, hm_sh L g, s)) : R 145 0 (lv_args 0 [.ref 42, .int p1, .int p2]) [] (N, hm_sh L g, s) b Q := by
  unfold T_145 at hq
  show R 145 0 [(0, .ref 42), (1, .int p1), (2, .int p2)] [] (N, hm_sh L g, s) _ Q
  refine hm_st hR (hm_st hR (hm_st hR (hm_st hR ⟨rfl, hm_le rfl, (hm_ltN hN rfl), hm_st hR (hm_st hR (hm_st hR (?_)))⟩)))
  refine hm_st hR ⟨hm_le rfl, rfl, (hm_le rfl), (hm_ltN hN rfl), hm_le rfl, hm_le rfl, (0, 0), Nat.zero_le _, Nat.zero_le _, ?_⟩
  refine sp_178 hR hN (rr := 45) (aa := 46) (nn := 1025) rfl rfl (hm_le rfl) (hm_ltN hN rfl) rfl rfl (hm_le rfl) (hm_ltN hN rfl) (by decide) ?_
  show R 145 12 [(3, .int 0), (0, .ref 42), (1, .int p1), (2, .int p2)] [.int (T_178 s 46 1025 (p1 + 1))] (N, hm_sh L g, s) _ Q
  refine hm_st hR (hm_st hR (hm_st hR ⟨rfl, hm_le rfl, (hm_ltN hN rfl), hm_st hR (?_)⟩))
  refine hm_st hR ⟨hm_le rfl, rfl, (hm_le rfl), (hm_ltN hN rfl), hm_le rfl, hm_le rfl, (0, 0), Nat.zero_le _, Nat.zero_le _, ?_⟩
  refine sp_178 hR hN (rr := 45) (aa := 46) (nn := 1025) rfl rfl (hm_le rfl) (hm_ltN hN rfl) rfl rfl (hm_le rfl) (hm_ltN hN rfl) (by decide) ?_
  show R 145 22 [(4, .int (T_178 s 46 1025 (p1 + 1))), (3, .int 0), (0, .ref 42), (1, .int p1), (2, .int p2)] [.int (T_178 s 46 1025 p1)] (N, hm_sh L g, s) _ Q
  refine hm_st hR (?_)
  show R 145 24 [(5, .int (T_178 s 46 1025 p1)), (4, .int (T_178 s 46 1025 (p1 + 1))), (3, .int 0), (0, .ref 42), (1, .int p1), (2, .int p2)] [] (N, hm_sh L g, s) _ Q
  exact lp_145_24 hR hN _ _ _ _ _ _ _ (Nat.lt_succ_self _) hq
/-- CurvekeyHouse$Pages.firstIn(I)I -/
def T_143 (s : hm_St) (p1 : Int32) : Int32 := (T_145 s p1 0)
set_option maxRecDepth 20000 in
theorem sp_143 {R : hm_R} (hR : hm_Cm R) {N L : Nat} {g : Nat → hm_Sh} {s : hm_St} {b : hm_B} {Q : hm_Q} (hN : 68 ≤ N) {p1 : Int32} (hq : Q (.inr (some (.int (T_143 s p1)))) (N, hm_sh L g, s)) : R 143 0 (lv_args 0 [.ref 42, .int p1]) [] (N, hm_sh L g, s) b Q := by
  unfold T_143 at hq
  show R 143 0 [(0, .ref 42), (1, .int p1)] [] (N, hm_sh L g, s) _ Q
  refine hm_st hR (hm_st hR (hm_st hR (?_)))
  refine hm_st hR ⟨hm_le rfl, rfl, (hm_le rfl), (hm_ltN hN rfl), hm_le rfl, hm_le rfl, (0, 0), Nat.zero_le _, Nat.zero_le _, ?_⟩
  refine sp_145 hR hN ?_
  show R 143 6 [(0, .ref 42), (1, .int p1)] [.int (T_145 s p1 0)] (N, hm_sh L g, s) _ Q
  exact hm_st hR ⟨fun z => absurd z (by decide), hq⟩
/-- CurvekeyHouse$Pages.lastIn(I)I -/
def T_144 (s : hm_St) (p1 : Int32) : Int32 := (T_145 s p1 ((T_141 s p1) - 1))
set_option maxRecDepth 20000 in
theorem sp_144 {R : hm_R} (hR : hm_Cm R) {N L : Nat} {g : Nat → hm_Sh} {s : hm_St} {b : hm_B} {Q : hm_Q} (hN : 68 ≤ N) {p1 : Int32} (hq : Q (.inr (some (.int (T_144 s p1)))) (N, hm_sh L g, s)) : R 144 0 (lv_args 0 [.ref 42, .int p1]) [] (N, hm_sh L g, s) b Q := by
  unfold T_144 at hq
  show R 144 0 [(0, .ref 42), (1, .int p1)] [] (N, hm_sh L g, s) _ Q
  refine hm_st hR (hm_st hR (hm_st hR (hm_st hR (?_))))
  refine hm_st hR ⟨hm_le rfl, rfl, (hm_le rfl), (hm_ltN hN rfl), hm_le rfl, hm_le rfl, (0, 0), Nat.zero_le _, Nat.zero_le _, ?_⟩
  refine sp_141 hR hN ?_
  show R 144 7 [(0, .ref 42), (1, .int p1)] [.int (T_141 s p1), .int p1, .ref 42] (N, hm_sh L g, s) _ Q
  refine hm_st hR (hm_st hR (?_))
  refine hm_st hR ⟨hm_le rfl, rfl, (hm_le rfl), (hm_ltN hN rfl), hm_le rfl, hm_le rfl, (0, 0), Nat.zero_le _, Nat.zero_le _, ?_⟩
  refine sp_145 hR hN ?_
  show R 144 12 [(0, .ref 42), (1, .int p1)] [.int (T_145 s p1 ((T_141 s p1) - 1))] (N, hm_sh L g, s) _ Q
  exact hm_st hR ⟨fun z => absurd z (by decide), hq⟩
/-- CurvekeyHouse.pageFact(II)I -/
def T_54 (s : hm_St) (p1 : Int32) (p2 : Int32) : Int32 := (if p2 = 0 then (T_138 s p1) else (if p2 = 1 then (T_141 s p1) else (if p2 = 2 then (T_142 s p1) else (if p2 = 3 then (T_143 s p1) else (if p2 = 4 then (T_144 s p1) else (T_146 s p1 (s 2 9)))))))
set_option maxRecDepth 20000 in
theorem sp_54 {R : hm_R} (hR : hm_Cm R) {N L : Nat} {g : Nat → hm_Sh} {s : hm_St} {b : hm_B} {Q : hm_Q} (hN : 68 ≤ N) {p1 : Int32} {p2 : Int32} (hq : Q (.inr (some (.int (T_54 s p1 p2)))) (N, hm_sh L g, s)) : R 54 0 (lv_args 0 [.ref 2, .int p1, .int p2]) [] (N, hm_sh L g, s) b Q := by
  unfold T_54 at hq
  show R 54 0 [(0, .ref 2), (1, .int p1), (2, .int p2)] [] (N, hm_sh L g, s) _ Q
  refine hm_st hR (?_)
  show R 54 1 [(0, .ref 2), (1, .int p1), (2, .int p2)] [.int p2] (N, hm_sh L g, s) _ Q
  by_cases w1_0 : p2 = 0
  · rw [if_pos w1_0] at hq
    refine hm_tsS hR 36 (by rfl) (by rw [w1_0]; rfl) ?_
    show R 54 36 [(0, .ref 2), (1, .int p1), (2, .int p2)] [] (N, hm_sh L g, s) _ Q
    refine hm_st hR (hm_st hR ⟨rfl, hm_le rfl, (hm_ltN hN rfl), hm_st hR (?_)⟩)
    refine hm_st hR ⟨hm_le rfl, rfl, (hm_le rfl), (hm_ltN hN rfl), hm_le rfl, hm_le rfl, (0, 0), Nat.zero_le _, Nat.zero_le _, ?_⟩
    refine sp_138 hR hN ?_
    show R 54 44 [(0, .ref 2), (1, .int p1), (2, .int p2)] [.int (T_138 s p1)] (N, hm_sh L g, s) _ Q
    exact hm_st hR ⟨fun z => absurd z (by decide), hq⟩
  rw [if_neg w1_0] at hq
  by_cases w1_1 : p2 = 1
  · rw [if_pos w1_1] at hq
    refine hm_tsS hR 45 (by rfl) (by rw [w1_1]; rfl) ?_
    show R 54 45 [(0, .ref 2), (1, .int p1), (2, .int p2)] [] (N, hm_sh L g, s) _ Q
    refine hm_st hR (hm_st hR ⟨rfl, hm_le rfl, (hm_ltN hN rfl), hm_st hR (?_)⟩)
    refine hm_st hR ⟨hm_le rfl, rfl, (hm_le rfl), (hm_ltN hN rfl), hm_le rfl, hm_le rfl, (0, 0), Nat.zero_le _, Nat.zero_le _, ?_⟩
    refine sp_141 hR hN ?_
    show R 54 53 [(0, .ref 2), (1, .int p1), (2, .int p2)] [.int (T_141 s p1)] (N, hm_sh L g, s) _ Q
    exact hm_st hR ⟨fun z => absurd z (by decide), hq⟩
  rw [if_neg w1_1] at hq
  by_cases w1_2 : p2 = 2
  · rw [if_pos w1_2] at hq
    refine hm_tsS hR 54 (by rfl) (by rw [w1_2]; rfl) ?_
    show R 54 54 [(0, .ref 2), (1, .int p1), (2, .int p2)] [] (N, hm_sh L g, s) _ Q
    refine hm_st hR (hm_st hR ⟨rfl, hm_le rfl, (hm_ltN hN rfl), hm_st hR (?_)⟩)
    refine hm_st hR ⟨hm_le rfl, rfl, (hm_le rfl), (hm_ltN hN rfl), hm_le rfl, hm_le rfl, (0, 0), Nat.zero_le _, Nat.zero_le _, ?_⟩
    refine sp_142 hR hN ?_
    show R 54 62 [(0, .ref 2), (1, .int p1), (2, .int p2)] [.int (T_142 s p1)] (N, hm_sh L g, s) _ Q
    exact hm_st hR ⟨fun z => absurd z (by decide), hq⟩
  rw [if_neg w1_2] at hq
  by_cases w1_3 : p2 = 3
  · rw [if_pos w1_3] at hq
    refine hm_tsS hR 63 (by rfl) (by rw [w1_3]; rfl) ?_
    show R 54 63 [(0, .ref 2), (1, .int p1), (2, .int p2)] [] (N, hm_sh L g, s) _ Q
    refine hm_st hR (hm_st hR ⟨rfl, hm_le rfl, (hm_ltN hN rfl), hm_st hR (?_)⟩)
    refine hm_st hR ⟨hm_le rfl, rfl, (hm_le rfl), (hm_ltN hN rfl), hm_le rfl, hm_le rfl, (0, 0), Nat.zero_le _, Nat.zero_le _, ?_⟩
    refine sp_143 hR hN ?_
    show R 54 71 [(0, .ref 2), (1, .int p1), (2, .int p2)] [.int (T_143 s p1)] (N, hm_sh L g, s) _ Q
    exact hm_st hR ⟨fun z => absurd z (by decide), hq⟩
  rw [if_neg w1_3] at hq
  by_cases w1_4 : p2 = 4
  · rw [if_pos w1_4] at hq
    refine hm_tsS hR 72 (by rfl) (by rw [w1_4]; rfl) ?_
    show R 54 72 [(0, .ref 2), (1, .int p1), (2, .int p2)] [] (N, hm_sh L g, s) _ Q
    refine hm_st hR (hm_st hR ⟨rfl, hm_le rfl, (hm_ltN hN rfl), hm_st hR (?_)⟩)
    refine hm_st hR ⟨hm_le rfl, rfl, (hm_le rfl), (hm_ltN hN rfl), hm_le rfl, hm_le rfl, (0, 0), Nat.zero_le _, Nat.zero_le _, ?_⟩
    refine sp_144 hR hN ?_
    show R 54 80 [(0, .ref 2), (1, .int p1), (2, .int p2)] [.int (T_144 s p1)] (N, hm_sh L g, s) _ Q
    exact hm_st hR ⟨fun z => absurd z (by decide), hq⟩
  rw [if_neg w1_4] at hq
  refine hm_tsS hR 81 (by rfl) (by exact hm_swD5 w1_0 w1_1 w1_2 w1_3 w1_4) ?_
  show R 54 81 [(0, .ref 2), (1, .int p1), (2, .int p2)] [] (N, hm_sh L g, s) _ Q
  refine hm_st hR (hm_st hR ⟨rfl, hm_le rfl, (hm_ltN hN rfl), hm_st hR (hm_st hR (hm_st hR ⟨rfl, hm_le rfl, (hm_ltN hN rfl), ?_⟩))⟩)
  refine hm_st hR ⟨hm_le rfl, rfl, (hm_le rfl), (hm_ltN hN rfl), hm_le rfl, hm_le rfl, (0, 0), Nat.zero_le _, Nat.zero_le _, ?_⟩
  refine sp_146 hR hN ?_
  show R 54 93 [(0, .ref 2), (1, .int p1), (2, .int p2)] [.int (T_146 s p1 (s 2 9))] (N, hm_sh L g, s) _ Q
  exact hm_st hR ⟨fun z => absurd z (by decide), hq⟩
def T_63_20 (O : hm_St → Int64 → Int64 → Int32 → Int64) : Nat → hm_St → Int64 → Int64 → Int32 → Int32 → Int64
  | 0, s, _, _, _, _ => 0
  | n + 1, s, v1, v3, v5, v6 => (if 6 ≤ v6 then (O s v1 v3 (v5 + 1)) else (T_63_20 O n s v1 (T_60 s v3 (((T_54 s v5 v6)).toInt64)) v5 (v6 + 1)))
def T_63_5 : Nat → hm_St → Int64 → Int64 → Int32 → Int64
  | 0, s, _, _, _ => 0
  | n + 1, s, v1, v3, v5 => (if (T_133 s) ≤ v5 then v3 else (T_63_20 (fun s v1 v3 v5 => T_63_5 n s v1 v3 v5) (hm_df 6 0 + 1) s v1 v3 v5 0))
/-- CurvekeyHouse.mixPages(J)J -/
def T_63 (s : hm_St) (p1 : Int64) : Int64 := (T_63_5 (hm_df (T_133 s) 0 + 1) s p1 p1 0)
set_option maxRecDepth 20000 in
theorem lp_63_20 {R : hm_R} (hR : hm_Cm R) {N L : Nat} {g : Nat → hm_Sh} {b : hm_B} {Q : hm_Q} (hN : 68 ≤ N) {O : hm_St → Int64 → Int64 → Int32 → Int64} {nO : Nat} (hO : ∀ (s : hm_St) (v1 : Int64) (v3 : Int64) (v5 : Int32), hm_df (T_133 s) v5 < nO → (Q (.inr (some (.long (O s v1 v3 v5)))) (N, hm_sh L g, s)) → R 63 5 [(5, .int v5), (3, .long v3), (0, .ref 2), (1, .long v1)] [] (N, hm_sh L g, s) b Q) : ∀ (n : Nat) (s : hm_St) (v1 : Int64) (v3 : Int64) (v5 : Int32) (v6 : Int32), hm_df 6 v6 < n → (hPO : hm_df (T_133 s) (v5 + 1) < nO) → (hq : Q (.inr (some (.long (T_63_20 O n s v1 v3 v5 v6)))) (N, hm_sh L g, s)) → R 63 20 [(6, .int v6), (5, .int v5), (3, .long v3), (0, .ref 2), (1, .long v1)] [] (N, hm_sh L g, s) b Q := by
  intro n
  induction n with
  | zero => intro s v1 v3 v5 v6 hm hPO _; exact absurd hm (Nat.not_lt_zero _)
  | succ n ih =>
    intro s v1 v3 v5 v6 hm hPO hq
    unfold T_63_20 at hq
    refine hm_st hR (hm_st hR (?_))
    show R 63 24 [(6, .int v6), (5, .int v5), (3, .long v3), (0, .ref 2), (1, .long v1)] [.int 6, .int v6] (N, hm_sh L g, s) _ Q
    refine hm_st hR ⟨fun c24 => ?_, fun c24 => ?_⟩
    · rw [if_pos c24] at hq
      show R 63 47 [(6, .int v6), (5, .int v5), (3, .long v3), (0, .ref 2), (1, .long v1)] [] (N, hm_sh L g, s) _ Q
      refine hm_st hR (hm_st hR (?_))
      show R 63 5 [(5, .int (v5 + 1)), (6, .int v6), (3, .long v3), (0, .ref 2), (1, .long v1)] [] (N, hm_sh L g, s) _ Q
      exact hm_lvS hR (by intro q hq; simp only [List.mem_cons, List.not_mem_nil, or_false] at hq ⊢; rcases hq with rfl | rfl | rfl | rfl <;> simp) (hO s v1 v3 (v5 + 1) hPO hq)
    · rw [if_neg c24] at hq
      show R 63 27 [(6, .int v6), (5, .int v5), (3, .long v3), (0, .ref 2), (1, .long v1)] [] (N, hm_sh L g, s) _ Q
      refine hm_st hR (hm_st hR (hm_st hR (hm_st hR (?_))))
      refine hm_st hR ⟨hm_le rfl, rfl, (hm_le rfl), (hm_ltN hN rfl), hm_le rfl, hm_le rfl, (0, 0), Nat.zero_le _, Nat.zero_le _, ?_⟩
      refine sp_54 hR hN ?_
      show R 63 36 [(6, .int v6), (5, .int v5), (3, .long v3), (0, .ref 2), (1, .long v1)] [.int (T_54 s v5 v6), .long v3] (N, hm_sh L g, s) _ Q
      refine hm_st hR (?_)
      refine hm_st hR ⟨hm_le rfl, hm_le rfl, hm_le rfl, (0, 0), Nat.zero_le _, Nat.zero_le _, ?_⟩
      refine sp_60 hR hN ?_
      show R 63 40 [(6, .int v6), (5, .int v5), (3, .long v3), (0, .ref 2), (1, .long v1)] [.long (T_60 s v3 (((T_54 s v5 v6)).toInt64))] (N, hm_sh L g, s) _ Q
      refine hm_st hR (hm_st hR (hm_st hR (?_)))
      show R 63 20 [(6, .int (v6 + 1)), (3, .long (T_60 s v3 (((T_54 s v5 v6)).toInt64))), (5, .int v5), (0, .ref 2), (1, .long v1)] [] (N, hm_sh L g, s) _ Q
      exact hm_lvS hR (by intro q hq; simp only [List.mem_cons, List.not_mem_nil, or_false] at hq ⊢; rcases hq with rfl | rfl | rfl | rfl | rfl <;> simp) (ih s v1 (T_60 s v3 (((T_54 s v5 v6)).toInt64)) v5 (v6 + 1) (hm_dcx c24 hm) hPO hq)
set_option maxRecDepth 20000 in
theorem lp_63_5 {R : hm_R} (hR : hm_Cm R) {N L : Nat} {g : Nat → hm_Sh} {b : hm_B} {Q : hm_Q} (hN : 68 ≤ N) : ∀ (n : Nat) (s : hm_St) (v1 : Int64) (v3 : Int64) (v5 : Int32), hm_df (T_133 s) v5 < n → (hq : Q (.inr (some (.long (T_63_5 n s v1 v3 v5)))) (N, hm_sh L g, s)) → R 63 5 [(5, .int v5), (3, .long v3), (0, .ref 2), (1, .long v1)] [] (N, hm_sh L g, s) b Q := by
  intro n
  induction n with
  | zero => intro s v1 v3 v5 hm _; exact absurd hm (Nat.not_lt_zero _)
  | succ n ih =>
    intro s v1 v3 v5 hm hq
    unfold T_63_5 at hq
    refine hm_st hR (hm_st hR (hm_st hR ⟨rfl, hm_le rfl, (hm_ltN hN rfl), ?_⟩))
    refine hm_st hR ⟨hm_le rfl, rfl, (hm_le rfl), (hm_ltN hN rfl), hm_le rfl, hm_le rfl, (0, 0), Nat.zero_le _, Nat.zero_le _, ?_⟩
    refine sp_133 hR hN ?_
    show R 63 14 [(5, .int v5), (3, .long v3), (0, .ref 2), (1, .long v1)] [.int (T_133 s), .int v5] (N, hm_sh L g, s) _ Q
    show R 63 14 [(5, .int v5), (3, .long v3), (0, .ref 2), (1, .long v1)] [.int (T_133 s), .int v5] (N, hm_sh L g, s) _ Q
    refine hm_st hR ⟨fun c14 => ?_, fun c14 => ?_⟩
    · rw [if_pos c14] at hq
      show R 63 53 [(5, .int v5), (3, .long v3), (0, .ref 2), (1, .long v1)] [] (N, hm_sh L g, s) _ Q
      refine hm_st hR (?_)
      exact hm_st hR hq
    · rw [if_neg c14] at hq
      show R 63 17 [(5, .int v5), (3, .long v3), (0, .ref 2), (1, .long v1)] [] (N, hm_sh L g, s) _ Q
      refine hm_st hR (hm_st hR (?_))
      show R 63 20 [(6, .int 0), (5, .int v5), (3, .long v3), (0, .ref 2), (1, .long v1)] [] (N, hm_sh L g, s) _ Q
      exact lp_63_20 hR hN (O := (fun s v1 v3 v5 => T_63_5 n s v1 v3 v5)) (nO := n) (fun s v1 v3 v5 hm hq => ih s v1 v3 v5 hm hq) _ _ _ _ _ _ (Nat.lt_succ_self _) (hm_dcx c14 hm) hq
set_option maxRecDepth 20000 in
theorem sp_63 {R : hm_R} (hR : hm_Cm R) {N L : Nat} {g : Nat → hm_Sh} {s : hm_St} {b : hm_B} {Q : hm_Q} (hN : 68 ≤ N) {p1 : Int64} (hq : Q (.inr (some (.long (T_63 s p1)))) (N, hm_sh L g, s)) : R 63 0 (lv_args 0 [.ref 2, .long p1]) [] (N, hm_sh L g, s) b Q := by
  unfold T_63 at hq
  show R 63 0 [(0, .ref 2), (1, .long p1)] [] (N, hm_sh L g, s) _ Q
  refine hm_st hR (hm_st hR (hm_st hR (hm_st hR (?_))))
  show R 63 5 [(5, .int 0), (3, .long p1), (0, .ref 2), (1, .long p1)] [] (N, hm_sh L g, s) _ Q
  exact lp_63_5 hR hN _ _ _ _ _ (Nat.lt_succ_self _) hq
/-- CurvekeyHouse$Points.farFrom(III)I -/
def T_172 (s : hm_St) (p1 : Int32) (p2 : Int32) (p3 : Int32) : Int32 := ((((T_161 s p1) - p2) * ((T_161 s p1) - p2)) + (((T_162 s p1) - p3) * ((T_162 s p1) - p3)))
set_option maxRecDepth 20000 in
theorem sp_172 {R : hm_R} (hR : hm_Cm R) {N L : Nat} {g : Nat → hm_Sh} {s : hm_St} {b : hm_B} {Q : hm_Q} (hN : 68 ≤ N) {p1 : Int32} {p2 : Int32} {p3 : Int32} (hq : Q (.inr (some (.int (T_172 s p1 p2 p3)))) (N, hm_sh L g, s)) : R 172 0 (lv_args 0 [.ref 14, .int p1, .int p2, .int p3]) [] (N, hm_sh L g, s) b Q := by
  unfold T_172 at hq
  show R 172 0 [(0, .ref 14), (1, .int p1), (2, .int p2), (3, .int p3)] [] (N, hm_sh L g, s) _ Q
  refine hm_st hR (hm_st hR (?_))
  refine hm_st hR ⟨hm_le rfl, rfl, (hm_le rfl), (hm_ltN hN rfl), hm_le rfl, hm_le rfl, (0, 0), Nat.zero_le _, Nat.zero_le _, ?_⟩
  refine sp_161 hR hN ?_
  show R 172 5 [(0, .ref 14), (1, .int p1), (2, .int p2), (3, .int p3)] [.int (T_161 s p1)] (N, hm_sh L g, s) _ Q
  refine hm_st hR (hm_st hR (hm_st hR (hm_st hR (hm_st hR (?_)))))
  refine hm_st hR ⟨hm_le rfl, rfl, (hm_le rfl), (hm_ltN hN rfl), hm_le rfl, hm_le rfl, (0, 0), Nat.zero_le _, Nat.zero_le _, ?_⟩
  refine sp_162 hR hN ?_
  show R 172 14 [(4, .int ((T_161 s p1) - p2)), (0, .ref 14), (1, .int p1), (2, .int p2), (3, .int p3)] [.int (T_162 s p1)] (N, hm_sh L g, s) _ Q
  refine hm_st hR (hm_st hR (hm_st hR (hm_st hR (hm_st hR (hm_st hR (hm_st hR (hm_st hR (hm_st hR (hm_st hR (?_))))))))))
  exact hm_st hR ⟨fun z => absurd z (by decide), hq⟩
/-- CurvekeyHouse$Points.isPair(II)Z -/
def T_175 (s : hm_St) (p1 : Int32) (p2 : Int32) : Int32 := (if (T_160 s p1) = 0 then 0 else (if (T_160 s p2) = 0 then 0 else 1))
theorem B_175 (s : hm_St) (p1 : Int32) (p2 : Int32) : T_175 s p1 p2 = 0 ∨ T_175 s p1 p2 = 1 := by
  unfold T_175
  repeat' split
  all_goals first | exact Or.inl rfl | exact Or.inr rfl | exact B_160 _ _
set_option maxRecDepth 20000 in
theorem sp_175 {R : hm_R} (hR : hm_Cm R) {N L : Nat} {g : Nat → hm_Sh} {s : hm_St} {b : hm_B} {Q : hm_Q} (hN : 68 ≤ N) {p1 : Int32} {p2 : Int32} (hq : Q (.inr (some (.int (T_175 s p1 p2)))) (N, hm_sh L g, s)) : R 175 0 (lv_args 0 [.ref 14, .int p1, .int p2]) [] (N, hm_sh L g, s) b Q := by
  unfold T_175 at hq
  show R 175 0 [(0, .ref 14), (1, .int p1), (2, .int p2)] [] (N, hm_sh L g, s) _ Q
  refine hm_st hR (hm_st hR (?_))
  refine hm_st hR ⟨hm_le rfl, rfl, (hm_le rfl), (hm_ltN hN rfl), hm_le rfl, hm_le rfl, (0, 0), Nat.zero_le _, Nat.zero_le _, ?_⟩
  refine sp_160 hR hN ?_
  show R 175 5 [(0, .ref 14), (1, .int p1), (2, .int p2)] [.int (T_160 s p1)] (N, hm_sh L g, s) _ Q
  show R 175 5 [(0, .ref 14), (1, .int p1), (2, .int p2)] [.int (T_160 s p1)] (N, hm_sh L g, s) _ Q
  refine hm_st hR ⟨fun c5 => ?_, fun c5 => ?_⟩
  · rw [if_pos c5] at hq
    show R 175 20 [(0, .ref 14), (1, .int p1), (2, .int p2)] [] (N, hm_sh L g, s) _ Q
    refine hm_st hR (?_)
    exact hm_st hR ⟨fun _ => Or.inl rfl, hq⟩
  · rw [if_neg c5] at hq
    show R 175 8 [(0, .ref 14), (1, .int p1), (2, .int p2)] [] (N, hm_sh L g, s) _ Q
    refine hm_st hR (hm_st hR (?_))
    refine hm_st hR ⟨hm_le rfl, rfl, (hm_le rfl), (hm_ltN hN rfl), hm_le rfl, hm_le rfl, (0, 0), Nat.zero_le _, Nat.zero_le _, ?_⟩
    refine sp_160 hR hN ?_
    show R 175 13 [(0, .ref 14), (1, .int p1), (2, .int p2)] [.int (T_160 s p2)] (N, hm_sh L g, s) _ Q
    show R 175 13 [(0, .ref 14), (1, .int p1), (2, .int p2)] [.int (T_160 s p2)] (N, hm_sh L g, s) _ Q
    suffices G : R 175 21 [(0, .ref 14), (1, .int p1), (2, .int p2)] [.int (if (T_160 s p2) = 0 then 0 else 1)] (N, hm_sh L g, s) ((b.1 - 0, b.2 - 0).1 - 0, (b.1 - 0, b.2 - 0).2 - 0) Q by
      show R 175 13 [(0, .ref 14), (1, .int p1), (2, .int p2)] [.int (T_160 s p2)] (N, hm_sh L g, s) _ Q
      refine hm_st hR ⟨fun c => ?_, fun c => ?_⟩
      · rw [if_pos c] at G; exact hm_st hR (G)
      · rw [if_neg c] at G; exact hm_st hR (hm_st hR (G))
    exact hm_st hR ⟨fun _ => (by split <;> first | exact Or.inl rfl | exact Or.inr rfl), hq⟩
def T_176_15 (O : hm_St → Int32 → Int32 → Int32 → Int32) : Nat → hm_St → Int32 → Int32 → Int32 → Int32 → Int32
  | 0, s, _, _, _, _ => 0
  | n + 1, s, v1, v2, v3, v4 => (if v3 ≤ v4 then (O s v1 v2 (v3 + 1)) else (if (T_175 s v3 v4) = 0 then (T_176_15 O n s v1 v2 v3 (v4 + 1)) else (if v2 = (-1) then (T_176_15 O n s v1 (T_172 s v3 (T_161 s v4) (T_162 s v4)) v3 (v4 + 1)) else (if v1 = 0 then (if v2 ≤ (T_172 s v3 (T_161 s v4) (T_162 s v4)) then (T_176_15 O n s v1 v2 v3 (v4 + 1)) else (T_176_15 O n s v1 (T_172 s v3 (T_161 s v4) (T_162 s v4)) v3 (v4 + 1))) else (if (T_172 s v3 (T_161 s v4) (T_162 s v4)) ≤ v2 then (T_176_15 O n s v1 v2 v3 (v4 + 1)) else (T_176_15 O n s v1 (T_172 s v3 (T_161 s v4) (T_162 s v4)) v3 (v4 + 1)))))))
def T_176_4 : Nat → hm_St → Int32 → Int32 → Int32 → Int32
  | 0, s, _, _, _ => 0
  | n + 1, s, v1, v2, v3 => (if (s 14 5) ≤ v3 then v2 else (T_176_15 (fun s v1 v2 v3 => T_176_4 n s v1 v2 v3) (hm_df v3 0 + 1) s v1 v2 v3 0))
/-- CurvekeyHouse$Points.extremeFar(Z)I -/
def T_176 (s : hm_St) (p1 : Int32) : Int32 := (T_176_4 (hm_df (s 14 5) 0 + 1) s p1 (-1) 0)
set_option maxRecDepth 20000 in
theorem lp_176_15 {R : hm_R} (hR : hm_Cm R) {N L : Nat} {g : Nat → hm_Sh} {b : hm_B} {Q : hm_Q} (hN : 68 ≤ N) {O : hm_St → Int32 → Int32 → Int32 → Int32} {nO : Nat} (hO : ∀ (s : hm_St) (v1 : Int32) (v2 : Int32) (v3 : Int32), hm_df (s 14 5) v3 < nO → (Q (.inr (some (.int (O s v1 v2 v3)))) (N, hm_sh L g, s)) → R 176 4 [(3, .int v3), (2, .int v2), (0, .ref 14), (1, .int v1)] [] (N, hm_sh L g, s) b Q) : ∀ (n : Nat) (s : hm_St) (v1 : Int32) (v2 : Int32) (v3 : Int32) (v4 : Int32), hm_df v3 v4 < n → (hPO : hm_df (s 14 5) (v3 + 1) < nO) → (hq : Q (.inr (some (.int (T_176_15 O n s v1 v2 v3 v4)))) (N, hm_sh L g, s)) → R 176 15 [(4, .int v4), (3, .int v3), (2, .int v2), (0, .ref 14), (1, .int v1)] [] (N, hm_sh L g, s) b Q := by
  intro n
  induction n with
  | zero => intro s v1 v2 v3 v4 hm hPO _; exact absurd hm (Nat.not_lt_zero _)
  | succ n ih =>
    intro s v1 v2 v3 v4 hm hPO hq
    unfold T_176_15 at hq
    refine hm_st hR (hm_st hR (?_))
    show R 176 18 [(4, .int v4), (3, .int v3), (2, .int v2), (0, .ref 14), (1, .int v1)] [.int v3, .int v4] (N, hm_sh L g, s) _ Q
    refine hm_st hR ⟨fun c18 => ?_, fun c18 => ?_⟩
    · rw [if_pos c18] at hq
      show R 176 83 [(4, .int v4), (3, .int v3), (2, .int v2), (0, .ref 14), (1, .int v1)] [] (N, hm_sh L g, s) _ Q
      refine hm_st hR (hm_st hR (?_))
      show R 176 4 [(3, .int (v3 + 1)), (4, .int v4), (2, .int v2), (0, .ref 14), (1, .int v1)] [] (N, hm_sh L g, s) _ Q
      exact hm_lvS hR (by intro q hq; simp only [List.mem_cons, List.not_mem_nil, or_false] at hq ⊢; rcases hq with rfl | rfl | rfl | rfl <;> simp) (hO s v1 v2 (v3 + 1) hPO hq)
    · rw [if_neg c18] at hq
      show R 176 21 [(4, .int v4), (3, .int v3), (2, .int v2), (0, .ref 14), (1, .int v1)] [] (N, hm_sh L g, s) _ Q
      refine hm_st hR (hm_st hR (hm_st hR (hm_st hR (?_))))
      refine hm_st hR ⟨hm_le rfl, rfl, (hm_le rfl), (hm_ltN hN rfl), hm_le rfl, hm_le rfl, (0, 0), Nat.zero_le _, Nat.zero_le _, ?_⟩
      refine sp_161 hR hN ?_
      show R 176 29 [(4, .int v4), (3, .int v3), (2, .int v2), (0, .ref 14), (1, .int v1)] [.int (T_161 s v4), .int v3, .ref 14] (N, hm_sh L g, s) _ Q
      refine hm_st hR (hm_st hR (?_))
      refine hm_st hR ⟨hm_le rfl, rfl, (hm_le rfl), (hm_ltN hN rfl), hm_le rfl, hm_le rfl, (0, 0), Nat.zero_le _, Nat.zero_le _, ?_⟩
      refine sp_162 hR hN ?_
      show R 176 35 [(4, .int v4), (3, .int v3), (2, .int v2), (0, .ref 14), (1, .int v1)] [.int (T_162 s v4), .int (T_161 s v4), .int v3, .ref 14] (N, hm_sh L g, s) _ Q
      refine hm_st hR ⟨hm_le rfl, rfl, (hm_le rfl), (hm_ltN hN rfl), hm_le rfl, hm_le rfl, (0, 0), Nat.zero_le _, Nat.zero_le _, ?_⟩
      refine sp_172 hR hN ?_
      show R 176 38 [(4, .int v4), (3, .int v3), (2, .int v2), (0, .ref 14), (1, .int v1)] [.int (T_172 s v3 (T_161 s v4) (T_162 s v4))] (N, hm_sh L g, s) _ Q
      refine hm_st hR (hm_st hR (hm_st hR (hm_st hR (?_))))
      refine hm_st hR ⟨hm_le rfl, rfl, (hm_le rfl), (hm_ltN hN rfl), hm_le rfl, hm_le rfl, (0, 0), Nat.zero_le _, Nat.zero_le _, ?_⟩
      refine sp_175 hR hN ?_
      show R 176 47 [(5, .int (T_172 s v3 (T_161 s v4) (T_162 s v4))), (4, .int v4), (3, .int v3), (2, .int v2), (0, .ref 14), (1, .int v1)] [.int (T_175 s v3 v4)] (N, hm_sh L g, s) _ Q
      show R 176 47 [(5, .int (T_172 s v3 (T_161 s v4) (T_162 s v4))), (4, .int v4), (3, .int v3), (2, .int v2), (0, .ref 14), (1, .int v1)] [.int (T_175 s v3 v4)] (N, hm_sh L g, s) _ Q
      refine hm_st hR ⟨fun c47 => ?_, fun c47 => ?_⟩
      · rw [if_pos c47] at hq
        show R 176 77 [(5, .int (T_172 s v3 (T_161 s v4) (T_162 s v4))), (4, .int v4), (3, .int v3), (2, .int v2), (0, .ref 14), (1, .int v1)] [] (N, hm_sh L g, s) _ Q
        refine hm_st hR (hm_st hR (?_))
        show R 176 15 [(4, .int (v4 + 1)), (5, .int (T_172 s v3 (T_161 s v4) (T_162 s v4))), (3, .int v3), (2, .int v2), (0, .ref 14), (1, .int v1)] [] (N, hm_sh L g, s) _ Q
        exact hm_lvS hR (by intro q hq; simp only [List.mem_cons, List.not_mem_nil, or_false] at hq ⊢; rcases hq with rfl | rfl | rfl | rfl | rfl <;> simp) (ih s v1 v2 v3 (v4 + 1) (hm_dcx c18 hm) hPO hq)
      · rw [if_neg c47] at hq
        show R 176 50 [(5, .int (T_172 s v3 (T_161 s v4) (T_162 s v4))), (4, .int v4), (3, .int v3), (2, .int v2), (0, .ref 14), (1, .int v1)] [] (N, hm_sh L g, s) _ Q
        refine hm_st hR (hm_st hR (?_))
        show R 176 52 [(5, .int (T_172 s v3 (T_161 s v4) (T_162 s v4))), (4, .int v4), (3, .int v3), (2, .int v2), (0, .ref 14), (1, .int v1)] [.int (-1), .int v2] (N, hm_sh L g, s) _ Q
        refine hm_st hR ⟨fun c52 => ?_, fun c52 => ?_⟩
        · rw [if_pos c52] at hq
          show R 176 74 [(5, .int (T_172 s v3 (T_161 s v4) (T_162 s v4))), (4, .int v4), (3, .int v3), (2, .int v2), (0, .ref 14), (1, .int v1)] [] (N, hm_sh L g, s) _ Q
          refine hm_st hR (hm_st hR (hm_st hR (hm_st hR (?_))))
          show R 176 15 [(4, .int (v4 + 1)), (2, .int (T_172 s v3 (T_161 s v4) (T_162 s v4))), (5, .int (T_172 s v3 (T_161 s v4) (T_162 s v4))), (3, .int v3), (0, .ref 14), (1, .int v1)] [] (N, hm_sh L g, s) _ Q
          exact hm_lvS hR (by intro q hq; simp only [List.mem_cons, List.not_mem_nil, or_false] at hq ⊢; rcases hq with rfl | rfl | rfl | rfl | rfl <;> simp) (ih s v1 (T_172 s v3 (T_161 s v4) (T_162 s v4)) v3 (v4 + 1) (hm_dcx c18 hm) hPO hq)
        · rw [if_neg c52] at hq
          show R 176 55 [(5, .int (T_172 s v3 (T_161 s v4) (T_162 s v4))), (4, .int v4), (3, .int v3), (2, .int v2), (0, .ref 14), (1, .int v1)] [] (N, hm_sh L g, s) _ Q
          refine hm_st hR (?_)
          show R 176 56 [(5, .int (T_172 s v3 (T_161 s v4) (T_162 s v4))), (4, .int v4), (3, .int v3), (2, .int v2), (0, .ref 14), (1, .int v1)] [.int v1] (N, hm_sh L g, s) _ Q
          refine hm_st hR ⟨fun c56 => ?_, fun c56 => ?_⟩
          · rw [if_pos c56] at hq
            show R 176 68 [(5, .int (T_172 s v3 (T_161 s v4) (T_162 s v4))), (4, .int v4), (3, .int v3), (2, .int v2), (0, .ref 14), (1, .int v1)] [] (N, hm_sh L g, s) _ Q
            refine hm_st hR (hm_st hR (?_))
            show R 176 71 [(5, .int (T_172 s v3 (T_161 s v4) (T_162 s v4))), (4, .int v4), (3, .int v3), (2, .int v2), (0, .ref 14), (1, .int v1)] [.int v2, .int (T_172 s v3 (T_161 s v4) (T_162 s v4))] (N, hm_sh L g, s) _ Q
            refine hm_st hR ⟨fun c71 => ?_, fun c71 => ?_⟩
            · rw [if_pos c71] at hq
              show R 176 77 [(5, .int (T_172 s v3 (T_161 s v4) (T_162 s v4))), (4, .int v4), (3, .int v3), (2, .int v2), (0, .ref 14), (1, .int v1)] [] (N, hm_sh L g, s) _ Q
              refine hm_st hR (hm_st hR (?_))
              show R 176 15 [(4, .int (v4 + 1)), (5, .int (T_172 s v3 (T_161 s v4) (T_162 s v4))), (3, .int v3), (2, .int v2), (0, .ref 14), (1, .int v1)] [] (N, hm_sh L g, s) _ Q
              exact hm_lvS hR (by intro q hq; simp only [List.mem_cons, List.not_mem_nil, or_false] at hq ⊢; rcases hq with rfl | rfl | rfl | rfl | rfl <;> simp) (ih s v1 v2 v3 (v4 + 1) (hm_dcx c18 hm) hPO hq)
            · rw [if_neg c71] at hq
              show R 176 74 [(5, .int (T_172 s v3 (T_161 s v4) (T_162 s v4))), (4, .int v4), (3, .int v3), (2, .int v2), (0, .ref 14), (1, .int v1)] [] (N, hm_sh L g, s) _ Q
              refine hm_st hR (hm_st hR (hm_st hR (hm_st hR (?_))))
              show R 176 15 [(4, .int (v4 + 1)), (2, .int (T_172 s v3 (T_161 s v4) (T_162 s v4))), (5, .int (T_172 s v3 (T_161 s v4) (T_162 s v4))), (3, .int v3), (0, .ref 14), (1, .int v1)] [] (N, hm_sh L g, s) _ Q
              exact hm_lvS hR (by intro q hq; simp only [List.mem_cons, List.not_mem_nil, or_false] at hq ⊢; rcases hq with rfl | rfl | rfl | rfl | rfl <;> simp) (ih s v1 (T_172 s v3 (T_161 s v4) (T_162 s v4)) v3 (v4 + 1) (hm_dcx c18 hm) hPO hq)
          · rw [if_neg c56] at hq
            show R 176 59 [(5, .int (T_172 s v3 (T_161 s v4) (T_162 s v4))), (4, .int v4), (3, .int v3), (2, .int v2), (0, .ref 14), (1, .int v1)] [] (N, hm_sh L g, s) _ Q
            refine hm_st hR (hm_st hR (?_))
            show R 176 62 [(5, .int (T_172 s v3 (T_161 s v4) (T_162 s v4))), (4, .int v4), (3, .int v3), (2, .int v2), (0, .ref 14), (1, .int v1)] [.int v2, .int (T_172 s v3 (T_161 s v4) (T_162 s v4))] (N, hm_sh L g, s) _ Q
            refine hm_st hR ⟨fun c62 => ?_, fun c62 => ?_⟩
            · rw [if_pos c62] at hq
              show R 176 77 [(5, .int (T_172 s v3 (T_161 s v4) (T_162 s v4))), (4, .int v4), (3, .int v3), (2, .int v2), (0, .ref 14), (1, .int v1)] [] (N, hm_sh L g, s) _ Q
              refine hm_st hR (hm_st hR (?_))
              show R 176 15 [(4, .int (v4 + 1)), (5, .int (T_172 s v3 (T_161 s v4) (T_162 s v4))), (3, .int v3), (2, .int v2), (0, .ref 14), (1, .int v1)] [] (N, hm_sh L g, s) _ Q
              exact hm_lvS hR (by intro q hq; simp only [List.mem_cons, List.not_mem_nil, or_false] at hq ⊢; rcases hq with rfl | rfl | rfl | rfl | rfl <;> simp) (ih s v1 v2 v3 (v4 + 1) (hm_dcx c18 hm) hPO hq)
            · rw [if_neg c62] at hq
              show R 176 65 [(5, .int (T_172 s v3 (T_161 s v4) (T_162 s v4))), (4, .int v4), (3, .int v3), (2, .int v2), (0, .ref 14), (1, .int v1)] [] (N, hm_sh L g, s) _ Q
              refine hm_st hR (hm_st hR (hm_st hR (hm_st hR (hm_st hR (?_)))))
              show R 176 15 [(4, .int (v4 + 1)), (2, .int (T_172 s v3 (T_161 s v4) (T_162 s v4))), (5, .int (T_172 s v3 (T_161 s v4) (T_162 s v4))), (3, .int v3), (0, .ref 14), (1, .int v1)] [] (N, hm_sh L g, s) _ Q
              exact hm_lvS hR (by intro q hq; simp only [List.mem_cons, List.not_mem_nil, or_false] at hq ⊢; rcases hq with rfl | rfl | rfl | rfl | rfl <;> simp) (ih s v1 (T_172 s v3 (T_161 s v4) (T_162 s v4)) v3 (v4 + 1) (hm_dcx c18 hm) hPO hq)
set_option maxRecDepth 20000 in
theorem lp_176_4 {R : hm_R} (hR : hm_Cm R) {N L : Nat} {g : Nat → hm_Sh} {b : hm_B} {Q : hm_Q} (hN : 68 ≤ N) : ∀ (n : Nat) (s : hm_St) (v1 : Int32) (v2 : Int32) (v3 : Int32), hm_df (s 14 5) v3 < n → (hq : Q (.inr (some (.int (T_176_4 n s v1 v2 v3)))) (N, hm_sh L g, s)) → R 176 4 [(3, .int v3), (2, .int v2), (0, .ref 14), (1, .int v1)] [] (N, hm_sh L g, s) b Q := by
  intro n
  induction n with
  | zero => intro s v1 v2 v3 hm _; exact absurd hm (Nat.not_lt_zero _)
  | succ n ih =>
    intro s v1 v2 v3 hm hq
    unfold T_176_4 at hq
    refine hm_st hR (hm_st hR (hm_st hR ⟨rfl, hm_le rfl, (hm_ltN hN rfl), ?_⟩))
    show R 176 9 [(3, .int v3), (2, .int v2), (0, .ref 14), (1, .int v1)] [.int (s 14 5), .int v3] (N, hm_sh L g, s) _ Q
    refine hm_st hR ⟨fun c9 => ?_, fun c9 => ?_⟩
    · rw [if_pos c9] at hq
      show R 176 89 [(3, .int v3), (2, .int v2), (0, .ref 14), (1, .int v1)] [] (N, hm_sh L g, s) _ Q
      refine hm_st hR (?_)
      exact hm_st hR ⟨fun z => absurd z (by decide), hq⟩
    · rw [if_neg c9] at hq
      show R 176 12 [(3, .int v3), (2, .int v2), (0, .ref 14), (1, .int v1)] [] (N, hm_sh L g, s) _ Q
      refine hm_st hR (hm_st hR (?_))
      show R 176 15 [(4, .int 0), (3, .int v3), (2, .int v2), (0, .ref 14), (1, .int v1)] [] (N, hm_sh L g, s) _ Q
      exact lp_176_15 hR hN (O := (fun s v1 v2 v3 => T_176_4 n s v1 v2 v3)) (nO := n) (fun s v1 v2 v3 hm hq => ih s v1 v2 v3 hm hq) _ _ _ _ _ _ (Nat.lt_succ_self _) (hm_dcx c9 hm) hq
set_option maxRecDepth 20000 in
theorem sp_176 {R : hm_R} (hR : hm_Cm R) {N L : Nat} {g : Nat → hm_Sh} {s : hm_St} {b : hm_B} {Q : hm_Q} (hN : 68 ≤ N) {p1 : Int32} (hq : Q (.inr (some (.int (T_176 s p1)))) (N, hm_sh L g, s)) : R 176 0 (lv_args 0 [.ref 14, .int p1]) [] (N, hm_sh L g, s) b Q := by
  unfold T_176 at hq
  show R 176 0 [(0, .ref 14), (1, .int p1)] [] (N, hm_sh L g, s) _ Q
  refine hm_st hR (hm_st hR (hm_st hR (hm_st hR (?_))))
  show R 176 4 [(3, .int 0), (2, .int (-1)), (0, .ref 14), (1, .int p1)] [] (N, hm_sh L g, s) _ Q
  exact lp_176_4 hR hN _ _ _ _ _ (Nat.lt_succ_self _) hq
/-- CurvekeyHouse$Pages.keyCount()I -/
def T_137 (s : hm_St) : Int32 := (s 42 2)
set_option maxRecDepth 20000 in
theorem sp_137 {R : hm_R} (hR : hm_Cm R) {N L : Nat} {g : Nat → hm_Sh} {s : hm_St} {b : hm_B} {Q : hm_Q} (hN : 68 ≤ N) (hq : Q (.inr (some (.int (T_137 s)))) (N, hm_sh L g, s)) : R 137 0 (lv_args 0 [.ref 42]) [] (N, hm_sh L g, s) b Q := by
  unfold T_137 at hq
  show R 137 0 [(0, .ref 42)] [] (N, hm_sh L g, s) _ Q
  refine hm_st hR (hm_st hR ⟨rfl, hm_le rfl, (hm_ltN hN rfl), ?_⟩)
  exact hm_st hR ⟨fun z => absurd z (by decide), hq⟩
def T_124_7 : Nat → hm_St → Int32 → hm_St
  | 0, s, _ => s
  | n + 1, s, v2 => (if (T_137 s) ≤ v2 then s else (if (T_140 s v2) = (-1) then (T_124_7 n s (v2 + 1)) else (T_124_7 n (hm_w1 (T_179 s 66 80 (s 64 1) v2) 64 1 (((T_179 s 66 80 (s 64 1) v2) 64 1) + 1)) (v2 + 1))))
/-- CurvekeyHouse$Line.take(LCurvekeyHouse$Pages;)V -/
def T_124 (s : hm_St) : hm_St := (T_124_7 (hm_df (T_137 (hm_w1 s 64 1 0)) 0 + 1) (hm_w1 s 64 1 0) 0)
theorem N_124_7 {c j : Nat} (h64 : c ≠ 64) (h66 : c ≠ 66) : ∀ (n : Nat) (s : hm_St) (v0 : Int32), (T_124_7  n s v0) c j = s c j := by
  intro n
  induction n with
  | zero => intros; rfl
  | succ n ih =>
    intros
    unfold T_124_7
    repeat' split
    all_goals first | rfl | simp only [ih, hm_w1n h64, hm_w1n h66, N_179 h64, N_179 h66]
theorem N_124 {c j : Nat} (h64 : c ≠ 64) (h66 : c ≠ 66) {s : hm_St} : (T_124 s) c j = s c j := by
  unfold T_124
  repeat' split
  all_goals first | rfl | simp only [hm_w1n h64, hm_w1n h66, N_179 h64, N_179 h66, N_124_7 h64 h66]
set_option maxRecDepth 20000 in
theorem lp_124_7 {R : hm_R} (hR : hm_Cm R) {N L : Nat} {g : Nat → hm_Sh} {b : hm_B} {Q : hm_Q} (hN : 68 ≤ N) : ∀ (n : Nat) (s : hm_St) (v2 : Int32), hm_df (T_137 s) v2 < n → (hq : Q (.inr none) (N, hm_sh L g, (T_124_7 n s v2))) → R 124 7 [(2, .int v2), (0, .ref 64), (1, .ref 42)] [] (N, hm_sh L g, s) b Q := by
  intro n
  induction n with
  | zero => intro s v2 hm _; exact absurd hm (Nat.not_lt_zero _)
  | succ n ih =>
    intro s v2 hm hq
    unfold T_124_7 at hq
    refine hm_st hR (hm_st hR (?_))
    refine hm_st hR ⟨hm_le rfl, rfl, (hm_le rfl), (hm_ltN hN rfl), hm_le rfl, hm_le rfl, (0, 0), Nat.zero_le _, Nat.zero_le _, ?_⟩
    refine sp_137 hR hN ?_
    show R 124 12 [(2, .int v2), (0, .ref 64), (1, .ref 42)] [.int (T_137 s), .int v2] (N, hm_sh L g, s) _ Q
    show R 124 12 [(2, .int v2), (0, .ref 64), (1, .ref 42)] [.int (T_137 s), .int v2] (N, hm_sh L g, s) _ Q
    refine hm_st hR ⟨fun c12 => ?_, fun c12 => ?_⟩
    · rw [if_pos c12] at hq
      show R 124 52 [(2, .int v2), (0, .ref 64), (1, .ref 42)] [] (N, hm_sh L g, s) _ Q
      exact hm_st hR hq
    · rw [if_neg c12] at hq
      show R 124 15 [(2, .int v2), (0, .ref 64), (1, .ref 42)] [] (N, hm_sh L g, s) _ Q
      refine hm_st hR (hm_st hR (?_))
      refine hm_st hR ⟨hm_le rfl, rfl, (hm_le rfl), (hm_ltN hN rfl), hm_le rfl, hm_le rfl, (0, 0), Nat.zero_le _, Nat.zero_le _, ?_⟩
      refine sp_140 hR hN ?_
      show R 124 20 [(2, .int v2), (0, .ref 64), (1, .ref 42)] [.int (T_140 s v2)] (N, hm_sh L g, s) _ Q
      refine hm_st hR (?_)
      show R 124 21 [(2, .int v2), (0, .ref 64), (1, .ref 42)] [.int (-1), .int (T_140 s v2)] (N, hm_sh L g, s) _ Q
      refine hm_st hR ⟨fun c21 => ?_, fun c21 => ?_⟩
      · rw [if_pos c21] at hq
        show R 124 46 [(2, .int v2), (0, .ref 64), (1, .ref 42)] [] (N, hm_sh L g, s) _ Q
        refine hm_st hR (hm_st hR (?_))
        show R 124 7 [(2, .int (v2 + 1)), (0, .ref 64), (1, .ref 42)] [] (N, hm_sh L g, s) _ Q
        exact hm_lvS hR (by intro q hq; simp only [List.mem_cons, List.not_mem_nil, or_false] at hq ⊢; rcases hq with rfl | rfl | rfl <;> simp) (ih s (v2 + 1) (by first | exact hm_dcx c12 hm | exact hm_dcE (by simp only [T_137, hm_w1n (show (42 : Nat) ≠ 64 by decide), N_179 (show (42 : Nat) ≠ 64 by decide), hm_w1n (show (42 : Nat) ≠ 66 by decide), N_179 (show (42 : Nat) ≠ 66 by decide)]) (hm_dcx c12 hm)) hq)
      · rw [if_neg c21] at hq
        show R 124 24 [(2, .int v2), (0, .ref 64), (1, .ref 42)] [] (N, hm_sh L g, s) _ Q
        refine hm_st hR (hm_st hR ⟨rfl, hm_le rfl, (hm_ltN hN rfl), hm_st hR (hm_st hR ⟨rfl, hm_le rfl, (hm_ltN hN rfl), hm_st hR (?_)⟩)⟩)
        refine hm_st hR ⟨hm_le rfl, rfl, (hm_le rfl), (hm_ltN hN rfl), hm_le rfl, hm_le rfl, (0, 0), Nat.zero_le _, Nat.zero_le _, ?_⟩
        refine sp_179 hR hN (rr := 65) (aa := 66) (nn := 80) rfl rfl (hm_le rfl) (hm_ltN hN rfl) rfl rfl (hm_le rfl) (hm_ltN hN rfl) (by decide) ?_
        show R 124 36 [(2, .int v2), (0, .ref 64), (1, .ref 42)] [] (N, hm_sh L g, (T_179 s 66 80 (s 64 1) v2)) _ Q
        refine hm_st hR (hm_st hR ⟨rfl, hm_st hR ⟨rfl, hm_le rfl, (hm_ltN hN rfl), hm_st hR (hm_st hR (hm_st hR ⟨rfl, rfl, hm_le rfl, (hm_ltN hN rfl), ?_⟩))⟩⟩)
        show R 124 46 [(2, .int v2), (0, .ref 64), (1, .ref 42)] [] (N, hm_sh L g, (hm_w1 (T_179 s 66 80 (s 64 1) v2) 64 1 (((T_179 s 66 80 (s 64 1) v2) 64 1) + 1))) _ Q
        refine hm_st hR (hm_st hR (?_))
        show R 124 7 [(2, .int (v2 + 1)), (0, .ref 64), (1, .ref 42)] [] (N, hm_sh L g, (hm_w1 (T_179 s 66 80 (s 64 1) v2) 64 1 (((T_179 s 66 80 (s 64 1) v2) 64 1) + 1))) _ Q
        exact hm_lvS hR (by intro q hq; simp only [List.mem_cons, List.not_mem_nil, or_false] at hq ⊢; rcases hq with rfl | rfl | rfl <;> simp) (ih (hm_w1 (T_179 s 66 80 (s 64 1) v2) 64 1 (((T_179 s 66 80 (s 64 1) v2) 64 1) + 1)) (v2 + 1) (by first | exact hm_dcx c12 hm | exact hm_dcE (by simp only [T_137, hm_w1n (show (42 : Nat) ≠ 64 by decide), N_179 (show (42 : Nat) ≠ 64 by decide), hm_w1n (show (42 : Nat) ≠ 66 by decide), N_179 (show (42 : Nat) ≠ 66 by decide)]) (hm_dcx c12 hm)) hq)
set_option maxRecDepth 20000 in
theorem sp_124 {R : hm_R} (hR : hm_Cm R) {N L : Nat} {g : Nat → hm_Sh} {s : hm_St} {b : hm_B} {Q : hm_Q} (hN : 68 ≤ N) (hq : Q (.inr none) (N, hm_sh L g, (T_124 s))) : R 124 0 (lv_args 0 [.ref 64, .ref 42]) [] (N, hm_sh L g, s) b Q := by
  unfold T_124 at hq
  show R 124 0 [(0, .ref 64), (1, .ref 42)] [] (N, hm_sh L g, s) _ Q
  refine hm_st hR (hm_st hR (hm_st hR ⟨rfl, rfl, hm_le rfl, (hm_ltN hN rfl), ?_⟩))
  show R 124 5 [(0, .ref 64), (1, .ref 42)] [] (N, hm_sh L g, (hm_w1 s 64 1 0)) _ Q
  refine hm_st hR (hm_st hR (?_))
  show R 124 7 [(2, .int 0), (0, .ref 64), (1, .ref 42)] [] (N, hm_sh L g, (hm_w1 s 64 1 0)) _ Q
  exact lp_124_7 hR hN _ _ _ (Nat.lt_succ_self _) hq
/-- CurvekeyHouse$Line.guessOn(III)I -/
def T_129 (s : hm_St) (p1 : Int32) (p2 : Int32) (p3 : Int32) : Int32 := (if 0 < ((T_178 s 66 80 p2) - (T_178 s 66 80 p1)) then (p1 + (((p3 - (T_178 s 66 80 p1)) * (p2 - p1)) / ((T_178 s 66 80 p2) - (T_178 s 66 80 p1)))) else p1)
set_option maxRecDepth 20000 in
theorem sp_129 {R : hm_R} (hR : hm_Cm R) {N L : Nat} {g : Nat → hm_Sh} {s : hm_St} {b : hm_B} {Q : hm_Q} (hN : 68 ≤ N) {p1 : Int32} {p2 : Int32} {p3 : Int32} (hq : Q (.inr (some (.int (T_129 s p1 p2 p3)))) (N, hm_sh L g, s)) : R 129 0 (lv_args 0 [.ref 64, .int p1, .int p2, .int p3]) [] (N, hm_sh L g, s) b Q := by
  unfold T_129 at hq
  show R 129 0 [(0, .ref 64), (1, .int p1), (2, .int p2), (3, .int p3)] [] (N, hm_sh L g, s) _ Q
  refine hm_st hR (hm_st hR ⟨rfl, hm_le rfl, (hm_ltN hN rfl), hm_st hR (?_)⟩)
  refine hm_st hR ⟨hm_le rfl, rfl, (hm_le rfl), (hm_ltN hN rfl), hm_le rfl, hm_le rfl, (0, 0), Nat.zero_le _, Nat.zero_le _, ?_⟩
  refine sp_178 hR hN (rr := 65) (aa := 66) (nn := 80) rfl rfl (hm_le rfl) (hm_ltN hN rfl) rfl rfl (hm_le rfl) (hm_ltN hN rfl) (by decide) ?_
  show R 129 8 [(0, .ref 64), (1, .int p1), (2, .int p2), (3, .int p3)] [.int (T_178 s 66 80 p1)] (N, hm_sh L g, s) _ Q
  refine hm_st hR (hm_st hR (hm_st hR ⟨rfl, hm_le rfl, (hm_ltN hN rfl), hm_st hR (?_)⟩))
  refine hm_st hR ⟨hm_le rfl, rfl, (hm_le rfl), (hm_ltN hN rfl), hm_le rfl, hm_le rfl, (0, 0), Nat.zero_le _, Nat.zero_le _, ?_⟩
  refine sp_178 hR hN (rr := 65) (aa := 66) (nn := 80) rfl rfl (hm_le rfl) (hm_ltN hN rfl) rfl rfl (hm_le rfl) (hm_ltN hN rfl) (by decide) ?_
  show R 129 18 [(4, .int (T_178 s 66 80 p1)), (0, .ref 64), (1, .int p1), (2, .int p2), (3, .int p3)] [.int (T_178 s 66 80 p2)] (N, hm_sh L g, s) _ Q
  refine hm_st hR (hm_st hR (hm_st hR (hm_st hR (?_))))
  show R 129 25 [(5, .int ((T_178 s 66 80 p2) - (T_178 s 66 80 p1))), (4, .int (T_178 s 66 80 p1)), (0, .ref 64), (1, .int p1), (2, .int p2), (3, .int p3)] [.int ((T_178 s 66 80 p2) - (T_178 s 66 80 p1))] (N, hm_sh L g, s) _ Q
  refine hm_st hR ⟨fun c25 => ?_, fun c25 => ?_⟩
  · rw [if_pos c25] at hq
    show R 129 32 [(5, .int ((T_178 s 66 80 p2) - (T_178 s 66 80 p1))), (4, .int (T_178 s 66 80 p1)), (0, .ref 64), (1, .int p1), (2, .int p2), (3, .int p3)] [] (N, hm_sh L g, s) _ Q
    refine hm_st hR (hm_st hR (hm_st hR (hm_st hR (hm_st hR (hm_st hR (hm_st hR (hm_st hR (hm_st hR (hm_st hR ⟨(hm_nz2 c25), hm_st hR (?_)⟩)))))))))
    exact hm_st hR ⟨fun z => absurd z (by decide), hq⟩
  · rw [if_neg c25] at hq
    show R 129 28 [(5, .int ((T_178 s 66 80 p2) - (T_178 s 66 80 p1))), (4, .int (T_178 s 66 80 p1)), (0, .ref 64), (1, .int p1), (2, .int p2), (3, .int p3)] [] (N, hm_sh L g, s) _ Q
    refine hm_st hR (hm_st hR (?_))
    exact hm_st hR ⟨fun z => absurd z (by decide), hq⟩
def T_130_5 : Nat → hm_St → Int32 → Int32 → Int32 → Int32 → Int32
  | 0, s, _, _, _, _ => 0
  | n + 1, s, v1, v2, v3, v4 => (if v2 < v4 then v3 else (T_130_5 n s v1 v2 (hm_max v3 (hm_abs ((T_129 s v1 v2 (T_178 s 66 80 v4)) - v4))) (v4 + 1)))
/-- CurvekeyHouse$Line.errorOn(II)I -/
def T_130 (s : hm_St) (p1 : Int32) (p2 : Int32) : Int32 := (T_130_5 (hm_df1 p2 p1 + 1) s p1 p2 0 p1)
set_option maxRecDepth 20000 in
theorem lp_130_5 {R : hm_R} (hR : hm_Cm R) {N L : Nat} {g : Nat → hm_Sh} {b : hm_B} {Q : hm_Q} (hN : 68 ≤ N) : ∀ (n : Nat) (s : hm_St) (v1 : Int32) (v2 : Int32) (v3 : Int32) (v4 : Int32), hm_df1 v2 v4 < n → (hinv : v2 < 100000) → (hq : Q (.inr (some (.int (T_130_5 n s v1 v2 v3 v4)))) (N, hm_sh L g, s)) → R 130 5 [(4, .int v4), (3, .int v3), (0, .ref 64), (1, .int v1), (2, .int v2)] [] (N, hm_sh L g, s) b Q := by
  intro n
  induction n with
  | zero => intro s v1 v2 v3 v4 hm hinv _; exact absurd hm (Nat.not_lt_zero _)
  | succ n ih =>
    intro s v1 v2 v3 v4 hm hinv hq
    unfold T_130_5 at hq
    refine hm_st hR (hm_st hR (?_))
    show R 130 8 [(4, .int v4), (3, .int v3), (0, .ref 64), (1, .int v1), (2, .int v2)] [.int v2, .int v4] (N, hm_sh L g, s) _ Q
    refine hm_st hR ⟨fun c8 => ?_, fun c8 => ?_⟩
    · rw [if_pos c8] at hq
      show R 130 43 [(4, .int v4), (3, .int v3), (0, .ref 64), (1, .int v1), (2, .int v2)] [] (N, hm_sh L g, s) _ Q
      refine hm_st hR (?_)
      exact hm_st hR ⟨fun z => absurd z (by decide), hq⟩
    · rw [if_neg c8] at hq
      show R 130 11 [(4, .int v4), (3, .int v3), (0, .ref 64), (1, .int v1), (2, .int v2)] [] (N, hm_sh L g, s) _ Q
      refine hm_st hR (hm_st hR (hm_st hR (hm_st hR (hm_st hR (hm_st hR ⟨rfl, hm_le rfl, (hm_ltN hN rfl), hm_st hR (?_)⟩)))))
      refine hm_st hR ⟨hm_le rfl, rfl, (hm_le rfl), (hm_ltN hN rfl), hm_le rfl, hm_le rfl, (0, 0), Nat.zero_le _, Nat.zero_le _, ?_⟩
      refine sp_178 hR hN (rr := 65) (aa := 66) (nn := 80) rfl rfl (hm_le rfl) (hm_ltN hN rfl) rfl rfl (hm_le rfl) (hm_ltN hN rfl) (by decide) ?_
      show R 130 24 [(4, .int v4), (3, .int v3), (0, .ref 64), (1, .int v1), (2, .int v2)] [.int (T_178 s 66 80 v4), .int v2, .int v1, .ref 64, .int v3] (N, hm_sh L g, s) _ Q
      refine hm_st hR ⟨hm_le rfl, rfl, (hm_le rfl), (hm_ltN hN rfl), hm_le rfl, hm_le rfl, (0, 0), Nat.zero_le _, Nat.zero_le _, ?_⟩
      refine sp_129 hR hN ?_
      show R 130 27 [(4, .int v4), (3, .int v3), (0, .ref 64), (1, .int v1), (2, .int v2)] [.int (T_129 s v1 v2 (T_178 s 66 80 v4)), .int v3] (N, hm_sh L g, s) _ Q
      refine hm_st hR (hm_st hR (hm_st hR ⟨hm_le rfl, ?_⟩))
      show R 130 33 [(4, .int v4), (3, .int v3), (0, .ref 64), (1, .int v1), (2, .int v2)] [.int (hm_abs ((T_129 s v1 v2 (T_178 s 66 80 v4)) - v4)), .int v3] (N, hm_sh L g, s) _ Q
      refine hm_st hR ⟨hm_le rfl, ?_⟩
      show R 130 36 [(4, .int v4), (3, .int v3), (0, .ref 64), (1, .int v1), (2, .int v2)] [.int (hm_max v3 (hm_abs ((T_129 s v1 v2 (T_178 s 66 80 v4)) - v4)))] (N, hm_sh L g, s) _ Q
      refine hm_st hR (hm_st hR (hm_st hR (?_)))
      show R 130 5 [(4, .int (v4 + 1)), (3, .int (hm_max v3 (hm_abs ((T_129 s v1 v2 (T_178 s 66 80 v4)) - v4)))), (0, .ref 64), (1, .int v1), (2, .int v2)] [] (N, hm_sh L g, s) _ Q
      exact hm_lvS hR (by intro q hq; simp only [List.mem_cons, List.not_mem_nil, or_false] at hq ⊢; rcases hq with rfl | rfl | rfl | rfl | rfl <;> simp) (ih s v1 v2 (hm_max v3 (hm_abs ((T_129 s v1 v2 (T_178 s 66 80 v4)) - v4))) (v4 + 1) (hm_dcy c8 hinv hm) hinv hq)
set_option maxRecDepth 20000 in
theorem sp_130 {R : hm_R} (hR : hm_Cm R) {N L : Nat} {g : Nat → hm_Sh} {s : hm_St} {b : hm_B} {Q : hm_Q} (hN : 68 ≤ N) {p1 : Int32} {p2 : Int32} (hE : p2 < 100000) (hq : Q (.inr (some (.int (T_130 s p1 p2)))) (N, hm_sh L g, s)) : R 130 0 (lv_args 0 [.ref 64, .int p1, .int p2]) [] (N, hm_sh L g, s) b Q := by
  unfold T_130 at hq
  show R 130 0 [(0, .ref 64), (1, .int p1), (2, .int p2)] [] (N, hm_sh L g, s) _ Q
  refine hm_st hR (hm_st hR (hm_st hR (hm_st hR (?_))))
  show R 130 5 [(4, .int p1), (3, .int 0), (0, .ref 64), (1, .int p1), (2, .int p2)] [] (N, hm_sh L g, s) _ Q
  exact lp_130_5 hR hN _ _ _ _ _ _ (Nat.lt_succ_self _) hE hq
/-- CurvekeyHouse$Line.errorWhole()I -/
def T_127 (s : hm_St) : Int32 := (if (s 64 1) = 0 then (-1) else (T_130 s 0 ((s 64 1) - 1)))
set_option maxRecDepth 20000 in
theorem sp_127 {R : hm_R} (hR : hm_Cm R) {N L : Nat} {g : Nat → hm_Sh} {s : hm_St} {b : hm_B} {Q : hm_Q} (hN : 68 ≤ N) (hE : (s 64 1 - 1) < 100000) (hq : Q (.inr (some (.int (T_127 s)))) (N, hm_sh L g, s)) : R 127 0 (lv_args 0 [.ref 64]) [] (N, hm_sh L g, s) b Q := by
  unfold T_127 at hq
  show R 127 0 [(0, .ref 64)] [] (N, hm_sh L g, s) _ Q
  refine hm_st hR (hm_st hR ⟨rfl, hm_le rfl, (hm_ltN hN rfl), ?_⟩)
  show R 127 4 [(0, .ref 64)] [.int (s 64 1)] (N, hm_sh L g, s) _ Q
  refine hm_st hR ⟨fun c4 => ?_, fun c4 => ?_⟩
  · rw [if_neg c4] at hq
    show R 127 11 [(0, .ref 64)] [] (N, hm_sh L g, s) _ Q
    refine hm_st hR (hm_st hR (hm_st hR (hm_st hR ⟨rfl, hm_le rfl, (hm_ltN hN rfl), hm_st hR (hm_st hR (?_))⟩)))
    refine hm_st hR ⟨hm_le rfl, rfl, (hm_le rfl), (hm_ltN hN rfl), hm_le rfl, hm_le rfl, (0, 0), Nat.zero_le _, Nat.zero_le _, ?_⟩
    refine sp_130 hR hN hE ?_
    show R 127 22 [(0, .ref 64)] [.int (T_130 s 0 ((s 64 1) - 1))] (N, hm_sh L g, s) _ Q
    exact hm_st hR ⟨fun z => absurd z (by decide), hq⟩
  · rw [if_pos c4] at hq
    show R 127 7 [(0, .ref 64)] [] (N, hm_sh L g, s) _ Q
    refine hm_st hR (hm_st hR (?_))
    exact hm_st hR ⟨fun z => absurd z (by decide), hq⟩
def T_128_7 : Nat → hm_St → Int32 → Int32 → Int32 → Int32 → Int32
  | 0, s, _, _, _, _ => 0
  | n + 1, s, v1, v2, v3, v4 => (if (s 64 1) ≤ v4 then v2 else (if v4 = 0 then (T_128_7 n s v1 (v2 + 1) v4 (v4 + 1)) else (if (T_130 s v3 v4) ≤ v1 then (T_128_7 n s v1 v2 v3 (v4 + 1)) else (T_128_7 n s v1 (v2 + 1) v4 (v4 + 1)))))
/-- CurvekeyHouse$Line.piecesFor(I)I -/
def T_128 (s : hm_St) (p1 : Int32) : Int32 := (T_128_7 (hm_df (s 64 1) 0 + 1) s p1 0 0 0)
set_option maxRecDepth 20000 in
theorem lp_128_7 {R : hm_R} (hR : hm_Cm R) {N L : Nat} {g : Nat → hm_Sh} {b : hm_B} {Q : hm_Q} (hN : 68 ≤ N) : ∀ (n : Nat) (s : hm_St) (v1 : Int32) (v2 : Int32) (v3 : Int32) (v4 : Int32), hm_df (s 64 1) v4 < n → (hinv : s 64 1 ≤ 100000) → (hq : Q (.inr (some (.int (T_128_7 n s v1 v2 v3 v4)))) (N, hm_sh L g, s)) → R 128 7 [(4, .int v4), (3, .int v3), (2, .int v2), (0, .ref 64), (1, .int v1)] [] (N, hm_sh L g, s) b Q := by
  intro n
  induction n with
  | zero => intro s v1 v2 v3 v4 hm hinv _; exact absurd hm (Nat.not_lt_zero _)
  | succ n ih =>
    intro s v1 v2 v3 v4 hm hinv hq
    unfold T_128_7 at hq
    refine hm_st hR (hm_st hR (hm_st hR ⟨rfl, hm_le rfl, (hm_ltN hN rfl), ?_⟩))
    show R 128 13 [(4, .int v4), (3, .int v3), (2, .int v2), (0, .ref 64), (1, .int v1)] [.int (s 64 1), .int v4] (N, hm_sh L g, s) _ Q
    refine hm_st hR ⟨fun c13 => ?_, fun c13 => ?_⟩
    · rw [if_pos c13] at hq
      show R 128 44 [(4, .int v4), (3, .int v3), (2, .int v2), (0, .ref 64), (1, .int v1)] [] (N, hm_sh L g, s) _ Q
      refine hm_st hR (?_)
      exact hm_st hR ⟨fun z => absurd z (by decide), hq⟩
    · rw [if_neg c13] at hq
      show R 128 16 [(4, .int v4), (3, .int v3), (2, .int v2), (0, .ref 64), (1, .int v1)] [] (N, hm_sh L g, s) _ Q
      refine hm_st hR (?_)
      show R 128 18 [(4, .int v4), (3, .int v3), (2, .int v2), (0, .ref 64), (1, .int v1)] [.int v4] (N, hm_sh L g, s) _ Q
      refine hm_st hR ⟨fun c18 => ?_, fun c18 => ?_⟩
      · rw [if_pos c18] at hq
        show R 128 32 [(4, .int v4), (3, .int v3), (2, .int v2), (0, .ref 64), (1, .int v1)] [] (N, hm_sh L g, s) _ Q
        refine hm_st hR (hm_st hR (hm_st hR (hm_st hR (hm_st hR (?_)))))
        show R 128 7 [(4, .int (v4 + 1)), (3, .int v4), (2, .int (v2 + 1)), (0, .ref 64), (1, .int v1)] [] (N, hm_sh L g, s) _ Q
        exact hm_lvS hR (by intro q hq; simp only [List.mem_cons, List.not_mem_nil, or_false] at hq ⊢; rcases hq with rfl | rfl | rfl | rfl | rfl <;> simp) (ih s v1 (v2 + 1) v4 (v4 + 1) (hm_dcx c13 hm) hinv hq)
      · rw [if_neg c18] at hq
        show R 128 21 [(4, .int v4), (3, .int v3), (2, .int v2), (0, .ref 64), (1, .int v1)] [] (N, hm_sh L g, s) _ Q
        refine hm_st hR (hm_st hR (hm_st hR (?_)))
        refine hm_st hR ⟨hm_le rfl, rfl, (hm_le rfl), (hm_ltN hN rfl), hm_le rfl, hm_le rfl, (0, 0), Nat.zero_le _, Nat.zero_le _, ?_⟩
        refine sp_130 hR hN (hm_ltT c13 hinv) ?_
        show R 128 28 [(4, .int v4), (3, .int v3), (2, .int v2), (0, .ref 64), (1, .int v1)] [.int (T_130 s v3 v4)] (N, hm_sh L g, s) _ Q
        refine hm_st hR (?_)
        show R 128 29 [(4, .int v4), (3, .int v3), (2, .int v2), (0, .ref 64), (1, .int v1)] [.int v1, .int (T_130 s v3 v4)] (N, hm_sh L g, s) _ Q
        refine hm_st hR ⟨fun c29 => ?_, fun c29 => ?_⟩
        · rw [if_pos c29] at hq
          show R 128 38 [(4, .int v4), (3, .int v3), (2, .int v2), (0, .ref 64), (1, .int v1)] [] (N, hm_sh L g, s) _ Q
          refine hm_st hR (hm_st hR (?_))
          show R 128 7 [(4, .int (v4 + 1)), (3, .int v3), (2, .int v2), (0, .ref 64), (1, .int v1)] [] (N, hm_sh L g, s) _ Q
          exact hm_lvS hR (by intro q hq; simp only [List.mem_cons, List.not_mem_nil, or_false] at hq ⊢; rcases hq with rfl | rfl | rfl | rfl | rfl <;> simp) (ih s v1 v2 v3 (v4 + 1) (hm_dcx c13 hm) hinv hq)
        · rw [if_neg c29] at hq
          show R 128 32 [(4, .int v4), (3, .int v3), (2, .int v2), (0, .ref 64), (1, .int v1)] [] (N, hm_sh L g, s) _ Q
          refine hm_st hR (hm_st hR (hm_st hR (hm_st hR (hm_st hR (?_)))))
          show R 128 7 [(4, .int (v4 + 1)), (3, .int v4), (2, .int (v2 + 1)), (0, .ref 64), (1, .int v1)] [] (N, hm_sh L g, s) _ Q
          exact hm_lvS hR (by intro q hq; simp only [List.mem_cons, List.not_mem_nil, or_false] at hq ⊢; rcases hq with rfl | rfl | rfl | rfl | rfl <;> simp) (ih s v1 (v2 + 1) v4 (v4 + 1) (hm_dcx c13 hm) hinv hq)
set_option maxRecDepth 20000 in
theorem sp_128 {R : hm_R} (hR : hm_Cm R) {N L : Nat} {g : Nat → hm_Sh} {s : hm_St} {b : hm_B} {Q : hm_Q} (hN : 68 ≤ N) {p1 : Int32} (hE : s 64 1 ≤ 100000) (hq : Q (.inr (some (.int (T_128 s p1)))) (N, hm_sh L g, s)) : R 128 0 (lv_args 0 [.ref 64, .int p1]) [] (N, hm_sh L g, s) b Q := by
  unfold T_128 at hq
  show R 128 0 [(0, .ref 64), (1, .int p1)] [] (N, hm_sh L g, s) _ Q
  refine hm_st hR (hm_st hR (hm_st hR (hm_st hR (hm_st hR (hm_st hR (?_))))))
  show R 128 7 [(4, .int 0), (3, .int 0), (2, .int 0), (0, .ref 64), (1, .int p1)] [] (N, hm_sh L g, s) _ Q
  exact lp_128_7 hR hN _ _ _ _ _ _ (Nat.lt_succ_self _) hE hq
def T_148_5 : Nat → hm_St → Int32 → Int32 → Int32 → Int32 → Int32
  | 0, s, _, _, _, _ => 0
  | n + 1, s, v1, v2, v3, v4 => (if (s 42 4) ≤ v4 then v3 else (if (T_146 s v4 v2) = v1 then (T_148_5 n s v1 v2 (v3 + 1) (v4 + 1)) else (T_148_5 n s v1 v2 v3 (v4 + 1))))
/-- CurvekeyHouse$Pages.ownedBy(II)I -/
def T_148 (s : hm_St) (p1 : Int32) (p2 : Int32) : Int32 := (T_148_5 (hm_df (s 42 4) 0 + 1) s p1 p2 0 0)
set_option maxRecDepth 20000 in
theorem lp_148_5 {R : hm_R} (hR : hm_Cm R) {N L : Nat} {g : Nat → hm_Sh} {b : hm_B} {Q : hm_Q} (hN : 68 ≤ N) : ∀ (n : Nat) (s : hm_St) (v1 : Int32) (v2 : Int32) (v3 : Int32) (v4 : Int32), hm_df (s 42 4) v4 < n → (hq : Q (.inr (some (.int (T_148_5 n s v1 v2 v3 v4)))) (N, hm_sh L g, s)) → R 148 5 [(4, .int v4), (3, .int v3), (0, .ref 42), (1, .int v1), (2, .int v2)] [] (N, hm_sh L g, s) b Q := by
  intro n
  induction n with
  | zero => intro s v1 v2 v3 v4 hm _; exact absurd hm (Nat.not_lt_zero _)
  | succ n ih =>
    intro s v1 v2 v3 v4 hm hq
    unfold T_148_5 at hq
    refine hm_st hR (hm_st hR (hm_st hR ⟨rfl, hm_le rfl, (hm_ltN hN rfl), ?_⟩))
    show R 148 11 [(4, .int v4), (3, .int v3), (0, .ref 42), (1, .int v1), (2, .int v2)] [.int (s 42 4), .int v4] (N, hm_sh L g, s) _ Q
    refine hm_st hR ⟨fun c11 => ?_, fun c11 => ?_⟩
    · rw [if_pos c11] at hq
      show R 148 34 [(4, .int v4), (3, .int v3), (0, .ref 42), (1, .int v1), (2, .int v2)] [] (N, hm_sh L g, s) _ Q
      refine hm_st hR (?_)
      exact hm_st hR ⟨fun z => absurd z (by decide), hq⟩
    · rw [if_neg c11] at hq
      show R 148 14 [(4, .int v4), (3, .int v3), (0, .ref 42), (1, .int v1), (2, .int v2)] [] (N, hm_sh L g, s) _ Q
      refine hm_st hR (hm_st hR (hm_st hR (?_)))
      refine hm_st hR ⟨hm_le rfl, rfl, (hm_le rfl), (hm_ltN hN rfl), hm_le rfl, hm_le rfl, (0, 0), Nat.zero_le _, Nat.zero_le _, ?_⟩
      refine sp_146 hR hN ?_
      show R 148 21 [(4, .int v4), (3, .int v3), (0, .ref 42), (1, .int v1), (2, .int v2)] [.int (T_146 s v4 v2)] (N, hm_sh L g, s) _ Q
      refine hm_st hR (?_)
      show R 148 22 [(4, .int v4), (3, .int v3), (0, .ref 42), (1, .int v1), (2, .int v2)] [.int v1, .int (T_146 s v4 v2)] (N, hm_sh L g, s) _ Q
      refine hm_st hR ⟨fun c22 => ?_, fun c22 => ?_⟩
      · rw [if_neg c22] at hq
        show R 148 28 [(4, .int v4), (3, .int v3), (0, .ref 42), (1, .int v1), (2, .int v2)] [] (N, hm_sh L g, s) _ Q
        refine hm_st hR (hm_st hR (?_))
        show R 148 5 [(4, .int (v4 + 1)), (3, .int v3), (0, .ref 42), (1, .int v1), (2, .int v2)] [] (N, hm_sh L g, s) _ Q
        exact hm_lvS hR (by intro q hq; simp only [List.mem_cons, List.not_mem_nil, or_false] at hq ⊢; rcases hq with rfl | rfl | rfl | rfl | rfl <;> simp) (ih s v1 v2 v3 (v4 + 1) (hm_dcx c11 hm) hq)
      · rw [if_pos c22] at hq
        show R 148 25 [(4, .int v4), (3, .int v3), (0, .ref 42), (1, .int v1), (2, .int v2)] [] (N, hm_sh L g, s) _ Q
        refine hm_st hR (hm_st hR (hm_st hR (?_)))
        show R 148 5 [(4, .int (v4 + 1)), (3, .int (v3 + 1)), (0, .ref 42), (1, .int v1), (2, .int v2)] [] (N, hm_sh L g, s) _ Q
        exact hm_lvS hR (by intro q hq; simp only [List.mem_cons, List.not_mem_nil, or_false] at hq ⊢; rcases hq with rfl | rfl | rfl | rfl | rfl <;> simp) (ih s v1 v2 (v3 + 1) (v4 + 1) (hm_dcx c11 hm) hq)
set_option maxRecDepth 20000 in
theorem sp_148 {R : hm_R} (hR : hm_Cm R) {N L : Nat} {g : Nat → hm_Sh} {s : hm_St} {b : hm_B} {Q : hm_Q} (hN : 68 ≤ N) {p1 : Int32} {p2 : Int32} (hq : Q (.inr (some (.int (T_148 s p1 p2)))) (N, hm_sh L g, s)) : R 148 0 (lv_args 0 [.ref 42, .int p1, .int p2]) [] (N, hm_sh L g, s) b Q := by
  unfold T_148 at hq
  show R 148 0 [(0, .ref 42), (1, .int p1), (2, .int p2)] [] (N, hm_sh L g, s) _ Q
  refine hm_st hR (hm_st hR (hm_st hR (hm_st hR (?_))))
  show R 148 5 [(4, .int 0), (3, .int 0), (0, .ref 42), (1, .int p1), (2, .int p2)] [] (N, hm_sh L g, s) _ Q
  exact lp_148_5 hR hN _ _ _ _ _ _ (Nat.lt_succ_self _) hq
def T_149_2 : Nat → hm_St → Int32 → Int32 → Int32 → Int32
  | 0, s, _, _, _ => 0
  | n + 1, s, v1, v2, v3 => (if (s 42 4) ≤ v3 then (-1) else (if (T_146 s v3 v2) = v1 then (T_178 s 46 1025 v3) else (T_149_2 n s v1 v2 (v3 + 1))))
/-- CurvekeyHouse$Pages.firstFloorOf(II)I -/
def T_149 (s : hm_St) (p1 : Int32) (p2 : Int32) : Int32 := (T_149_2 (hm_df (s 42 4) 0 + 1) s p1 p2 0)
set_option maxRecDepth 20000 in
theorem lp_149_2 {R : hm_R} (hR : hm_Cm R) {N L : Nat} {g : Nat → hm_Sh} {b : hm_B} {Q : hm_Q} (hN : 68 ≤ N) : ∀ (n : Nat) (s : hm_St) (v1 : Int32) (v2 : Int32) (v3 : Int32), hm_df (s 42 4) v3 < n → (hq : Q (.inr (some (.int (T_149_2 n s v1 v2 v3)))) (N, hm_sh L g, s)) → R 149 2 [(3, .int v3), (0, .ref 42), (1, .int v1), (2, .int v2)] [] (N, hm_sh L g, s) b Q := by
  intro n
  induction n with
  | zero => intro s v1 v2 v3 hm _; exact absurd hm (Nat.not_lt_zero _)
  | succ n ih =>
    intro s v1 v2 v3 hm hq
    unfold T_149_2 at hq
    refine hm_st hR (hm_st hR (hm_st hR ⟨rfl, hm_le rfl, (hm_ltN hN rfl), ?_⟩))
    show R 149 7 [(3, .int v3), (0, .ref 42), (1, .int v1), (2, .int v2)] [.int (s 42 4), .int v3] (N, hm_sh L g, s) _ Q
    refine hm_st hR ⟨fun c7 => ?_, fun c7 => ?_⟩
    · rw [if_pos c7] at hq
      show R 149 35 [(3, .int v3), (0, .ref 42), (1, .int v1), (2, .int v2)] [] (N, hm_sh L g, s) _ Q
      refine hm_st hR (?_)
      exact hm_st hR ⟨fun z => absurd z (by decide), hq⟩
    · rw [if_neg c7] at hq
      show R 149 10 [(3, .int v3), (0, .ref 42), (1, .int v1), (2, .int v2)] [] (N, hm_sh L g, s) _ Q
      refine hm_st hR (hm_st hR (hm_st hR (?_)))
      refine hm_st hR ⟨hm_le rfl, rfl, (hm_le rfl), (hm_ltN hN rfl), hm_le rfl, hm_le rfl, (0, 0), Nat.zero_le _, Nat.zero_le _, ?_⟩
      refine sp_146 hR hN ?_
      show R 149 16 [(3, .int v3), (0, .ref 42), (1, .int v1), (2, .int v2)] [.int (T_146 s v3 v2)] (N, hm_sh L g, s) _ Q
      refine hm_st hR (?_)
      show R 149 17 [(3, .int v3), (0, .ref 42), (1, .int v1), (2, .int v2)] [.int v1, .int (T_146 s v3 v2)] (N, hm_sh L g, s) _ Q
      refine hm_st hR ⟨fun c17 => ?_, fun c17 => ?_⟩
      · rw [if_neg c17] at hq
        show R 149 29 [(3, .int v3), (0, .ref 42), (1, .int v1), (2, .int v2)] [] (N, hm_sh L g, s) _ Q
        refine hm_st hR (hm_st hR (?_))
        show R 149 2 [(3, .int (v3 + 1)), (0, .ref 42), (1, .int v1), (2, .int v2)] [] (N, hm_sh L g, s) _ Q
        exact hm_lvS hR (by intro q hq; simp only [List.mem_cons, List.not_mem_nil, or_false] at hq ⊢; rcases hq with rfl | rfl | rfl | rfl <;> simp) (ih s v1 v2 (v3 + 1) (hm_dcx c7 hm) hq)
      · rw [if_pos c17] at hq
        show R 149 20 [(3, .int v3), (0, .ref 42), (1, .int v1), (2, .int v2)] [] (N, hm_sh L g, s) _ Q
        refine hm_st hR (hm_st hR ⟨rfl, hm_le rfl, (hm_ltN hN rfl), hm_st hR (?_)⟩)
        refine hm_st hR ⟨hm_le rfl, rfl, (hm_le rfl), (hm_ltN hN rfl), hm_le rfl, hm_le rfl, (0, 0), Nat.zero_le _, Nat.zero_le _, ?_⟩
        refine sp_178 hR hN (rr := 45) (aa := 46) (nn := 1025) rfl rfl (hm_le rfl) (hm_ltN hN rfl) rfl rfl (hm_le rfl) (hm_ltN hN rfl) (by decide) ?_
        show R 149 28 [(3, .int v3), (0, .ref 42), (1, .int v1), (2, .int v2)] [.int (T_178 s 46 1025 v3)] (N, hm_sh L g, s) _ Q
        exact hm_st hR ⟨fun z => absurd z (by decide), hq⟩
set_option maxRecDepth 20000 in
theorem sp_149 {R : hm_R} (hR : hm_Cm R) {N L : Nat} {g : Nat → hm_Sh} {s : hm_St} {b : hm_B} {Q : hm_Q} (hN : 68 ≤ N) {p1 : Int32} {p2 : Int32} (hq : Q (.inr (some (.int (T_149 s p1 p2)))) (N, hm_sh L g, s)) : R 149 0 (lv_args 0 [.ref 42, .int p1, .int p2]) [] (N, hm_sh L g, s) b Q := by
  unfold T_149 at hq
  show R 149 0 [(0, .ref 42), (1, .int p1), (2, .int p2)] [] (N, hm_sh L g, s) _ Q
  refine hm_st hR (hm_st hR (?_))
  show R 149 2 [(3, .int 0), (0, .ref 42), (1, .int p1), (2, .int p2)] [] (N, hm_sh L g, s) _ Q
  exact lp_149_2 hR hN _ _ _ _ _ (Nat.lt_succ_self _) hq
/-- CurvekeyHouse.machineFact(II)I -/
def T_57 (s : hm_St) (p1 : Int32) (p2 : Int32) : Int32 := (if p2 = 0 then (T_147 s p1 (s 2 9)) else (if p2 = 1 then (T_148 s p1 (s 2 9)) else (T_149 s p1 (s 2 9))))
set_option maxRecDepth 20000 in
theorem sp_57 {R : hm_R} (hR : hm_Cm R) {N L : Nat} {g : Nat → hm_Sh} {s : hm_St} {b : hm_B} {Q : hm_Q} (hN : 68 ≤ N) {p1 : Int32} {p2 : Int32} (hq : Q (.inr (some (.int (T_57 s p1 p2)))) (N, hm_sh L g, s)) : R 57 0 (lv_args 0 [.ref 2, .int p1, .int p2]) [] (N, hm_sh L g, s) b Q := by
  unfold T_57 at hq
  show R 57 0 [(0, .ref 2), (1, .int p1), (2, .int p2)] [] (N, hm_sh L g, s) _ Q
  refine hm_st hR (?_)
  show R 57 1 [(0, .ref 2), (1, .int p1), (2, .int p2)] [.int p2] (N, hm_sh L g, s) _ Q
  by_cases w1_0 : p2 = 0
  · rw [if_pos w1_0] at hq
    refine hm_lkS hR 28 (by rfl) (by rw [w1_0]; rfl) ?_
    show R 57 28 [(0, .ref 2), (1, .int p1), (2, .int p2)] [] (N, hm_sh L g, s) _ Q
    refine hm_st hR (hm_st hR ⟨rfl, hm_le rfl, (hm_ltN hN rfl), hm_st hR (hm_st hR (hm_st hR ⟨rfl, hm_le rfl, (hm_ltN hN rfl), ?_⟩))⟩)
    refine hm_st hR ⟨hm_le rfl, rfl, (hm_le rfl), (hm_ltN hN rfl), hm_le rfl, hm_le rfl, (0, 0), Nat.zero_le _, Nat.zero_le _, ?_⟩
    refine sp_147 hR hN ?_
    show R 57 40 [(0, .ref 2), (1, .int p1), (2, .int p2)] [.int (T_147 s p1 (s 2 9))] (N, hm_sh L g, s) _ Q
    exact hm_st hR ⟨fun z => absurd z (by decide), hq⟩
  rw [if_neg w1_0] at hq
  by_cases w1_1 : p2 = 1
  · rw [if_pos w1_1] at hq
    refine hm_lkS hR 41 (by rfl) (by rw [w1_1]; rfl) ?_
    show R 57 41 [(0, .ref 2), (1, .int p1), (2, .int p2)] [] (N, hm_sh L g, s) _ Q
    refine hm_st hR (hm_st hR ⟨rfl, hm_le rfl, (hm_ltN hN rfl), hm_st hR (hm_st hR (hm_st hR ⟨rfl, hm_le rfl, (hm_ltN hN rfl), ?_⟩))⟩)
    refine hm_st hR ⟨hm_le rfl, rfl, (hm_le rfl), (hm_ltN hN rfl), hm_le rfl, hm_le rfl, (0, 0), Nat.zero_le _, Nat.zero_le _, ?_⟩
    refine sp_148 hR hN ?_
    show R 57 53 [(0, .ref 2), (1, .int p1), (2, .int p2)] [.int (T_148 s p1 (s 2 9))] (N, hm_sh L g, s) _ Q
    exact hm_st hR ⟨fun z => absurd z (by decide), hq⟩
  rw [if_neg w1_1] at hq
  refine hm_lkS hR 54 (by rfl) (by exact hm_lkD2 w1_0 w1_1) ?_
  show R 57 54 [(0, .ref 2), (1, .int p1), (2, .int p2)] [] (N, hm_sh L g, s) _ Q
  refine hm_st hR (hm_st hR ⟨rfl, hm_le rfl, (hm_ltN hN rfl), hm_st hR (hm_st hR (hm_st hR ⟨rfl, hm_le rfl, (hm_ltN hN rfl), ?_⟩))⟩)
  refine hm_st hR ⟨hm_le rfl, rfl, (hm_le rfl), (hm_ltN hN rfl), hm_le rfl, hm_le rfl, (0, 0), Nat.zero_le _, Nat.zero_le _, ?_⟩
  refine sp_149 hR hN ?_
  show R 57 66 [(0, .ref 2), (1, .int p1), (2, .int p2)] [.int (T_149 s p1 (s 2 9))] (N, hm_sh L g, s) _ Q
  exact hm_st hR ⟨fun z => absurd z (by decide), hq⟩
def T_64_17 (O : hm_St → Int64 → Int64 → Int32 → Int64) : Nat → hm_St → Int64 → Int64 → Int32 → Int32 → Int64
  | 0, s, _, _, _, _ => 0
  | n + 1, s, v1, v3, v5, v6 => (if 3 ≤ v6 then (O s v1 v3 (v5 + 1)) else (T_64_17 O n s v1 (T_60 s v3 (((T_57 s v5 v6)).toInt64)) v5 (v6 + 1)))
def T_64_5 : Nat → hm_St → Int64 → Int64 → Int32 → Int64
  | 0, s, _, _, _ => 0
  | n + 1, s, v1, v3, v5 => (if (s 2 9) ≤ v5 then (T_60 s v3 (((T_23 s)).toInt64)) else (T_64_17 (fun s v1 v3 v5 => T_64_5 n s v1 v3 v5) (hm_df 3 0 + 1) s v1 v3 v5 0))
/-- CurvekeyHouse.mixMachines(J)J -/
def T_64 (s : hm_St) (p1 : Int64) : Int64 := (T_64_5 (hm_df (s 2 9) 0 + 1) s p1 p1 0)
set_option maxRecDepth 20000 in
theorem lp_64_17 {R : hm_R} (hR : hm_Cm R) {N L : Nat} {g : Nat → hm_Sh} {b : hm_B} {Q : hm_Q} (hN : 68 ≤ N) {O : hm_St → Int64 → Int64 → Int32 → Int64} {nO : Nat} (hO : ∀ (s : hm_St) (v1 : Int64) (v3 : Int64) (v5 : Int32), hm_df (s 2 9) v5 < nO → (Q (.inr (some (.long (O s v1 v3 v5)))) (N, hm_sh L g, s)) → R 64 5 [(5, .int v5), (3, .long v3), (0, .ref 2), (1, .long v1)] [] (N, hm_sh L g, s) b Q) : ∀ (n : Nat) (s : hm_St) (v1 : Int64) (v3 : Int64) (v5 : Int32) (v6 : Int32), hm_df 3 v6 < n → (hPO : hm_df (s 2 9) (v5 + 1) < nO) → (hq : Q (.inr (some (.long (T_64_17 O n s v1 v3 v5 v6)))) (N, hm_sh L g, s)) → R 64 17 [(6, .int v6), (5, .int v5), (3, .long v3), (0, .ref 2), (1, .long v1)] [] (N, hm_sh L g, s) b Q := by
  intro n
  induction n with
  | zero => intro s v1 v3 v5 v6 hm hPO _; exact absurd hm (Nat.not_lt_zero _)
  | succ n ih =>
    intro s v1 v3 v5 v6 hm hPO hq
    unfold T_64_17 at hq
    refine hm_st hR (hm_st hR (?_))
    show R 64 20 [(6, .int v6), (5, .int v5), (3, .long v3), (0, .ref 2), (1, .long v1)] [.int 3, .int v6] (N, hm_sh L g, s) _ Q
    refine hm_st hR ⟨fun c20 => ?_, fun c20 => ?_⟩
    · rw [if_pos c20] at hq
      show R 64 43 [(6, .int v6), (5, .int v5), (3, .long v3), (0, .ref 2), (1, .long v1)] [] (N, hm_sh L g, s) _ Q
      refine hm_st hR (hm_st hR (?_))
      show R 64 5 [(5, .int (v5 + 1)), (6, .int v6), (3, .long v3), (0, .ref 2), (1, .long v1)] [] (N, hm_sh L g, s) _ Q
      exact hm_lvS hR (by intro q hq; simp only [List.mem_cons, List.not_mem_nil, or_false] at hq ⊢; rcases hq with rfl | rfl | rfl | rfl <;> simp) (hO s v1 v3 (v5 + 1) hPO hq)
    · rw [if_neg c20] at hq
      show R 64 23 [(6, .int v6), (5, .int v5), (3, .long v3), (0, .ref 2), (1, .long v1)] [] (N, hm_sh L g, s) _ Q
      refine hm_st hR (hm_st hR (hm_st hR (hm_st hR (?_))))
      refine hm_st hR ⟨hm_le rfl, rfl, (hm_le rfl), (hm_ltN hN rfl), hm_le rfl, hm_le rfl, (0, 0), Nat.zero_le _, Nat.zero_le _, ?_⟩
      refine sp_57 hR hN ?_
      show R 64 32 [(6, .int v6), (5, .int v5), (3, .long v3), (0, .ref 2), (1, .long v1)] [.int (T_57 s v5 v6), .long v3] (N, hm_sh L g, s) _ Q
      refine hm_st hR (?_)
      refine hm_st hR ⟨hm_le rfl, hm_le rfl, hm_le rfl, (0, 0), Nat.zero_le _, Nat.zero_le _, ?_⟩
      refine sp_60 hR hN ?_
      show R 64 36 [(6, .int v6), (5, .int v5), (3, .long v3), (0, .ref 2), (1, .long v1)] [.long (T_60 s v3 (((T_57 s v5 v6)).toInt64))] (N, hm_sh L g, s) _ Q
      refine hm_st hR (hm_st hR (hm_st hR (?_)))
      show R 64 17 [(6, .int (v6 + 1)), (3, .long (T_60 s v3 (((T_57 s v5 v6)).toInt64))), (5, .int v5), (0, .ref 2), (1, .long v1)] [] (N, hm_sh L g, s) _ Q
      exact hm_lvS hR (by intro q hq; simp only [List.mem_cons, List.not_mem_nil, or_false] at hq ⊢; rcases hq with rfl | rfl | rfl | rfl | rfl <;> simp) (ih s v1 (T_60 s v3 (((T_57 s v5 v6)).toInt64)) v5 (v6 + 1) (hm_dcx c20 hm) hPO hq)
set_option maxRecDepth 20000 in
theorem lp_64_5 {R : hm_R} (hR : hm_Cm R) {N L : Nat} {g : Nat → hm_Sh} {b : hm_B} {Q : hm_Q} (hN : 68 ≤ N) : ∀ (n : Nat) (s : hm_St) (v1 : Int64) (v3 : Int64) (v5 : Int32), hm_df (s 2 9) v5 < n → (hq : Q (.inr (some (.long (T_64_5 n s v1 v3 v5)))) (N, hm_sh L g, s)) → R 64 5 [(5, .int v5), (3, .long v3), (0, .ref 2), (1, .long v1)] [] (N, hm_sh L g, s) b Q := by
  intro n
  induction n with
  | zero => intro s v1 v3 v5 hm _; exact absurd hm (Nat.not_lt_zero _)
  | succ n ih =>
    intro s v1 v3 v5 hm hq
    unfold T_64_5 at hq
    refine hm_st hR (hm_st hR (hm_st hR ⟨rfl, hm_le rfl, (hm_ltN hN rfl), ?_⟩))
    show R 64 11 [(5, .int v5), (3, .long v3), (0, .ref 2), (1, .long v1)] [.int (s 2 9), .int v5] (N, hm_sh L g, s) _ Q
    refine hm_st hR ⟨fun c11 => ?_, fun c11 => ?_⟩
    · rw [if_pos c11] at hq
      show R 64 49 [(5, .int v5), (3, .long v3), (0, .ref 2), (1, .long v1)] [] (N, hm_sh L g, s) _ Q
      refine hm_st hR (hm_st hR (?_))
      refine hm_st hR ⟨hm_le rfl, rfl, (hm_le rfl), (hm_ltN hN rfl), hm_le rfl, hm_le rfl, (0, 0), Nat.zero_le _, Nat.zero_le _, ?_⟩
      refine sp_23 hR hN ?_
      show R 64 54 [(5, .int v5), (3, .long v3), (0, .ref 2), (1, .long v1)] [.int (T_23 s), .long v3] (N, hm_sh L g, s) _ Q
      refine hm_st hR (?_)
      refine hm_st hR ⟨hm_le rfl, hm_le rfl, hm_le rfl, (0, 0), Nat.zero_le _, Nat.zero_le _, ?_⟩
      refine sp_60 hR hN ?_
      show R 64 58 [(5, .int v5), (3, .long v3), (0, .ref 2), (1, .long v1)] [.long (T_60 s v3 (((T_23 s)).toInt64))] (N, hm_sh L g, s) _ Q
      exact hm_st hR hq
    · rw [if_neg c11] at hq
      show R 64 14 [(5, .int v5), (3, .long v3), (0, .ref 2), (1, .long v1)] [] (N, hm_sh L g, s) _ Q
      refine hm_st hR (hm_st hR (?_))
      show R 64 17 [(6, .int 0), (5, .int v5), (3, .long v3), (0, .ref 2), (1, .long v1)] [] (N, hm_sh L g, s) _ Q
      exact lp_64_17 hR hN (O := (fun s v1 v3 v5 => T_64_5 n s v1 v3 v5)) (nO := n) (fun s v1 v3 v5 hm hq => ih s v1 v3 v5 hm hq) _ _ _ _ _ _ (Nat.lt_succ_self _) (hm_dcx c11 hm) hq
set_option maxRecDepth 20000 in
theorem sp_64 {R : hm_R} (hR : hm_Cm R) {N L : Nat} {g : Nat → hm_Sh} {s : hm_St} {b : hm_B} {Q : hm_Q} (hN : 68 ≤ N) {p1 : Int64} (hq : Q (.inr (some (.long (T_64 s p1)))) (N, hm_sh L g, s)) : R 64 0 (lv_args 0 [.ref 2, .long p1]) [] (N, hm_sh L g, s) b Q := by
  unfold T_64 at hq
  show R 64 0 [(0, .ref 2), (1, .long p1)] [] (N, hm_sh L g, s) _ Q
  refine hm_st hR (hm_st hR (hm_st hR (hm_st hR (?_))))
  show R 64 5 [(5, .int 0), (3, .long p1), (0, .ref 2), (1, .long p1)] [] (N, hm_sh L g, s) _ Q
  exact lp_64_5 hR hN _ _ _ _ _ (Nat.lt_succ_self _) hq
/-- CurvekeyHouse.holderAt(II)I -/
def T_41 (s : hm_St) (p1 : Int32) (p2 : Int32) : Int32 := (T_140 s (T_39 s p1 p2))
set_option maxRecDepth 20000 in
theorem sp_41 {R : hm_R} (hR : hm_Cm R) {N L : Nat} {g : Nat → hm_Sh} {s : hm_St} {b : hm_B} {Q : hm_Q} (hN : 68 ≤ N) {p1 : Int32} {p2 : Int32} (hq : Q (.inr (some (.int (T_41 s p1 p2)))) (N, hm_sh L g, s)) : R 41 0 (lv_args 0 [.ref 2, .int p1, .int p2]) [] (N, hm_sh L g, s) b Q := by
  unfold T_41 at hq
  show R 41 0 [(0, .ref 2), (1, .int p1), (2, .int p2)] [] (N, hm_sh L g, s) _ Q
  refine hm_st hR (hm_st hR ⟨rfl, hm_le rfl, (hm_ltN hN rfl), hm_st hR (hm_st hR (hm_st hR (?_)))⟩)
  refine hm_st hR ⟨hm_le rfl, rfl, (hm_le rfl), (hm_ltN hN rfl), hm_le rfl, hm_le rfl, (0, 0), Nat.zero_le _, Nat.zero_le _, ?_⟩
  refine sp_39 hR hN ?_
  show R 41 10 [(0, .ref 2), (1, .int p1), (2, .int p2)] [.int (T_39 s p1 p2), .ref 42] (N, hm_sh L g, s) _ Q
  refine hm_st hR ⟨hm_le rfl, rfl, (hm_le rfl), (hm_ltN hN rfl), hm_le rfl, hm_le rfl, (0, 0), Nat.zero_le _, Nat.zero_le _, ?_⟩
  refine sp_140 hR hN ?_
  show R 41 13 [(0, .ref 2), (1, .int p1), (2, .int p2)] [.int (T_140 s (T_39 s p1 p2))] (N, hm_sh L g, s) _ Q
  exact hm_st hR ⟨fun z => absurd z (by decide), hq⟩
