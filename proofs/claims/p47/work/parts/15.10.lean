/-! The methods as functions; the abstract machine does them. -/
/-- CurvekeyHouse.isDriven(I)Z -/
def T_47 (s : hm_St) (p1 : Int32) : (Int32 × hm_St) := (if (T_41 s (T_169 s p1 1 (T_86 s)) (T_170 s p1 1 (T_86 s))) = (-1) then (1, (T_44 s p1 (T_169 s p1 1 (T_86 s)) (T_170 s p1 1 (T_86 s)))) else (if (T_41 s (T_169 s p1 1 (T_86 s)) (T_170 s p1 1 (T_86 s))) = p1 then (0, s) else (0, (hm_w1 s 2 12 ((s 2 12) + 1)))))
theorem N_47 {c j : Nat} (h2 : c ≠ 2) (h16 : c ≠ 16) (h18 : c ≠ 18) (h25 : c ≠ 25) (h27 : c ≠ 27) (h29 : c ≠ 29) (h31 : c ≠ 31) (h33 : c ≠ 33) (h35 : c ≠ 35) (h37 : c ≠ 37) (h42 : c ≠ 42) (h44 : c ≠ 44) (h46 : c ≠ 46) (h49 : c ≠ 49) (h58 : c ≠ 58) {s : hm_St} {p1 : Int32} : (T_47 s p1).2 c j = s c j := by
  unfold T_47
  repeat' split
  all_goals first | with_reducible rfl | simp only [hm_w1n h2, hm_w1n h16, hm_w1n h18, hm_w1n h25, hm_w1n h27, hm_w1n h29, hm_w1n h31, hm_w1n h33, hm_w1n h35, hm_w1n h37, hm_w1n h42, hm_w1n h44, hm_w1n h46, hm_w1n h49, hm_w1n h58, N_44 h16 h18 h25 h27 h29 h31 h33 h35 h37 h42 h44 h46 h49 h58]
set_option maxRecDepth 20000 in
theorem sp_47 {R : hm_R} (hR : hm_Cm R) {N L : Nat} {g : Nat → hm_Sh} {s : hm_St} {b : hm_B} {Q : hm_Q} (hN : 68 ≤ N) {p1 : Int32} (hO : s 47 1 < 100000) (hq : Q (.inr (some (.int (T_47 s p1).1))) (N, hm_sh L g, (T_47 s p1).2)) : R 47 0 (lv_args 0 [.ref 2, .int p1]) [] (N, hm_sh L g, s) b Q := by
  unfold T_47 at hq
  show R 47 0 [(0, .ref 2), (1, .int p1)] [] (N, hm_sh L g, s) _ Q
  refine hm_st hR (hm_st hR ⟨rfl, hm_le rfl, (hm_ltN hN rfl), hm_st hR (hm_st hR (hm_st hR (hm_st hR ⟨rfl, hm_le rfl, (hm_ltN hN rfl), ?_⟩)))⟩)
  refine hm_st hR ⟨hm_le rfl, rfl, (hm_le rfl), (hm_ltN hN rfl), hm_le rfl, hm_le rfl, (0, 0), Nat.zero_le _, Nat.zero_le _, ?_⟩
  refine sp_86 hR hN ?_
  show R 47 13 [(0, .ref 2), (1, .int p1)] [.int (T_86 s), .int 1, .int p1, .ref 14] (N, hm_sh L g, s) _ Q
  refine hm_st hR ⟨hm_le rfl, rfl, (hm_le rfl), (hm_ltN hN rfl), hm_le rfl, hm_le rfl, (0, 0), Nat.zero_le _, Nat.zero_le _, ?_⟩
  refine sp_169 hR hN ?_
  show R 47 16 [(0, .ref 2), (1, .int p1)] [.int (T_169 s p1 1 (T_86 s))] (N, hm_sh L g, s) _ Q
  refine hm_st hR (hm_st hR (hm_st hR ⟨rfl, hm_le rfl, (hm_ltN hN rfl), hm_st hR (hm_st hR (hm_st hR (hm_st hR ⟨rfl, hm_le rfl, (hm_ltN hN rfl), ?_⟩)))⟩))
  refine hm_st hR ⟨hm_le rfl, rfl, (hm_le rfl), (hm_ltN hN rfl), hm_le rfl, hm_le rfl, (0, 0), Nat.zero_le _, Nat.zero_le _, ?_⟩
  refine sp_86 hR hN ?_
  show R 47 30 [(2, .int (T_169 s p1 1 (T_86 s))), (0, .ref 2), (1, .int p1)] [.int (T_86 s), .int 1, .int p1, .ref 14] (N, hm_sh L g, s) _ Q
  refine hm_st hR ⟨hm_le rfl, rfl, (hm_le rfl), (hm_ltN hN rfl), hm_le rfl, hm_le rfl, (0, 0), Nat.zero_le _, Nat.zero_le _, ?_⟩
  refine sp_170 hR hN ?_
  show R 47 33 [(2, .int (T_169 s p1 1 (T_86 s))), (0, .ref 2), (1, .int p1)] [.int (T_170 s p1 1 (T_86 s))] (N, hm_sh L g, s) _ Q
  refine hm_st hR (hm_st hR (hm_st hR (hm_st hR (?_))))
  refine hm_st hR ⟨hm_le rfl, rfl, (hm_le rfl), (hm_ltN hN rfl), hm_le rfl, hm_le rfl, (0, 0), Nat.zero_le _, Nat.zero_le _, ?_⟩
  refine sp_41 hR hN ?_
  show R 47 40 [(3, .int (T_170 s p1 1 (T_86 s))), (2, .int (T_169 s p1 1 (T_86 s))), (0, .ref 2), (1, .int p1)] [.int (T_41 s (T_169 s p1 1 (T_86 s)) (T_170 s p1 1 (T_86 s)))] (N, hm_sh L g, s) _ Q
  refine hm_st hR (hm_st hR (hm_st hR (?_)))
  show R 47 45 [(4, .int (T_41 s (T_169 s p1 1 (T_86 s)) (T_170 s p1 1 (T_86 s)))), (3, .int (T_170 s p1 1 (T_86 s))), (2, .int (T_169 s p1 1 (T_86 s))), (0, .ref 2), (1, .int p1)] [.int (-1), .int (T_41 s (T_169 s p1 1 (T_86 s)) (T_170 s p1 1 (T_86 s)))] (N, hm_sh L g, s) _ Q
  refine hm_st hR ⟨fun c45 => ?_, fun c45 => ?_⟩
  · rw [if_neg c45] at hq
    show R 47 57 [(4, .int (T_41 s (T_169 s p1 1 (T_86 s)) (T_170 s p1 1 (T_86 s)))), (3, .int (T_170 s p1 1 (T_86 s))), (2, .int (T_169 s p1 1 (T_86 s))), (0, .ref 2), (1, .int p1)] [] (N, hm_sh L g, s) _ Q
    refine hm_st hR (hm_st hR (?_))
    show R 47 60 [(4, .int (T_41 s (T_169 s p1 1 (T_86 s)) (T_170 s p1 1 (T_86 s)))), (3, .int (T_170 s p1 1 (T_86 s))), (2, .int (T_169 s p1 1 (T_86 s))), (0, .ref 2), (1, .int p1)] [.int p1, .int (T_41 s (T_169 s p1 1 (T_86 s)) (T_170 s p1 1 (T_86 s)))] (N, hm_sh L g, s) _ Q
    refine hm_st hR ⟨fun c60 => ?_, fun c60 => ?_⟩
    · rw [if_pos c60] at hq
      show R 47 73 [(4, .int (T_41 s (T_169 s p1 1 (T_86 s)) (T_170 s p1 1 (T_86 s)))), (3, .int (T_170 s p1 1 (T_86 s))), (2, .int (T_169 s p1 1 (T_86 s))), (0, .ref 2), (1, .int p1)] [] (N, hm_sh L g, s) _ Q
      refine hm_st hR (?_)
      exact hm_st hR ⟨fun _ => Or.inl rfl, hm_pqi hq⟩
    · rw [if_neg c60] at hq
      show R 47 63 [(4, .int (T_41 s (T_169 s p1 1 (T_86 s)) (T_170 s p1 1 (T_86 s)))), (3, .int (T_170 s p1 1 (T_86 s))), (2, .int (T_169 s p1 1 (T_86 s))), (0, .ref 2), (1, .int p1)] [] (N, hm_sh L g, s) _ Q
      refine hm_st hR (hm_st hR ⟨rfl, hm_st hR ⟨rfl, hm_le rfl, (hm_ltN hN rfl), hm_st hR (hm_st hR (hm_st hR ⟨rfl, rfl, hm_le rfl, (hm_ltN hN rfl), ?_⟩))⟩⟩)
      show R 47 73 [(4, .int (T_41 s (T_169 s p1 1 (T_86 s)) (T_170 s p1 1 (T_86 s)))), (3, .int (T_170 s p1 1 (T_86 s))), (2, .int (T_169 s p1 1 (T_86 s))), (0, .ref 2), (1, .int p1)] [] (N, hm_sh L g, (hm_w1 s 2 12 ((s 2 12) + 1))) _ Q
      refine hm_st hR (?_)
      exact hm_st hR ⟨fun _ => Or.inl rfl, hm_pqi hq⟩
  · rw [if_pos c45] at hq
    show R 47 48 [(4, .int (T_41 s (T_169 s p1 1 (T_86 s)) (T_170 s p1 1 (T_86 s)))), (3, .int (T_170 s p1 1 (T_86 s))), (2, .int (T_169 s p1 1 (T_86 s))), (0, .ref 2), (1, .int p1)] [] (N, hm_sh L g, s) _ Q
    refine hm_st hR (hm_st hR (hm_st hR (hm_st hR (?_))))
    refine hm_st hR ⟨hm_le rfl, rfl, (hm_le rfl), (hm_ltN hN rfl), hm_le rfl, hm_le rfl, (0, 0), Nat.zero_le _, Nat.zero_le _, ?_⟩
    refine sp_44 hR hN hO ?_
    show R 47 55 [(4, .int (T_41 s (T_169 s p1 1 (T_86 s)) (T_170 s p1 1 (T_86 s)))), (3, .int (T_170 s p1 1 (T_86 s))), (2, .int (T_169 s p1 1 (T_86 s))), (0, .ref 2), (1, .int p1)] [] (N, hm_sh L g, (T_44 s p1 (T_169 s p1 1 (T_86 s)) (T_170 s p1 1 (T_86 s)))) _ Q
    refine hm_st hR (?_)
    exact hm_st hR ⟨fun _ => Or.inr rfl, hm_pqi hq⟩
def T_18_43 (O : hm_St → Int32 → Int32 → Int32 → hm_Er Int32) (N : Nat) (g : Nat → hm_Sh) : Nat → hm_St → Int32 → Int32 → Int32 → Int32 → hm_Er Int32
  | 0, s, _, _, _, _ => (0, 0, N, g, s)
  | n + 1, s, v1, v2, v3, v4 => (if (T_157 s) ≤ v4 then (O s v1 v2 (v3 + 1)) else (if (T_160 s v4) = 0 then (T_18_43 O N g n s v1 v2 v3 (v4 + 1)) else (if (T_47 s v4).1 = 0 then (T_18_43 O N g n ((T_47 s v4).2) v1 v2 v3 (v4 + 1)) else (T_18_43 O N g n ((T_47 s v4).2) v1 (v2 + 1) v3 (v4 + 1)))))
def T_18_35 (N : Nat) (g : Nat → hm_Sh) : Nat → hm_St → Int32 → Int32 → Int32 → hm_Er Int32
  | 0, s, _, _, _ => (0, 0, N, g, s)
  | n + 1, s, v1, v2, v3 => (if v1 ≤ v3 then (0, v2, N, g, s) else (T_18_43 (fun s v1 v2 v3 => T_18_35 N g n s v1 v2 v3) N g (hm_df (T_157 s) 0 + 1) s v1 v2 v3 0))
/-- CurvekeyHouse.tick(I)I -/
def T_18 (N : Nat) (g : Nat → hm_Sh) (s : hm_St) (p1 : Int32) : hm_Er Int32 := (if ((T_34 s p1 1 9) : Int32) = 0 then (1, 0, N, g, s) else (if ((if 400 < (T_112 s) then (0 : Int32) else 1) : Int32) = 0 then (2, 0, N, g, s) else (T_18_35 N g (hm_df p1 0 + 1) s p1 0 0)))
theorem N_18_43 (O : hm_St → Int32 → Int32 → Int32 → hm_Er Int32) (N : Nat) (g : Nat → hm_Sh) {c j : Nat} (hOO : ∀ (s : hm_St) (o0 o1 o2 : Int32), (O s o0 o1 o2).2.2.2.2 c j = s c j) (h2 : c ≠ 2) (h16 : c ≠ 16) (h18 : c ≠ 18) (h25 : c ≠ 25) (h27 : c ≠ 27) (h29 : c ≠ 29) (h31 : c ≠ 31) (h33 : c ≠ 33) (h35 : c ≠ 35) (h37 : c ≠ 37) (h42 : c ≠ 42) (h44 : c ≠ 44) (h46 : c ≠ 46) (h49 : c ≠ 49) (h58 : c ≠ 58) : ∀ (n : Nat) (s : hm_St) (v0 v1 v2 v3 : Int32), (T_18_43 O N g n s v0 v1 v2 v3).2.2.2.2 c j = s c j := by
  intro n
  induction n with
  | zero => intros; rfl
  | succ n ih =>
    intros
    unfold T_18_43
    repeat' split
    all_goals first | with_reducible rfl | simp only [ih, hOO, hm_w1n h2, hm_w1n h16, hm_w1n h18, hm_w1n h25, hm_w1n h27, hm_w1n h29, hm_w1n h31, hm_w1n h33, hm_w1n h35, hm_w1n h37, hm_w1n h42, hm_w1n h44, hm_w1n h46, hm_w1n h49, hm_w1n h58, N_47 h2 h16 h18 h25 h27 h29 h31 h33 h35 h37 h42 h44 h46 h49 h58]
theorem N_18_35 (N : Nat) (g : Nat → hm_Sh) {c j : Nat} (h2 : c ≠ 2) (h16 : c ≠ 16) (h18 : c ≠ 18) (h25 : c ≠ 25) (h27 : c ≠ 27) (h29 : c ≠ 29) (h31 : c ≠ 31) (h33 : c ≠ 33) (h35 : c ≠ 35) (h37 : c ≠ 37) (h42 : c ≠ 42) (h44 : c ≠ 44) (h46 : c ≠ 46) (h49 : c ≠ 49) (h58 : c ≠ 58) : ∀ (n : Nat) (s : hm_St) (v0 v1 v2 : Int32), (T_18_35 N g n s v0 v1 v2).2.2.2.2 c j = s c j := by
  intro n
  induction n with
  | zero => intros; rfl
  | succ n ih =>
    intros
    unfold T_18_35
    repeat' split
    all_goals first | with_reducible rfl | simp only [ih, hm_w1n h2, hm_w1n h16, hm_w1n h18, hm_w1n h25, hm_w1n h27, hm_w1n h29, hm_w1n h31, hm_w1n h33, hm_w1n h35, hm_w1n h37, hm_w1n h42, hm_w1n h44, hm_w1n h46, hm_w1n h49, hm_w1n h58, N_47 h2 h16 h18 h25 h27 h29 h31 h33 h35 h37 h42 h44 h46 h49 h58, N_18_43 _ _ _ (fun s o0 o1 o2 => ih s o0 o1 o2) h2 h16 h18 h25 h27 h29 h31 h33 h35 h37 h42 h44 h46 h49 h58]
theorem N_18 {c j : Nat} (h2 : c ≠ 2) (h16 : c ≠ 16) (h18 : c ≠ 18) (h25 : c ≠ 25) (h27 : c ≠ 27) (h29 : c ≠ 29) (h31 : c ≠ 31) (h33 : c ≠ 33) (h35 : c ≠ 35) (h37 : c ≠ 37) (h42 : c ≠ 42) (h44 : c ≠ 44) (h46 : c ≠ 46) (h49 : c ≠ 49) (h58 : c ≠ 58) {N : Nat} {g : Nat → hm_Sh} {s : hm_St} {p1 : Int32} : (T_18 N g s p1).2.2.2.2 c j = s c j := by
  unfold T_18
  repeat' split
  all_goals first | with_reducible rfl | simp only [hm_w1n h2, hm_w1n h16, hm_w1n h18, hm_w1n h25, hm_w1n h27, hm_w1n h29, hm_w1n h31, hm_w1n h33, hm_w1n h35, hm_w1n h37, hm_w1n h42, hm_w1n h44, hm_w1n h46, hm_w1n h49, hm_w1n h58, N_47 h2 h16 h18 h25 h27 h29 h31 h33 h35 h37 h42 h44 h46 h49 h58, N_18_35 _ _ h2 h16 h18 h25 h27 h29 h31 h33 h35 h37 h42 h44 h46 h49 h58]
set_option maxRecDepth 20000 in
theorem lp_18_43 {R : hm_R} (hR : hm_Cm R) {N L : Nat} {g : Nat → hm_Sh} {b : hm_B} {Q : hm_Q} (hN : 68 ≤ N) {O : hm_St → Int32 → Int32 → Int32 → hm_Er Int32} {nO : Nat} (hO : ∀ (s : hm_St) (v1 : Int32) (v2 : Int32) (v3 : Int32), hm_df v1 v3 < nO → (s 47 1 < 100000) → (hm_qx Q L (fun v => some (.int v)) (O s v1 v2 v3)) → R 18 35 [(3, .int v3), (2, .int v2), (0, .ref 2), (1, .int v1)] [] (N, hm_sh L g, s) b Q) : ∀ (n : Nat) (s : hm_St) (v1 : Int32) (v2 : Int32) (v3 : Int32) (v4 : Int32), hm_df (T_157 s) v4 < n → (hPO : hm_df v1 (v3 + 1) < nO) → (hinv : s 47 1 < 100000) → (hq : hm_qx Q L (fun v => some (.int v)) (T_18_43 O N g n s v1 v2 v3 v4)) → R 18 43 [(4, .int v4), (3, .int v3), (2, .int v2), (0, .ref 2), (1, .int v1)] [] (N, hm_sh L g, s) b Q := by
  intro n
  induction n with
  | zero => intro s v1 v2 v3 v4 hm hPO hinv _; exact absurd hm (Nat.not_lt_zero _)
  | succ n ih =>
    intro s v1 v2 v3 v4 hm hPO hinv hq
    unfold T_18_43 at hq
    refine hm_st hR (hm_st hR (hm_st hR ⟨rfl, hm_le rfl, (hm_ltN hN rfl), ?_⟩))
    refine hm_st hR ⟨hm_le rfl, rfl, (hm_le rfl), (hm_ltN hN rfl), hm_le rfl, hm_le rfl, (0, 0), Nat.zero_le _, Nat.zero_le _, ?_⟩
    refine sp_157 hR hN ?_
    show R 18 52 [(4, .int v4), (3, .int v3), (2, .int v2), (0, .ref 2), (1, .int v1)] [.int (T_157 s), .int v4] (N, hm_sh L g, s) _ Q
    show R 18 52 [(4, .int v4), (3, .int v3), (2, .int v2), (0, .ref 2), (1, .int v1)] [.int (T_157 s), .int v4] (N, hm_sh L g, s) _ Q
    refine hm_st hR ⟨fun c52 => ?_, fun c52 => ?_⟩
    · rw [if_pos c52] at hq
      show R 18 85 [(4, .int v4), (3, .int v3), (2, .int v2), (0, .ref 2), (1, .int v1)] [] (N, hm_sh L g, s) _ Q
      refine hm_st hR (hm_st hR (?_))
      show R 18 35 [(3, .int (v3 + 1)), (4, .int v4), (2, .int v2), (0, .ref 2), (1, .int v1)] [] (N, hm_sh L g, s) _ Q
      exact hm_lvS hR (by intro q hq; simp only [List.mem_cons, List.not_mem_nil, or_false] at hq ⊢; rcases hq with rfl | rfl | rfl | rfl <;> simp) (hO s v1 v2 (v3 + 1) hPO hinv hq)
    · rw [if_neg c52] at hq
      show R 18 55 [(4, .int v4), (3, .int v3), (2, .int v2), (0, .ref 2), (1, .int v1)] [] (N, hm_sh L g, s) _ Q
      refine hm_st hR (hm_st hR ⟨rfl, hm_le rfl, (hm_ltN hN rfl), hm_st hR (?_)⟩)
      refine hm_st hR ⟨hm_le rfl, rfl, (hm_le rfl), (hm_ltN hN rfl), hm_le rfl, hm_le rfl, (0, 0), Nat.zero_le _, Nat.zero_le _, ?_⟩
      refine sp_160 hR hN ?_
      show R 18 64 [(4, .int v4), (3, .int v3), (2, .int v2), (0, .ref 2), (1, .int v1)] [.int (T_160 s v4)] (N, hm_sh L g, s) _ Q
      show R 18 64 [(4, .int v4), (3, .int v3), (2, .int v2), (0, .ref 2), (1, .int v1)] [.int (T_160 s v4)] (N, hm_sh L g, s) _ Q
      refine hm_st hR ⟨fun c64 => ?_, fun c64 => ?_⟩
      · rw [if_pos c64] at hq
        show R 18 79 [(4, .int v4), (3, .int v3), (2, .int v2), (0, .ref 2), (1, .int v1)] [] (N, hm_sh L g, s) _ Q
        refine hm_st hR (hm_st hR (?_))
        show R 18 43 [(4, .int (v4 + 1)), (3, .int v3), (2, .int v2), (0, .ref 2), (1, .int v1)] [] (N, hm_sh L g, s) _ Q
        exact hm_lvS hR (by intro q hq; simp only [List.mem_cons, List.not_mem_nil, or_false] at hq ⊢; rcases hq with rfl | rfl | rfl | rfl | rfl <;> simp) (ih s v1 v2 v3 (v4 + 1) (by first | with_reducible exact hm_dcx c52 hm | exact hm_dcE (by simp only [T_157, N_47 (show (14 : Nat) ≠ 2 by decide) (show (14 : Nat) ≠ 16 by decide) (show (14 : Nat) ≠ 18 by decide) (show (14 : Nat) ≠ 25 by decide) (show (14 : Nat) ≠ 27 by decide) (show (14 : Nat) ≠ 29 by decide) (show (14 : Nat) ≠ 31 by decide) (show (14 : Nat) ≠ 33 by decide) (show (14 : Nat) ≠ 35 by decide) (show (14 : Nat) ≠ 37 by decide) (show (14 : Nat) ≠ 42 by decide) (show (14 : Nat) ≠ 44 by decide) (show (14 : Nat) ≠ 46 by decide) (show (14 : Nat) ≠ 49 by decide) (show (14 : Nat) ≠ 58 by decide)]) (hm_dcx c52 hm)) hPO (by first | with_reducible exact hinv | (simp only [N_47 (show (47 : Nat) ≠ 2 by decide) (show (47 : Nat) ≠ 16 by decide) (show (47 : Nat) ≠ 18 by decide) (show (47 : Nat) ≠ 25 by decide) (show (47 : Nat) ≠ 27 by decide) (show (47 : Nat) ≠ 29 by decide) (show (47 : Nat) ≠ 31 by decide) (show (47 : Nat) ≠ 33 by decide) (show (47 : Nat) ≠ 35 by decide) (show (47 : Nat) ≠ 37 by decide) (show (47 : Nat) ≠ 42 by decide) (show (47 : Nat) ≠ 44 by decide) (show (47 : Nat) ≠ 46 by decide) (show (47 : Nat) ≠ 49 by decide) (show (47 : Nat) ≠ 58 by decide)]; exact hinv)) hq)
      · rw [if_neg c64] at hq
        show R 18 67 [(4, .int v4), (3, .int v3), (2, .int v2), (0, .ref 2), (1, .int v1)] [] (N, hm_sh L g, s) _ Q
        refine hm_st hR (hm_st hR (?_))
        refine hm_st hR ⟨hm_le rfl, rfl, (hm_le rfl), (hm_ltN hN rfl), hm_le rfl, hm_le rfl, (0, 0), Nat.zero_le _, Nat.zero_le _, ?_⟩
        refine sp_47 hR hN hinv ?_
        show R 18 73 [(4, .int v4), (3, .int v3), (2, .int v2), (0, .ref 2), (1, .int v1)] [.int (T_47 s v4).1] (N, hm_sh L g, (T_47 s v4).2) _ Q
        show R 18 73 [(4, .int v4), (3, .int v3), (2, .int v2), (0, .ref 2), (1, .int v1)] [.int (T_47 s v4).1] (N, hm_sh L g, (T_47 s v4).2) _ Q
        refine hm_st hR ⟨fun c73 => ?_, fun c73 => ?_⟩
        · rw [if_pos c73] at hq
          show R 18 79 [(4, .int v4), (3, .int v3), (2, .int v2), (0, .ref 2), (1, .int v1)] [] (N, hm_sh L g, (T_47 s v4).2) _ Q
          refine hm_st hR (hm_st hR (?_))
          show R 18 43 [(4, .int (v4 + 1)), (3, .int v3), (2, .int v2), (0, .ref 2), (1, .int v1)] [] (N, hm_sh L g, (T_47 s v4).2) _ Q
          exact hm_lvS hR (by intro q hq; simp only [List.mem_cons, List.not_mem_nil, or_false] at hq ⊢; rcases hq with rfl | rfl | rfl | rfl | rfl <;> simp) (ih ((T_47 s v4).2) v1 v2 v3 (v4 + 1) (by first | with_reducible exact hm_dcx c52 hm | exact hm_dcE (by simp only [T_157, N_47 (show (14 : Nat) ≠ 2 by decide) (show (14 : Nat) ≠ 16 by decide) (show (14 : Nat) ≠ 18 by decide) (show (14 : Nat) ≠ 25 by decide) (show (14 : Nat) ≠ 27 by decide) (show (14 : Nat) ≠ 29 by decide) (show (14 : Nat) ≠ 31 by decide) (show (14 : Nat) ≠ 33 by decide) (show (14 : Nat) ≠ 35 by decide) (show (14 : Nat) ≠ 37 by decide) (show (14 : Nat) ≠ 42 by decide) (show (14 : Nat) ≠ 44 by decide) (show (14 : Nat) ≠ 46 by decide) (show (14 : Nat) ≠ 49 by decide) (show (14 : Nat) ≠ 58 by decide)]) (hm_dcx c52 hm)) hPO (by first | with_reducible exact hinv | (simp only [N_47 (show (47 : Nat) ≠ 2 by decide) (show (47 : Nat) ≠ 16 by decide) (show (47 : Nat) ≠ 18 by decide) (show (47 : Nat) ≠ 25 by decide) (show (47 : Nat) ≠ 27 by decide) (show (47 : Nat) ≠ 29 by decide) (show (47 : Nat) ≠ 31 by decide) (show (47 : Nat) ≠ 33 by decide) (show (47 : Nat) ≠ 35 by decide) (show (47 : Nat) ≠ 37 by decide) (show (47 : Nat) ≠ 42 by decide) (show (47 : Nat) ≠ 44 by decide) (show (47 : Nat) ≠ 46 by decide) (show (47 : Nat) ≠ 49 by decide) (show (47 : Nat) ≠ 58 by decide)]; exact hinv)) hq)
        · rw [if_neg c73] at hq
          show R 18 76 [(4, .int v4), (3, .int v3), (2, .int v2), (0, .ref 2), (1, .int v1)] [] (N, hm_sh L g, (T_47 s v4).2) _ Q
          refine hm_st hR (hm_st hR (hm_st hR (?_)))
          show R 18 43 [(4, .int (v4 + 1)), (2, .int (v2 + 1)), (3, .int v3), (0, .ref 2), (1, .int v1)] [] (N, hm_sh L g, (T_47 s v4).2) _ Q
          exact hm_lvS hR (by intro q hq; simp only [List.mem_cons, List.not_mem_nil, or_false] at hq ⊢; rcases hq with rfl | rfl | rfl | rfl | rfl <;> simp) (ih ((T_47 s v4).2) v1 (v2 + 1) v3 (v4 + 1) (by first | with_reducible exact hm_dcx c52 hm | exact hm_dcE (by simp only [T_157, N_47 (show (14 : Nat) ≠ 2 by decide) (show (14 : Nat) ≠ 16 by decide) (show (14 : Nat) ≠ 18 by decide) (show (14 : Nat) ≠ 25 by decide) (show (14 : Nat) ≠ 27 by decide) (show (14 : Nat) ≠ 29 by decide) (show (14 : Nat) ≠ 31 by decide) (show (14 : Nat) ≠ 33 by decide) (show (14 : Nat) ≠ 35 by decide) (show (14 : Nat) ≠ 37 by decide) (show (14 : Nat) ≠ 42 by decide) (show (14 : Nat) ≠ 44 by decide) (show (14 : Nat) ≠ 46 by decide) (show (14 : Nat) ≠ 49 by decide) (show (14 : Nat) ≠ 58 by decide)]) (hm_dcx c52 hm)) hPO (by first | with_reducible exact hinv | (simp only [N_47 (show (47 : Nat) ≠ 2 by decide) (show (47 : Nat) ≠ 16 by decide) (show (47 : Nat) ≠ 18 by decide) (show (47 : Nat) ≠ 25 by decide) (show (47 : Nat) ≠ 27 by decide) (show (47 : Nat) ≠ 29 by decide) (show (47 : Nat) ≠ 31 by decide) (show (47 : Nat) ≠ 33 by decide) (show (47 : Nat) ≠ 35 by decide) (show (47 : Nat) ≠ 37 by decide) (show (47 : Nat) ≠ 42 by decide) (show (47 : Nat) ≠ 44 by decide) (show (47 : Nat) ≠ 46 by decide) (show (47 : Nat) ≠ 49 by decide) (show (47 : Nat) ≠ 58 by decide)]; exact hinv)) hq)
set_option maxRecDepth 20000 in
theorem lp_18_35 {R : hm_R} (hR : hm_Cm R) {N L : Nat} {g : Nat → hm_Sh} {b : hm_B} {Q : hm_Q} (hN : 68 ≤ N) : ∀ (n : Nat) (s : hm_St) (v1 : Int32) (v2 : Int32) (v3 : Int32), hm_df v1 v3 < n → (hinv : s 47 1 < 100000) → (hq : hm_qx Q L (fun v => some (.int v)) (T_18_35 N g n s v1 v2 v3)) → R 18 35 [(3, .int v3), (2, .int v2), (0, .ref 2), (1, .int v1)] [] (N, hm_sh L g, s) b Q := by
  intro n
  induction n with
  | zero => intro s v1 v2 v3 hm hinv _; exact absurd hm (Nat.not_lt_zero _)
  | succ n ih =>
    intro s v1 v2 v3 hm hinv hq
    unfold T_18_35 at hq
    refine hm_st hR (hm_st hR (?_))
    show R 18 37 [(3, .int v3), (2, .int v2), (0, .ref 2), (1, .int v1)] [.int v1, .int v3] (N, hm_sh L g, s) _ Q
    refine hm_st hR ⟨fun c37 => ?_, fun c37 => ?_⟩
    · rw [if_pos c37] at hq
      show R 18 91 [(3, .int v3), (2, .int v2), (0, .ref 2), (1, .int v1)] [] (N, hm_sh L g, s) _ Q
      refine hm_st hR (?_)
      exact hm_st hR ⟨fun z => absurd z (by decide), hm_qx0 hq⟩
    · rw [if_neg c37] at hq
      show R 18 40 [(3, .int v3), (2, .int v2), (0, .ref 2), (1, .int v1)] [] (N, hm_sh L g, s) _ Q
      refine hm_st hR (hm_st hR (?_))
      show R 18 43 [(4, .int 0), (3, .int v3), (2, .int v2), (0, .ref 2), (1, .int v1)] [] (N, hm_sh L g, s) _ Q
      exact lp_18_43 hR hN (O := (fun s v1 v2 v3 => T_18_35 N g n s v1 v2 v3)) (nO := n) (fun s v1 v2 v3 hm hi hq => ih s v1 v2 v3 hm hi hq) _ _ _ _ _ _ (Nat.lt_succ_self _) (hm_dcx c37 hm) hinv hq
set_option maxRecDepth 20000 in
theorem sp_18 {R : hm_R} (hR : hm_Cm R) {N L : Nat} {g : Nat → hm_Sh} {s : hm_St} {b : hm_B} {Q : hm_Q} (hN : 68 ≤ N) (hb1 : 1 ≤ b.1) (hb2 : 6 ≤ b.2) {p1 : Int32} (hO : s 47 1 < 100000) (hq : hm_qx Q L (fun v => some (.int v)) (T_18 N g s p1)) : R 18 0 (lv_args 0 [.ref 2, .int p1]) [] (N, hm_sh L g, s) b Q := by
  unfold T_18 at hq
  show R 18 0 [(0, .ref 2), (1, .int p1)] [] (N, hm_sh L g, s) _ Q
  refine hm_st hR (hm_st hR (hm_st hR (?_)))
  refine hm_st hR ⟨hm_le rfl, hm_le rfl, hm_le rfl, (0, 0), Nat.zero_le _, Nat.zero_le _, ?_⟩
  refine sp_34 hR hN ?_
  show R 18 7 [(0, .ref 2), (1, .int p1)] [.int (T_34 s p1 1 9)] (N, hm_sh L g, s) _ Q
  show R 18 7 [(0, .ref 2), (1, .int p1)] [.int (T_34 s p1 1 9)] (N, hm_sh L g, s) _ Q
  by_cases c7 : ((T_34 s p1 1 9) : Int32) = 0
  · rw [if_pos c7] at hq
    exact hm_st hR ⟨hm_le rfl, hm_le rfl, hm_le rfl, (1, 6), (by show 1 ≤ b.1 - 0; omega), (by show 6 ≤ b.2 - 0; omega), hm_needT31 hR hN c7 (fun N2 hN2 => hm_KX (by decide) (hq N2 hN2))⟩
  · rw [if_neg c7] at hq
    refine hm_st hR ⟨hm_le rfl, hm_le rfl, hm_le rfl, (0, 0), Nat.zero_le _, Nat.zero_le _, hm_needP31 hR c7 ?_⟩
    show R 18 10 [(0, .ref 2), (1, .int p1)] [] (N, hm_sh L g, s) _ Q
    refine hm_st hR (hm_st hR ⟨rfl, hm_le rfl, (hm_ltN hN rfl), ?_⟩)
    refine hm_st hR ⟨hm_le rfl, rfl, (hm_le rfl), (hm_ltN hN rfl), hm_le rfl, hm_le rfl, (0, 0), Nat.zero_le _, Nat.zero_le _, ?_⟩
    refine sp_112 hR hN ?_
    show R 18 17 [(0, .ref 2), (1, .int p1)] [.int (T_112 s)] (N, hm_sh L g, s) _ Q
    refine hm_st hR (?_)
    show R 18 20 [(0, .ref 2), (1, .int p1)] [.int 400, .int (T_112 s)] (N, hm_sh L g, s) _ Q
    suffices G : ∀ w : Int32, w = (if 400 < (T_112 s) then (0 : Int32) else 1) → R 18 28 [(0, .ref 2), (1, .int p1)] [.int w] (N, hm_sh L g, s) (b.1 - 0 - 0 - 0, b.2 - 0 - 0 - 0) Q by
      show R 18 20 [(0, .ref 2), (1, .int p1)] [.int 400, .int (T_112 s)] (N, hm_sh L g, s) _ Q
      refine hm_st hR ⟨fun c => ?_, fun c => ?_⟩
      · exact hm_st hR (G _ (if_pos c).symm)
      · exact hm_st hR (hm_st hR (G _ (if_neg c).symm))
    intro w hw
    subst hw
    show R 18 28 [(0, .ref 2), (1, .int p1)] [.int (if 400 < (T_112 s) then (0 : Int32) else 1)] (N, hm_sh L g, s) _ Q
    show R 18 28 [(0, .ref 2), (1, .int p1)] [.int (if 400 < (T_112 s) then (0 : Int32) else 1)] (N, hm_sh L g, s) _ Q
    by_cases c28 : ((if 400 < (T_112 s) then (0 : Int32) else 1) : Int32) = 0
    · rw [if_pos c28] at hq
      exact hm_st hR ⟨hm_le rfl, hm_le rfl, hm_le rfl, (1, 6), (by show 1 ≤ b.1 - 0 - 0 - 0; omega), (by show 6 ≤ b.2 - 0 - 0 - 0; omega), hm_needT32 hR hN c28 (fun N2 hN2 => hm_KX (by decide) (hq N2 hN2))⟩
    · rw [if_neg c28] at hq
      refine hm_st hR ⟨hm_le rfl, hm_le rfl, hm_le rfl, (0, 0), Nat.zero_le _, Nat.zero_le _, hm_needP32 hR c28 ?_⟩
      show R 18 31 [(0, .ref 2), (1, .int p1)] [] (N, hm_sh L g, s) _ Q
      refine hm_st hR (hm_st hR (hm_st hR (hm_st hR (?_))))
      show R 18 35 [(3, .int 0), (2, .int 0), (0, .ref 2), (1, .int p1)] [] (N, hm_sh L g, s) _ Q
      exact lp_18_35 hR hN _ _ _ _ _ (Nat.lt_succ_self _) hO hq
/-- CurvekeyHouse$Pages.keyCount()I -/
def T_137 (s : hm_St) : Int32 := (s 42 2)
set_option maxRecDepth 20000 in
theorem sp_137 {R : hm_R} (hR : hm_Cm R) {N L : Nat} {g : Nat → hm_Sh} {s : hm_St} {b : hm_B} {Q : hm_Q} (hN : 68 ≤ N) (hq : Q (.inr (some (.int (T_137 s)))) (N, hm_sh L g, s)) : R 137 0 (lv_args 0 [.ref 42]) [] (N, hm_sh L g, s) b Q := by
  unfold T_137 at hq
  show R 137 0 [(0, .ref 42)] [] (N, hm_sh L g, s) _ Q
  refine hm_st hR (hm_st hR ⟨rfl, hm_le rfl, (hm_ltN hN rfl), ?_⟩)
  exact hm_st hR ⟨fun z => absurd z (by decide), hq⟩
def T_124_7 : Nat → hm_St → Int32 → hm_St
  | 0, s, _ => s
  | n + 1, s, v2 => (if (T_137 s) ≤ v2 then s else (if (T_140 s v2) = (-1) then (T_124_7 n s (v2 + 1)) else (T_124_7 n (hm_w1 (T_179 s 66 80 (s 64 1) v2) 64 1 (((T_179 s 66 80 (s 64 1) v2) 64 1) + 1)) (v2 + 1))))
/-- CurvekeyHouse$Line.take(LCurvekeyHouse$Pages;)V -/
def T_124 (s : hm_St) : hm_St := (T_124_7 (hm_df (T_137 (hm_w1 s 64 1 0)) 0 + 1) (hm_w1 s 64 1 0) 0)
theorem N_124_7 {c j : Nat} (h64 : c ≠ 64) (h66 : c ≠ 66) : ∀ (n : Nat) (s : hm_St) (v0 : Int32), (T_124_7  n s v0) c j = s c j := by
  intro n
  induction n with
  | zero => intros; rfl
  | succ n ih =>
    intros
    unfold T_124_7
    repeat' split
    all_goals first | with_reducible rfl | simp only [ih, hm_w1n h64, hm_w1n h66, N_179 h64, N_179 h66]
theorem N_124 {c j : Nat} (h64 : c ≠ 64) (h66 : c ≠ 66) {s : hm_St} : (T_124 s) c j = s c j := by
  unfold T_124
  repeat' split
  all_goals first | with_reducible rfl | simp only [hm_w1n h64, hm_w1n h66, N_179 h64, N_179 h66, N_124_7 h64 h66]
set_option maxRecDepth 20000 in
theorem lp_124_7 {R : hm_R} (hR : hm_Cm R) {N L : Nat} {g : Nat → hm_Sh} {b : hm_B} {Q : hm_Q} (hN : 68 ≤ N) : ∀ (n : Nat) (s : hm_St) (v2 : Int32), hm_df (T_137 s) v2 < n → (hq : Q (.inr none) (N, hm_sh L g, (T_124_7 n s v2))) → R 124 7 [(2, .int v2), (0, .ref 64), (1, .ref 42)] [] (N, hm_sh L g, s) b Q := by
  intro n
  induction n with
  | zero => intro s v2 hm _; exact absurd hm (Nat.not_lt_zero _)
  | succ n ih =>
    intro s v2 hm hq
    unfold T_124_7 at hq
    refine hm_st hR (hm_st hR (?_))
    refine hm_st hR ⟨hm_le rfl, rfl, (hm_le rfl), (hm_ltN hN rfl), hm_le rfl, hm_le rfl, (0, 0), Nat.zero_le _, Nat.zero_le _, ?_⟩
    refine sp_137 hR hN ?_
    show R 124 12 [(2, .int v2), (0, .ref 64), (1, .ref 42)] [.int (T_137 s), .int v2] (N, hm_sh L g, s) _ Q
    show R 124 12 [(2, .int v2), (0, .ref 64), (1, .ref 42)] [.int (T_137 s), .int v2] (N, hm_sh L g, s) _ Q
    refine hm_st hR ⟨fun c12 => ?_, fun c12 => ?_⟩
    · rw [if_pos c12] at hq
      show R 124 52 [(2, .int v2), (0, .ref 64), (1, .ref 42)] [] (N, hm_sh L g, s) _ Q
      exact hm_st hR (hq)
    · rw [if_neg c12] at hq
      show R 124 15 [(2, .int v2), (0, .ref 64), (1, .ref 42)] [] (N, hm_sh L g, s) _ Q
      refine hm_st hR (hm_st hR (?_))
      refine hm_st hR ⟨hm_le rfl, rfl, (hm_le rfl), (hm_ltN hN rfl), hm_le rfl, hm_le rfl, (0, 0), Nat.zero_le _, Nat.zero_le _, ?_⟩
      refine sp_140 hR hN ?_
      show R 124 20 [(2, .int v2), (0, .ref 64), (1, .ref 42)] [.int (T_140 s v2)] (N, hm_sh L g, s) _ Q
      refine hm_st hR (?_)
      show R 124 21 [(2, .int v2), (0, .ref 64), (1, .ref 42)] [.int (-1), .int (T_140 s v2)] (N, hm_sh L g, s) _ Q
      refine hm_st hR ⟨fun c21 => ?_, fun c21 => ?_⟩
      · rw [if_pos c21] at hq
        show R 124 46 [(2, .int v2), (0, .ref 64), (1, .ref 42)] [] (N, hm_sh L g, s) _ Q
        refine hm_st hR (hm_st hR (?_))
        show R 124 7 [(2, .int (v2 + 1)), (0, .ref 64), (1, .ref 42)] [] (N, hm_sh L g, s) _ Q
        exact hm_lvS hR (by intro q hq; simp only [List.mem_cons, List.not_mem_nil, or_false] at hq ⊢; rcases hq with rfl | rfl | rfl <;> simp) (ih s (v2 + 1) (by first | with_reducible exact hm_dcx c12 hm | exact hm_dcE (by simp only [T_137, hm_w1n (show (42 : Nat) ≠ 64 by decide), N_179 (show (42 : Nat) ≠ 64 by decide), hm_w1n (show (42 : Nat) ≠ 66 by decide), N_179 (show (42 : Nat) ≠ 66 by decide)]) (hm_dcx c12 hm)) hq)
      · rw [if_neg c21] at hq
        show R 124 24 [(2, .int v2), (0, .ref 64), (1, .ref 42)] [] (N, hm_sh L g, s) _ Q
        refine hm_st hR (hm_st hR ⟨rfl, hm_le rfl, (hm_ltN hN rfl), hm_st hR (hm_st hR ⟨rfl, hm_le rfl, (hm_ltN hN rfl), hm_st hR (?_)⟩)⟩)
        refine hm_st hR ⟨hm_le rfl, rfl, (hm_le rfl), (hm_ltN hN rfl), hm_le rfl, hm_le rfl, (0, 0), Nat.zero_le _, Nat.zero_le _, ?_⟩
        refine sp_179 hR hN (rr := 65) (aa := 66) (nn := 80) rfl rfl (hm_le rfl) (hm_ltN hN rfl) rfl rfl (hm_le rfl) (hm_ltN hN rfl) (by decide) ?_
        show R 124 36 [(2, .int v2), (0, .ref 64), (1, .ref 42)] [] (N, hm_sh L g, (T_179 s 66 80 (s 64 1) v2)) _ Q
        refine hm_st hR (hm_st hR ⟨rfl, hm_st hR ⟨rfl, hm_le rfl, (hm_ltN hN rfl), hm_st hR (hm_st hR (hm_st hR ⟨rfl, rfl, hm_le rfl, (hm_ltN hN rfl), ?_⟩))⟩⟩)
        show R 124 46 [(2, .int v2), (0, .ref 64), (1, .ref 42)] [] (N, hm_sh L g, (hm_w1 (T_179 s 66 80 (s 64 1) v2) 64 1 (((T_179 s 66 80 (s 64 1) v2) 64 1) + 1))) _ Q
        refine hm_st hR (hm_st hR (?_))
        show R 124 7 [(2, .int (v2 + 1)), (0, .ref 64), (1, .ref 42)] [] (N, hm_sh L g, (hm_w1 (T_179 s 66 80 (s 64 1) v2) 64 1 (((T_179 s 66 80 (s 64 1) v2) 64 1) + 1))) _ Q
        exact hm_lvS hR (by intro q hq; simp only [List.mem_cons, List.not_mem_nil, or_false] at hq ⊢; rcases hq with rfl | rfl | rfl <;> simp) (ih (hm_w1 (T_179 s 66 80 (s 64 1) v2) 64 1 (((T_179 s 66 80 (s 64 1) v2) 64 1) + 1)) (v2 + 1) (by first | with_reducible exact hm_dcx c12 hm | exact hm_dcE (by simp only [T_137, hm_w1n (show (42 : Nat) ≠ 64 by decide), N_179 (show (42 : Nat) ≠ 64 by decide), hm_w1n (show (42 : Nat) ≠ 66 by decide), N_179 (show (42 : Nat) ≠ 66 by decide)]) (hm_dcx c12 hm)) hq)
set_option maxRecDepth 20000 in
theorem sp_124 {R : hm_R} (hR : hm_Cm R) {N L : Nat} {g : Nat → hm_Sh} {s : hm_St} {b : hm_B} {Q : hm_Q} (hN : 68 ≤ N) (hq : Q (.inr none) (N, hm_sh L g, (T_124 s))) : R 124 0 (lv_args 0 [.ref 64, .ref 42]) [] (N, hm_sh L g, s) b Q := by
  unfold T_124 at hq
  show R 124 0 [(0, .ref 64), (1, .ref 42)] [] (N, hm_sh L g, s) _ Q
  refine hm_st hR (hm_st hR (hm_st hR ⟨rfl, rfl, hm_le rfl, (hm_ltN hN rfl), ?_⟩))
  show R 124 5 [(0, .ref 64), (1, .ref 42)] [] (N, hm_sh L g, (hm_w1 s 64 1 0)) _ Q
  refine hm_st hR (hm_st hR (?_))
  show R 124 7 [(2, .int 0), (0, .ref 64), (1, .ref 42)] [] (N, hm_sh L g, (hm_w1 s 64 1 0)) _ Q
  exact lp_124_7 hR hN _ _ _ (Nat.lt_succ_self _) hq
def T_125_4 : Nat → hm_St → Int32 → Int32 → Int32 → Int32
  | 0, s, _, _, _ => 0
  | n + 1, s, v1, v2, v3 => (if (s 64 1) ≤ v3 then v2 else (if v1 ≤ (T_178 s 66 80 v3) then (T_125_4 n s v1 v2 (v3 + 1)) else (T_125_4 n s v1 (v2 + 1) (v3 + 1))))
/-- CurvekeyHouse$Line.smallerThan(I)I -/
def T_125 (s : hm_St) (p1 : Int32) : Int32 := (T_125_4 (hm_df (s 64 1) 0 + 1) s p1 0 0)
set_option maxRecDepth 20000 in
theorem lp_125_4 {R : hm_R} (hR : hm_Cm R) {N L : Nat} {g : Nat → hm_Sh} {b : hm_B} {Q : hm_Q} (hN : 68 ≤ N) : ∀ (n : Nat) (s : hm_St) (v1 : Int32) (v2 : Int32) (v3 : Int32), hm_df (s 64 1) v3 < n → (hq : Q (.inr (some (.int (T_125_4 n s v1 v2 v3)))) (N, hm_sh L g, s)) → R 125 4 [(3, .int v3), (2, .int v2), (0, .ref 64), (1, .int v1)] [] (N, hm_sh L g, s) b Q := by
  intro n
  induction n with
  | zero => intro s v1 v2 v3 hm _; exact absurd hm (Nat.not_lt_zero _)
  | succ n ih =>
    intro s v1 v2 v3 hm hq
    unfold T_125_4 at hq
    refine hm_st hR (hm_st hR (hm_st hR ⟨rfl, hm_le rfl, (hm_ltN hN rfl), ?_⟩))
    show R 125 9 [(3, .int v3), (2, .int v2), (0, .ref 64), (1, .int v1)] [.int (s 64 1), .int v3] (N, hm_sh L g, s) _ Q
    refine hm_st hR ⟨fun c9 => ?_, fun c9 => ?_⟩
    · rw [if_pos c9] at hq
      show R 125 33 [(3, .int v3), (2, .int v2), (0, .ref 64), (1, .int v1)] [] (N, hm_sh L g, s) _ Q
      refine hm_st hR (?_)
      exact hm_st hR ⟨fun z => absurd z (by decide), hq⟩
    · rw [if_neg c9] at hq
      show R 125 12 [(3, .int v3), (2, .int v2), (0, .ref 64), (1, .int v1)] [] (N, hm_sh L g, s) _ Q
      refine hm_st hR (hm_st hR ⟨rfl, hm_le rfl, (hm_ltN hN rfl), hm_st hR (?_)⟩)
      refine hm_st hR ⟨hm_le rfl, rfl, (hm_le rfl), (hm_ltN hN rfl), hm_le rfl, hm_le rfl, (0, 0), Nat.zero_le _, Nat.zero_le _, ?_⟩
      refine sp_178 hR hN (rr := 65) (aa := 66) (nn := 80) rfl rfl (hm_le rfl) (hm_ltN hN rfl) rfl rfl (hm_le rfl) (hm_ltN hN rfl) (by decide) ?_
      show R 125 20 [(3, .int v3), (2, .int v2), (0, .ref 64), (1, .int v1)] [.int (T_178 s 66 80 v3)] (N, hm_sh L g, s) _ Q
      refine hm_st hR (?_)
      show R 125 21 [(3, .int v3), (2, .int v2), (0, .ref 64), (1, .int v1)] [.int v1, .int (T_178 s 66 80 v3)] (N, hm_sh L g, s) _ Q
      refine hm_st hR ⟨fun c21 => ?_, fun c21 => ?_⟩
      · rw [if_pos c21] at hq
        show R 125 27 [(3, .int v3), (2, .int v2), (0, .ref 64), (1, .int v1)] [] (N, hm_sh L g, s) _ Q
        refine hm_st hR (hm_st hR (?_))
        show R 125 4 [(3, .int (v3 + 1)), (2, .int v2), (0, .ref 64), (1, .int v1)] [] (N, hm_sh L g, s) _ Q
        exact hm_lvS hR (by intro q hq; simp only [List.mem_cons, List.not_mem_nil, or_false] at hq ⊢; rcases hq with rfl | rfl | rfl | rfl <;> simp) (ih s v1 v2 (v3 + 1) (hm_dcx c9 hm) hq)
      · rw [if_neg c21] at hq
        show R 125 24 [(3, .int v3), (2, .int v2), (0, .ref 64), (1, .int v1)] [] (N, hm_sh L g, s) _ Q
        refine hm_st hR (hm_st hR (hm_st hR (?_)))
        show R 125 4 [(3, .int (v3 + 1)), (2, .int (v2 + 1)), (0, .ref 64), (1, .int v1)] [] (N, hm_sh L g, s) _ Q
        exact hm_lvS hR (by intro q hq; simp only [List.mem_cons, List.not_mem_nil, or_false] at hq ⊢; rcases hq with rfl | rfl | rfl | rfl <;> simp) (ih s v1 (v2 + 1) (v3 + 1) (hm_dcx c9 hm) hq)
set_option maxRecDepth 20000 in
theorem sp_125 {R : hm_R} (hR : hm_Cm R) {N L : Nat} {g : Nat → hm_Sh} {s : hm_St} {b : hm_B} {Q : hm_Q} (hN : 68 ≤ N) {p1 : Int32} (hq : Q (.inr (some (.int (T_125 s p1)))) (N, hm_sh L g, s)) : R 125 0 (lv_args 0 [.ref 64, .int p1]) [] (N, hm_sh L g, s) b Q := by
  unfold T_125 at hq
  show R 125 0 [(0, .ref 64), (1, .int p1)] [] (N, hm_sh L g, s) _ Q
  refine hm_st hR (hm_st hR (hm_st hR (hm_st hR (?_))))
  show R 125 4 [(3, .int 0), (2, .int 0), (0, .ref 64), (1, .int p1)] [] (N, hm_sh L g, s) _ Q
  exact lp_125_4 hR hN _ _ _ _ _ (Nat.lt_succ_self _) hq
/-- CurvekeyHouse$Line.guessOn(III)I -/
def T_129 (s : hm_St) (p1 : Int32) (p2 : Int32) (p3 : Int32) : Int32 := (if 0 < ((T_178 s 66 80 p2) - (T_178 s 66 80 p1)) then (p1 + (((p3 - (T_178 s 66 80 p1)) * (p2 - p1)) / ((T_178 s 66 80 p2) - (T_178 s 66 80 p1)))) else p1)
set_option maxRecDepth 20000 in
theorem sp_129 {R : hm_R} (hR : hm_Cm R) {N L : Nat} {g : Nat → hm_Sh} {s : hm_St} {b : hm_B} {Q : hm_Q} (hN : 68 ≤ N) {p1 : Int32} {p2 : Int32} {p3 : Int32} (hq : Q (.inr (some (.int (T_129 s p1 p2 p3)))) (N, hm_sh L g, s)) : R 129 0 (lv_args 0 [.ref 64, .int p1, .int p2, .int p3]) [] (N, hm_sh L g, s) b Q := by
  unfold T_129 at hq
  show R 129 0 [(0, .ref 64), (1, .int p1), (2, .int p2), (3, .int p3)] [] (N, hm_sh L g, s) _ Q
  refine hm_st hR (hm_st hR ⟨rfl, hm_le rfl, (hm_ltN hN rfl), hm_st hR (?_)⟩)
  refine hm_st hR ⟨hm_le rfl, rfl, (hm_le rfl), (hm_ltN hN rfl), hm_le rfl, hm_le rfl, (0, 0), Nat.zero_le _, Nat.zero_le _, ?_⟩
  refine sp_178 hR hN (rr := 65) (aa := 66) (nn := 80) rfl rfl (hm_le rfl) (hm_ltN hN rfl) rfl rfl (hm_le rfl) (hm_ltN hN rfl) (by decide) ?_
  show R 129 8 [(0, .ref 64), (1, .int p1), (2, .int p2), (3, .int p3)] [.int (T_178 s 66 80 p1)] (N, hm_sh L g, s) _ Q
  refine hm_st hR (hm_st hR (hm_st hR ⟨rfl, hm_le rfl, (hm_ltN hN rfl), hm_st hR (?_)⟩))
  refine hm_st hR ⟨hm_le rfl, rfl, (hm_le rfl), (hm_ltN hN rfl), hm_le rfl, hm_le rfl, (0, 0), Nat.zero_le _, Nat.zero_le _, ?_⟩
  refine sp_178 hR hN (rr := 65) (aa := 66) (nn := 80) rfl rfl (hm_le rfl) (hm_ltN hN rfl) rfl rfl (hm_le rfl) (hm_ltN hN rfl) (by decide) ?_
  show R 129 18 [(4, .int (T_178 s 66 80 p1)), (0, .ref 64), (1, .int p1), (2, .int p2), (3, .int p3)] [.int (T_178 s 66 80 p2)] (N, hm_sh L g, s) _ Q
  refine hm_st hR (hm_st hR (hm_st hR (hm_st hR (?_))))
  show R 129 25 [(5, .int ((T_178 s 66 80 p2) - (T_178 s 66 80 p1))), (4, .int (T_178 s 66 80 p1)), (0, .ref 64), (1, .int p1), (2, .int p2), (3, .int p3)] [.int ((T_178 s 66 80 p2) - (T_178 s 66 80 p1))] (N, hm_sh L g, s) _ Q
  refine hm_st hR ⟨fun c25 => ?_, fun c25 => ?_⟩
  · rw [if_pos c25] at hq
    show R 129 32 [(5, .int ((T_178 s 66 80 p2) - (T_178 s 66 80 p1))), (4, .int (T_178 s 66 80 p1)), (0, .ref 64), (1, .int p1), (2, .int p2), (3, .int p3)] [] (N, hm_sh L g, s) _ Q
    refine hm_st hR (hm_st hR (hm_st hR (hm_st hR (hm_st hR (hm_st hR (hm_st hR (hm_st hR (hm_st hR (hm_st hR ⟨(hm_nz2 c25), hm_st hR (?_)⟩)))))))))
    exact hm_st hR ⟨fun z => absurd z (by decide), hq⟩
  · rw [if_neg c25] at hq
    show R 129 28 [(5, .int ((T_178 s 66 80 p2) - (T_178 s 66 80 p1))), (4, .int (T_178 s 66 80 p1)), (0, .ref 64), (1, .int p1), (2, .int p2), (3, .int p3)] [] (N, hm_sh L g, s) _ Q
    refine hm_st hR (hm_st hR (?_))
    exact hm_st hR ⟨fun z => absurd z (by decide), hq⟩
/-- CurvekeyHouse$Line.guessWhole(I)I -/
def T_126 (s : hm_St) (p1 : Int32) : Int32 := (if (s 64 1) = 0 then (-1) else (T_129 s 0 ((s 64 1) - 1) (hm_max (T_178 s 66 80 0) (hm_min (T_178 s 66 80 ((s 64 1) - 1)) p1))))
set_option maxRecDepth 20000 in
theorem sp_126 {R : hm_R} (hR : hm_Cm R) {N L : Nat} {g : Nat → hm_Sh} {s : hm_St} {b : hm_B} {Q : hm_Q} (hN : 68 ≤ N) {p1 : Int32} (hq : Q (.inr (some (.int (T_126 s p1)))) (N, hm_sh L g, s)) : R 126 0 (lv_args 0 [.ref 64, .int p1]) [] (N, hm_sh L g, s) b Q := by
  unfold T_126 at hq
  show R 126 0 [(0, .ref 64), (1, .int p1)] [] (N, hm_sh L g, s) _ Q
  refine hm_st hR (hm_st hR ⟨rfl, hm_le rfl, (hm_ltN hN rfl), ?_⟩)
  show R 126 4 [(0, .ref 64), (1, .int p1)] [.int (s 64 1)] (N, hm_sh L g, s) _ Q
  refine hm_st hR ⟨fun c4 => ?_, fun c4 => ?_⟩
  · rw [if_neg c4] at hq
    show R 126 9 [(0, .ref 64), (1, .int p1)] [] (N, hm_sh L g, s) _ Q
    refine hm_st hR (hm_st hR (hm_st hR (hm_st hR ⟨rfl, hm_le rfl, (hm_ltN hN rfl), hm_st hR (hm_st hR (hm_st hR (hm_st hR ⟨rfl, hm_le rfl, (hm_ltN hN rfl), hm_st hR (?_)⟩)))⟩)))
    refine hm_st hR ⟨hm_le rfl, rfl, (hm_le rfl), (hm_ltN hN rfl), hm_le rfl, hm_le rfl, (0, 0), Nat.zero_le _, Nat.zero_le _, ?_⟩
    refine sp_178 hR hN (rr := 65) (aa := 66) (nn := 80) rfl rfl (hm_le rfl) (hm_ltN hN rfl) rfl rfl (hm_le rfl) (hm_ltN hN rfl) (by decide) ?_
    show R 126 25 [(0, .ref 64), (1, .int p1)] [.int (T_178 s 66 80 0), .int ((s 64 1) - 1), .int 0, .ref 64] (N, hm_sh L g, s) _ Q
    refine hm_st hR (hm_st hR ⟨rfl, hm_le rfl, (hm_ltN hN rfl), hm_st hR (hm_st hR ⟨rfl, hm_le rfl, (hm_ltN hN rfl), hm_st hR (hm_st hR (?_))⟩)⟩)
    refine hm_st hR ⟨hm_le rfl, rfl, (hm_le rfl), (hm_ltN hN rfl), hm_le rfl, hm_le rfl, (0, 0), Nat.zero_le _, Nat.zero_le _, ?_⟩
    refine sp_178 hR hN (rr := 65) (aa := 66) (nn := 80) rfl rfl (hm_le rfl) (hm_ltN hN rfl) rfl rfl (hm_le rfl) (hm_ltN hN rfl) (by decide) ?_
    show R 126 38 [(0, .ref 64), (1, .int p1)] [.int (T_178 s 66 80 ((s 64 1) - 1)), .int (T_178 s 66 80 0), .int ((s 64 1) - 1), .int 0, .ref 64] (N, hm_sh L g, s) _ Q
    refine hm_st hR (hm_st hR ⟨hm_le rfl, ?_⟩)
    show R 126 42 [(0, .ref 64), (1, .int p1)] [.int (hm_min (T_178 s 66 80 ((s 64 1) - 1)) p1), .int (T_178 s 66 80 0), .int ((s 64 1) - 1), .int 0, .ref 64] (N, hm_sh L g, s) _ Q
    refine hm_st hR ⟨hm_le rfl, ?_⟩
    show R 126 45 [(0, .ref 64), (1, .int p1)] [.int (hm_max (T_178 s 66 80 0) (hm_min (T_178 s 66 80 ((s 64 1) - 1)) p1)), .int ((s 64 1) - 1), .int 0, .ref 64] (N, hm_sh L g, s) _ Q
    refine hm_st hR ⟨hm_le rfl, rfl, (hm_le rfl), (hm_ltN hN rfl), hm_le rfl, hm_le rfl, (0, 0), Nat.zero_le _, Nat.zero_le _, ?_⟩
    refine sp_129 hR hN ?_
    show R 126 48 [(0, .ref 64), (1, .int p1)] [.int (T_129 s 0 ((s 64 1) - 1) (hm_max (T_178 s 66 80 0) (hm_min (T_178 s 66 80 ((s 64 1) - 1)) p1)))] (N, hm_sh L g, s) _ Q
    exact hm_st hR ⟨fun z => absurd z (by decide), hq⟩
  · rw [if_pos c4] at hq
    show R 126 7 [(0, .ref 64), (1, .int p1)] [] (N, hm_sh L g, s) _ Q
    refine hm_st hR (?_)
    exact hm_st hR ⟨fun z => absurd z (by decide), hq⟩
/-- CurvekeyHouse.guess(IZ)I -/
def T_19 (N : Nat) (g : Nat → hm_Sh) (s : hm_St) (p1 : Int32) (p2 : Int32) : hm_Er Int32 := (if ((T_36 s p1) : Int32) = 0 then (1, 0, N, g, s) else (if p2 = 0 then (0, (T_126 (T_124 s) p1), N, g, (T_124 s)) else (0, (T_125 (T_124 s) p1), N, g, (T_124 s))))
theorem N_19 {c j : Nat} (h64 : c ≠ 64) (h66 : c ≠ 66) {N : Nat} {g : Nat → hm_Sh} {s : hm_St} {p1 : Int32} {p2 : Int32} : (T_19 N g s p1 p2).2.2.2.2 c j = s c j := by
  unfold T_19
  repeat' split
  all_goals first | with_reducible rfl | simp only [hm_w1n h64, hm_w1n h66, N_124 h64 h66]
set_option maxRecDepth 20000 in
theorem sp_19 {R : hm_R} (hR : hm_Cm R) {N L : Nat} {g : Nat → hm_Sh} {s : hm_St} {b : hm_B} {Q : hm_Q} (hN : 68 ≤ N) (hb1 : 1 ≤ b.1) (hb2 : 6 ≤ b.2) {p1 : Int32} {p2 : Int32} (hq : hm_qx Q L (fun v => some (.int v)) (T_19 N g s p1 p2)) : R 19 0 (lv_args 0 [.ref 2, .int p1, .int p2]) [] (N, hm_sh L g, s) b Q := by
  unfold T_19 at hq
  show R 19 0 [(0, .ref 2), (1, .int p1), (2, .int p2)] [] (N, hm_sh L g, s) _ Q
  refine hm_st hR (hm_st hR (?_))
  refine hm_st hR ⟨hm_le rfl, rfl, (hm_le rfl), (hm_ltN hN rfl), hm_le rfl, hm_le rfl, (0, 0), Nat.zero_le _, Nat.zero_le _, ?_⟩
  refine sp_36 hR hN ?_
  show R 19 5 [(0, .ref 2), (1, .int p1), (2, .int p2)] [.int (T_36 s p1)] (N, hm_sh L g, s) _ Q
  show R 19 5 [(0, .ref 2), (1, .int p1), (2, .int p2)] [.int (T_36 s p1)] (N, hm_sh L g, s) _ Q
  by_cases c5 : ((T_36 s p1) : Int32) = 0
  · rw [if_pos c5] at hq
    exact hm_st hR ⟨hm_le rfl, hm_le rfl, hm_le rfl, (1, 6), (by show 1 ≤ b.1 - 0; omega), (by show 6 ≤ b.2 - 0; omega), hm_needT31 hR hN c5 (fun N2 hN2 => hm_KX (by decide) (hq N2 hN2))⟩
  · rw [if_neg c5] at hq
    refine hm_st hR ⟨hm_le rfl, hm_le rfl, hm_le rfl, (0, 0), Nat.zero_le _, Nat.zero_le _, hm_needP31 hR c5 ?_⟩
    show R 19 8 [(0, .ref 2), (1, .int p1), (2, .int p2)] [] (N, hm_sh L g, s) _ Q
    refine hm_st hR (hm_st hR ⟨rfl, hm_le rfl, (hm_ltN hN rfl), hm_st hR (hm_st hR ⟨rfl, hm_le rfl, (hm_ltN hN rfl), ?_⟩)⟩)
    refine hm_st hR ⟨hm_le rfl, rfl, (hm_le rfl), (hm_ltN hN rfl), hm_le rfl, hm_le rfl, (0, 0), Nat.zero_le _, Nat.zero_le _, ?_⟩
    refine sp_124 hR hN ?_
    show R 19 19 [(0, .ref 2), (1, .int p1), (2, .int p2)] [] (N, hm_sh L g, (T_124 s)) _ Q
    refine hm_st hR (?_)
    show R 19 20 [(0, .ref 2), (1, .int p1), (2, .int p2)] [.int p2] (N, hm_sh L g, (T_124 s)) _ Q
    refine hm_st hR ⟨fun c20 => ?_, fun c20 => ?_⟩
    · rw [if_pos c20] at hq
      show R 19 34 [(0, .ref 2), (1, .int p1), (2, .int p2)] [] (N, hm_sh L g, (T_124 s)) _ Q
      refine hm_st hR (hm_st hR ⟨rfl, hm_le rfl, (hm_ltN hN rfl), hm_st hR (?_)⟩)
      refine hm_st hR ⟨hm_le rfl, rfl, (hm_le rfl), (hm_ltN hN rfl), hm_le rfl, hm_le rfl, (0, 0), Nat.zero_le _, Nat.zero_le _, ?_⟩
      refine sp_126 hR hN ?_
      show R 19 42 [(0, .ref 2), (1, .int p1), (2, .int p2)] [.int (T_126 (T_124 s) p1)] (N, hm_sh L g, (T_124 s)) _ Q
      exact hm_st hR ⟨fun z => absurd z (by decide), hm_qx0 hq⟩
    · rw [if_neg c20] at hq
      show R 19 23 [(0, .ref 2), (1, .int p1), (2, .int p2)] [] (N, hm_sh L g, (T_124 s)) _ Q
      refine hm_st hR (hm_st hR ⟨rfl, hm_le rfl, (hm_ltN hN rfl), hm_st hR (?_)⟩)
      refine hm_st hR ⟨hm_le rfl, rfl, (hm_le rfl), (hm_ltN hN rfl), hm_le rfl, hm_le rfl, (0, 0), Nat.zero_le _, Nat.zero_le _, ?_⟩
      refine sp_125 hR hN ?_
      show R 19 31 [(0, .ref 2), (1, .int p1), (2, .int p2)] [.int (T_125 (T_124 s) p1)] (N, hm_sh L g, (T_124 s)) _ Q
      refine hm_st hR (?_)
      exact hm_st hR ⟨fun z => absurd z (by decide), hm_qx0 hq⟩
def T_130_5 : Nat → hm_St → Int32 → Int32 → Int32 → Int32 → Int32
  | 0, s, _, _, _, _ => 0
  | n + 1, s, v1, v2, v3, v4 => (if v2 < v4 then v3 else (T_130_5 n s v1 v2 (hm_max v3 (hm_abs ((T_129 s v1 v2 (T_178 s 66 80 v4)) - v4))) (v4 + 1)))
/-- CurvekeyHouse$Line.errorOn(II)I -/
def T_130 (s : hm_St) (p1 : Int32) (p2 : Int32) : Int32 := (T_130_5 (hm_df1 p2 p1 + 1) s p1 p2 0 p1)
set_option maxRecDepth 20000 in
theorem lp_130_5 {R : hm_R} (hR : hm_Cm R) {N L : Nat} {g : Nat → hm_Sh} {b : hm_B} {Q : hm_Q} (hN : 68 ≤ N) : ∀ (n : Nat) (s : hm_St) (v1 : Int32) (v2 : Int32) (v3 : Int32) (v4 : Int32), hm_df1 v2 v4 < n → (hinv : v2 < 100000) → (hq : Q (.inr (some (.int (T_130_5 n s v1 v2 v3 v4)))) (N, hm_sh L g, s)) → R 130 5 [(4, .int v4), (3, .int v3), (0, .ref 64), (1, .int v1), (2, .int v2)] [] (N, hm_sh L g, s) b Q := by
  intro n
  induction n with
  | zero => intro s v1 v2 v3 v4 hm hinv _; exact absurd hm (Nat.not_lt_zero _)
  | succ n ih =>
    intro s v1 v2 v3 v4 hm hinv hq
    unfold T_130_5 at hq
    refine hm_st hR (hm_st hR (?_))
    show R 130 8 [(4, .int v4), (3, .int v3), (0, .ref 64), (1, .int v1), (2, .int v2)] [.int v2, .int v4] (N, hm_sh L g, s) _ Q
    refine hm_st hR ⟨fun c8 => ?_, fun c8 => ?_⟩
    · rw [if_pos c8] at hq
      show R 130 43 [(4, .int v4), (3, .int v3), (0, .ref 64), (1, .int v1), (2, .int v2)] [] (N, hm_sh L g, s) _ Q
      refine hm_st hR (?_)
      exact hm_st hR ⟨fun z => absurd z (by decide), hq⟩
    · rw [if_neg c8] at hq
      show R 130 11 [(4, .int v4), (3, .int v3), (0, .ref 64), (1, .int v1), (2, .int v2)] [] (N, hm_sh L g, s) _ Q
      refine hm_st hR (hm_st hR (hm_st hR (hm_st hR (hm_st hR (hm_st hR ⟨rfl, hm_le rfl, (hm_ltN hN rfl), hm_st hR (?_)⟩)))))
      refine hm_st hR ⟨hm_le rfl, rfl, (hm_le rfl), (hm_ltN hN rfl), hm_le rfl, hm_le rfl, (0, 0), Nat.zero_le _, Nat.zero_le _, ?_⟩
      refine sp_178 hR hN (rr := 65) (aa := 66) (nn := 80) rfl rfl (hm_le rfl) (hm_ltN hN rfl) rfl rfl (hm_le rfl) (hm_ltN hN rfl) (by decide) ?_
      show R 130 24 [(4, .int v4), (3, .int v3), (0, .ref 64), (1, .int v1), (2, .int v2)] [.int (T_178 s 66 80 v4), .int v2, .int v1, .ref 64, .int v3] (N, hm_sh L g, s) _ Q
      refine hm_st hR ⟨hm_le rfl, rfl, (hm_le rfl), (hm_ltN hN rfl), hm_le rfl, hm_le rfl, (0, 0), Nat.zero_le _, Nat.zero_le _, ?_⟩
      refine sp_129 hR hN ?_
      show R 130 27 [(4, .int v4), (3, .int v3), (0, .ref 64), (1, .int v1), (2, .int v2)] [.int (T_129 s v1 v2 (T_178 s 66 80 v4)), .int v3] (N, hm_sh L g, s) _ Q
      refine hm_st hR (hm_st hR (hm_st hR ⟨hm_le rfl, ?_⟩))
      show R 130 33 [(4, .int v4), (3, .int v3), (0, .ref 64), (1, .int v1), (2, .int v2)] [.int (hm_abs ((T_129 s v1 v2 (T_178 s 66 80 v4)) - v4)), .int v3] (N, hm_sh L g, s) _ Q
      refine hm_st hR ⟨hm_le rfl, ?_⟩
      show R 130 36 [(4, .int v4), (3, .int v3), (0, .ref 64), (1, .int v1), (2, .int v2)] [.int (hm_max v3 (hm_abs ((T_129 s v1 v2 (T_178 s 66 80 v4)) - v4)))] (N, hm_sh L g, s) _ Q
      refine hm_st hR (hm_st hR (hm_st hR (?_)))
      show R 130 5 [(4, .int (v4 + 1)), (3, .int (hm_max v3 (hm_abs ((T_129 s v1 v2 (T_178 s 66 80 v4)) - v4)))), (0, .ref 64), (1, .int v1), (2, .int v2)] [] (N, hm_sh L g, s) _ Q
      exact hm_lvS hR (by intro q hq; simp only [List.mem_cons, List.not_mem_nil, or_false] at hq ⊢; rcases hq with rfl | rfl | rfl | rfl | rfl <;> simp) (ih s v1 v2 (hm_max v3 (hm_abs ((T_129 s v1 v2 (T_178 s 66 80 v4)) - v4))) (v4 + 1) (hm_dcy c8 hinv hm) hinv hq)
set_option maxRecDepth 20000 in
theorem sp_130 {R : hm_R} (hR : hm_Cm R) {N L : Nat} {g : Nat → hm_Sh} {s : hm_St} {b : hm_B} {Q : hm_Q} (hN : 68 ≤ N) {p1 : Int32} {p2 : Int32} (hE : p2 < 100000) (hq : Q (.inr (some (.int (T_130 s p1 p2)))) (N, hm_sh L g, s)) : R 130 0 (lv_args 0 [.ref 64, .int p1, .int p2]) [] (N, hm_sh L g, s) b Q := by
  unfold T_130 at hq
  show R 130 0 [(0, .ref 64), (1, .int p1), (2, .int p2)] [] (N, hm_sh L g, s) _ Q
  refine hm_st hR (hm_st hR (hm_st hR (hm_st hR (?_))))
  show R 130 5 [(4, .int p1), (3, .int 0), (0, .ref 64), (1, .int p1), (2, .int p2)] [] (N, hm_sh L g, s) _ Q
  exact lp_130_5 hR hN _ _ _ _ _ _ (Nat.lt_succ_self _) hE hq
def T_128_7 : Nat → hm_St → Int32 → Int32 → Int32 → Int32 → Int32
  | 0, s, _, _, _, _ => 0
  | n + 1, s, v1, v2, v3, v4 => (if (s 64 1) ≤ v4 then v2 else (if v4 = 0 then (T_128_7 n s v1 (v2 + 1) v4 (v4 + 1)) else (if (T_130 s v3 v4) ≤ v1 then (T_128_7 n s v1 v2 v3 (v4 + 1)) else (T_128_7 n s v1 (v2 + 1) v4 (v4 + 1)))))
/-- CurvekeyHouse$Line.piecesFor(I)I -/
def T_128 (s : hm_St) (p1 : Int32) : Int32 := (T_128_7 (hm_df (s 64 1) 0 + 1) s p1 0 0 0)
set_option maxRecDepth 20000 in
theorem lp_128_7 {R : hm_R} (hR : hm_Cm R) {N L : Nat} {g : Nat → hm_Sh} {b : hm_B} {Q : hm_Q} (hN : 68 ≤ N) : ∀ (n : Nat) (s : hm_St) (v1 : Int32) (v2 : Int32) (v3 : Int32) (v4 : Int32), hm_df (s 64 1) v4 < n → (hinv : s 64 1 ≤ 100000) → (hq : Q (.inr (some (.int (T_128_7 n s v1 v2 v3 v4)))) (N, hm_sh L g, s)) → R 128 7 [(4, .int v4), (3, .int v3), (2, .int v2), (0, .ref 64), (1, .int v1)] [] (N, hm_sh L g, s) b Q := by
  intro n
  induction n with
  | zero => intro s v1 v2 v3 v4 hm hinv _; exact absurd hm (Nat.not_lt_zero _)
  | succ n ih =>
    intro s v1 v2 v3 v4 hm hinv hq
    unfold T_128_7 at hq
    refine hm_st hR (hm_st hR (hm_st hR ⟨rfl, hm_le rfl, (hm_ltN hN rfl), ?_⟩))
    show R 128 13 [(4, .int v4), (3, .int v3), (2, .int v2), (0, .ref 64), (1, .int v1)] [.int (s 64 1), .int v4] (N, hm_sh L g, s) _ Q
    refine hm_st hR ⟨fun c13 => ?_, fun c13 => ?_⟩
    · rw [if_pos c13] at hq
      show R 128 44 [(4, .int v4), (3, .int v3), (2, .int v2), (0, .ref 64), (1, .int v1)] [] (N, hm_sh L g, s) _ Q
      refine hm_st hR (?_)
      exact hm_st hR ⟨fun z => absurd z (by decide), hq⟩
    · rw [if_neg c13] at hq
      show R 128 16 [(4, .int v4), (3, .int v3), (2, .int v2), (0, .ref 64), (1, .int v1)] [] (N, hm_sh L g, s) _ Q
      refine hm_st hR (?_)
      show R 128 18 [(4, .int v4), (3, .int v3), (2, .int v2), (0, .ref 64), (1, .int v1)] [.int v4] (N, hm_sh L g, s) _ Q
      refine hm_st hR ⟨fun c18 => ?_, fun c18 => ?_⟩
      · rw [if_pos c18] at hq
        show R 128 32 [(4, .int v4), (3, .int v3), (2, .int v2), (0, .ref 64), (1, .int v1)] [] (N, hm_sh L g, s) _ Q
        refine hm_st hR (hm_st hR (hm_st hR (hm_st hR (hm_st hR (?_)))))
        show R 128 7 [(4, .int (v4 + 1)), (3, .int v4), (2, .int (v2 + 1)), (0, .ref 64), (1, .int v1)] [] (N, hm_sh L g, s) _ Q
        exact hm_lvS hR (by intro q hq; simp only [List.mem_cons, List.not_mem_nil, or_false] at hq ⊢; rcases hq with rfl | rfl | rfl | rfl | rfl <;> simp) (ih s v1 (v2 + 1) v4 (v4 + 1) (hm_dcx c13 hm) hinv hq)
      · rw [if_neg c18] at hq
        show R 128 21 [(4, .int v4), (3, .int v3), (2, .int v2), (0, .ref 64), (1, .int v1)] [] (N, hm_sh L g, s) _ Q
        refine hm_st hR (hm_st hR (hm_st hR (?_)))
        refine hm_st hR ⟨hm_le rfl, rfl, (hm_le rfl), (hm_ltN hN rfl), hm_le rfl, hm_le rfl, (0, 0), Nat.zero_le _, Nat.zero_le _, ?_⟩
        refine sp_130 hR hN (hm_ltT c13 hinv) ?_
        show R 128 28 [(4, .int v4), (3, .int v3), (2, .int v2), (0, .ref 64), (1, .int v1)] [.int (T_130 s v3 v4)] (N, hm_sh L g, s) _ Q
        refine hm_st hR (?_)
        show R 128 29 [(4, .int v4), (3, .int v3), (2, .int v2), (0, .ref 64), (1, .int v1)] [.int v1, .int (T_130 s v3 v4)] (N, hm_sh L g, s) _ Q
        refine hm_st hR ⟨fun c29 => ?_, fun c29 => ?_⟩
        · rw [if_pos c29] at hq
          show R 128 38 [(4, .int v4), (3, .int v3), (2, .int v2), (0, .ref 64), (1, .int v1)] [] (N, hm_sh L g, s) _ Q
          refine hm_st hR (hm_st hR (?_))
          show R 128 7 [(4, .int (v4 + 1)), (3, .int v3), (2, .int v2), (0, .ref 64), (1, .int v1)] [] (N, hm_sh L g, s) _ Q
          exact hm_lvS hR (by intro q hq; simp only [List.mem_cons, List.not_mem_nil, or_false] at hq ⊢; rcases hq with rfl | rfl | rfl | rfl | rfl <;> simp) (ih s v1 v2 v3 (v4 + 1) (hm_dcx c13 hm) hinv hq)
        · rw [if_neg c29] at hq
          show R 128 32 [(4, .int v4), (3, .int v3), (2, .int v2), (0, .ref 64), (1, .int v1)] [] (N, hm_sh L g, s) _ Q
          refine hm_st hR (hm_st hR (hm_st hR (hm_st hR (hm_st hR (?_)))))
          show R 128 7 [(4, .int (v4 + 1)), (3, .int v4), (2, .int (v2 + 1)), (0, .ref 64), (1, .int v1)] [] (N, hm_sh L g, s) _ Q
          exact hm_lvS hR (by intro q hq; simp only [List.mem_cons, List.not_mem_nil, or_false] at hq ⊢; rcases hq with rfl | rfl | rfl | rfl | rfl <;> simp) (ih s v1 (v2 + 1) v4 (v4 + 1) (hm_dcx c13 hm) hinv hq)
set_option maxRecDepth 20000 in
theorem sp_128 {R : hm_R} (hR : hm_Cm R) {N L : Nat} {g : Nat → hm_Sh} {s : hm_St} {b : hm_B} {Q : hm_Q} (hN : 68 ≤ N) {p1 : Int32} (hE : s 64 1 ≤ 100000) (hq : Q (.inr (some (.int (T_128 s p1)))) (N, hm_sh L g, s)) : R 128 0 (lv_args 0 [.ref 64, .int p1]) [] (N, hm_sh L g, s) b Q := by
  unfold T_128 at hq
  show R 128 0 [(0, .ref 64), (1, .int p1)] [] (N, hm_sh L g, s) _ Q
  refine hm_st hR (hm_st hR (hm_st hR (hm_st hR (hm_st hR (hm_st hR (?_))))))
  show R 128 7 [(4, .int 0), (3, .int 0), (2, .int 0), (0, .ref 64), (1, .int p1)] [] (N, hm_sh L g, s) _ Q
  exact lp_128_7 hR hN _ _ _ _ _ _ (Nat.lt_succ_self _) hE hq
/-- CurvekeyHouse.pieces(I)I -/
def T_20 (N : Nat) (g : Nat → hm_Sh) (s : hm_St) (p1 : Int32) : hm_Er Int32 := (if ((T_34 s p1 0 80) : Int32) = 0 then (1, 0, N, g, s) else (0, (T_128 (T_124 s) p1), N, g, (T_124 s)))
theorem N_20 {c j : Nat} (h64 : c ≠ 64) (h66 : c ≠ 66) {N : Nat} {g : Nat → hm_Sh} {s : hm_St} {p1 : Int32} : (T_20 N g s p1).2.2.2.2 c j = s c j := by
  unfold T_20
  repeat' split
  all_goals first | with_reducible rfl | simp only [hm_w1n h64, hm_w1n h66, N_124 h64 h66]
set_option maxRecDepth 20000 in
theorem sp_20 {R : hm_R} (hR : hm_Cm R) {N L : Nat} {g : Nat → hm_Sh} {s : hm_St} {b : hm_B} {Q : hm_Q} (hN : 68 ≤ N) (hb1 : 1 ≤ b.1) (hb2 : 6 ≤ b.2) {p1 : Int32} (hE : (T_124 s) 64 1 ≤ 100000) (hq : hm_qx Q L (fun v => some (.int v)) (T_20 N g s p1)) : R 20 0 (lv_args 0 [.ref 2, .int p1]) [] (N, hm_sh L g, s) b Q := by
  unfold T_20 at hq
  show R 20 0 [(0, .ref 2), (1, .int p1)] [] (N, hm_sh L g, s) _ Q
  refine hm_st hR (hm_st hR (hm_st hR (?_)))
  refine hm_st hR ⟨hm_le rfl, hm_le rfl, hm_le rfl, (0, 0), Nat.zero_le _, Nat.zero_le _, ?_⟩
  refine sp_34 hR hN ?_
  show R 20 7 [(0, .ref 2), (1, .int p1)] [.int (T_34 s p1 0 80)] (N, hm_sh L g, s) _ Q
  show R 20 7 [(0, .ref 2), (1, .int p1)] [.int (T_34 s p1 0 80)] (N, hm_sh L g, s) _ Q
  by_cases c7 : ((T_34 s p1 0 80) : Int32) = 0
  · rw [if_pos c7] at hq
    exact hm_st hR ⟨hm_le rfl, hm_le rfl, hm_le rfl, (1, 6), (by show 1 ≤ b.1 - 0; omega), (by show 6 ≤ b.2 - 0; omega), hm_needT31 hR hN c7 (fun N2 hN2 => hm_KX (by decide) (hq N2 hN2))⟩
  · rw [if_neg c7] at hq
    refine hm_st hR ⟨hm_le rfl, hm_le rfl, hm_le rfl, (0, 0), Nat.zero_le _, Nat.zero_le _, hm_needP31 hR c7 ?_⟩
    show R 20 10 [(0, .ref 2), (1, .int p1)] [] (N, hm_sh L g, s) _ Q
    refine hm_st hR (hm_st hR ⟨rfl, hm_le rfl, (hm_ltN hN rfl), hm_st hR (hm_st hR ⟨rfl, hm_le rfl, (hm_ltN hN rfl), ?_⟩)⟩)
    refine hm_st hR ⟨hm_le rfl, rfl, (hm_le rfl), (hm_ltN hN rfl), hm_le rfl, hm_le rfl, (0, 0), Nat.zero_le _, Nat.zero_le _, ?_⟩
    refine sp_124 hR hN ?_
    show R 20 21 [(0, .ref 2), (1, .int p1)] [] (N, hm_sh L g, (T_124 s)) _ Q
    refine hm_st hR (hm_st hR ⟨rfl, hm_le rfl, (hm_ltN hN rfl), hm_st hR (?_)⟩)
    refine hm_st hR ⟨hm_le rfl, rfl, (hm_le rfl), (hm_ltN hN rfl), hm_le rfl, hm_le rfl, (0, 0), Nat.zero_le _, Nat.zero_le _, ?_⟩
    refine sp_128 hR hN hE ?_
    show R 20 29 [(0, .ref 2), (1, .int p1)] [.int (T_128 (T_124 s) p1)] (N, hm_sh L g, (T_124 s)) _ Q
    exact hm_st hR ⟨fun z => absurd z (by decide), hm_qx0 hq⟩
/-- CurvekeyHouse$Pages.machineOf(II)I -/
def T_146 (s : hm_St) (p1 : Int32) (p2 : Int32) : Int32 := (if 1 ≤ (s 42 4) then ((p1 * p2) / (s 42 4)) else 0)
set_option maxRecDepth 20000 in
theorem sp_146 {R : hm_R} (hR : hm_Cm R) {N L : Nat} {g : Nat → hm_Sh} {s : hm_St} {b : hm_B} {Q : hm_Q} (hN : 68 ≤ N) {p1 : Int32} {p2 : Int32} (hq : Q (.inr (some (.int (T_146 s p1 p2)))) (N, hm_sh L g, s)) : R 146 0 (lv_args 0 [.ref 42, .int p1, .int p2]) [] (N, hm_sh L g, s) b Q := by
  unfold T_146 at hq
  show R 146 0 [(0, .ref 42), (1, .int p1), (2, .int p2)] [] (N, hm_sh L g, s) _ Q
  refine hm_st hR (hm_st hR ⟨rfl, hm_le rfl, (hm_ltN hN rfl), hm_st hR (?_)⟩)
  show R 146 5 [(0, .ref 42), (1, .int p1), (2, .int p2)] [.int 1, .int (s 42 4)] (N, hm_sh L g, s) _ Q
  refine hm_st hR ⟨fun c5 => ?_, fun c5 => ?_⟩
  · rw [if_pos c5] at hq
    show R 146 12 [(0, .ref 42), (1, .int p1), (2, .int p2)] [] (N, hm_sh L g, s) _ Q
    refine hm_st hR (hm_st hR (hm_st hR (hm_st hR (hm_st hR ⟨rfl, hm_le rfl, (hm_ltN hN rfl), hm_st hR ⟨(hm_nz1 c5), ?_⟩⟩))))
    exact hm_st hR ⟨fun z => absurd z (by decide), hq⟩
  · rw [if_neg c5] at hq
    show R 146 8 [(0, .ref 42), (1, .int p1), (2, .int p2)] [] (N, hm_sh L g, s) _ Q
    refine hm_st hR (hm_st hR (?_))
    exact hm_st hR ⟨fun z => absurd z (by decide), hq⟩
