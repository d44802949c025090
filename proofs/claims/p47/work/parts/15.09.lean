/-! The methods as functions; the abstract machine does them. -/
/-- CurvekeyHouse$Points.soonX(III)I -/
def T_169 (s : hm_St) (p1 : Int32) (p2 : Int32) (p3 : Int32) : Int32 := (hm_max 0 (hm_min (p3 - 1) ((T_161 s p1) + (p2 * (T_163 s p1)))))
set_option maxRecDepth 20000 in
theorem sp_169 {R : hm_R} (hR : hm_Cm R) {N L : Nat} {g : Nat → hm_Sh} {s : hm_St} {b : hm_B} {Q : hm_Q} (hN : 68 ≤ N) {p1 : Int32} {p2 : Int32} {p3 : Int32} (hq : Q (.inr (some (.int (T_169 s p1 p2 p3)))) (N, hm_sh L g, s)) : R 169 0 (lv_args 0 [.ref 14, .int p1, .int p2, .int p3]) [] (N, hm_sh L g, s) b Q := by
  unfold T_169 at hq
  show R 169 0 [(0, .ref 14), (1, .int p1), (2, .int p2), (3, .int p3)] [] (N, hm_sh L g, s) _ Q
  refine hm_st hR (hm_st hR (hm_st hR (hm_st hR (hm_st hR (hm_st hR (?_))))))
  refine hm_st hR ⟨hm_le rfl, rfl, (hm_le rfl), (hm_ltN hN rfl), hm_le rfl, hm_le rfl, (0, 0), Nat.zero_le _, Nat.zero_le _, ?_⟩
  refine sp_161 hR hN ?_
  show R 169 9 [(0, .ref 14), (1, .int p1), (2, .int p2), (3, .int p3)] [.int (T_161 s p1), .int (p3 - 1), .int 0] (N, hm_sh L g, s) _ Q
  refine hm_st hR (hm_st hR (hm_st hR (?_)))
  refine hm_st hR ⟨hm_le rfl, rfl, (hm_le rfl), (hm_ltN hN rfl), hm_le rfl, hm_le rfl, (0, 0), Nat.zero_le _, Nat.zero_le _, ?_⟩
  refine sp_163 hR hN ?_
  show R 169 15 [(0, .ref 14), (1, .int p1), (2, .int p2), (3, .int p3)] [.int (T_163 s p1), .int p2, .int (T_161 s p1), .int (p3 - 1), .int 0] (N, hm_sh L g, s) _ Q
  refine hm_st hR (hm_st hR (hm_st hR ⟨hm_le rfl, ?_⟩))
  show R 169 20 [(0, .ref 14), (1, .int p1), (2, .int p2), (3, .int p3)] [.int (hm_min (p3 - 1) ((T_161 s p1) + (p2 * (T_163 s p1)))), .int 0] (N, hm_sh L g, s) _ Q
  refine hm_st hR ⟨hm_le rfl, ?_⟩
  show R 169 23 [(0, .ref 14), (1, .int p1), (2, .int p2), (3, .int p3)] [.int (hm_max 0 (hm_min (p3 - 1) ((T_161 s p1) + (p2 * (T_163 s p1)))))] (N, hm_sh L g, s) _ Q
  exact hm_st hR ⟨fun z => absurd z (by decide), hq⟩
/-- CurvekeyHouse$Points.soonY(III)I -/
def T_170 (s : hm_St) (p1 : Int32) (p2 : Int32) (p3 : Int32) : Int32 := (hm_max 0 (hm_min (p3 - 1) ((T_162 s p1) + (p2 * (T_164 s p1)))))
set_option maxRecDepth 20000 in
theorem sp_170 {R : hm_R} (hR : hm_Cm R) {N L : Nat} {g : Nat → hm_Sh} {s : hm_St} {b : hm_B} {Q : hm_Q} (hN : 68 ≤ N) {p1 : Int32} {p2 : Int32} {p3 : Int32} (hq : Q (.inr (some (.int (T_170 s p1 p2 p3)))) (N, hm_sh L g, s)) : R 170 0 (lv_args 0 [.ref 14, .int p1, .int p2, .int p3]) [] (N, hm_sh L g, s) b Q := by
  unfold T_170 at hq
  show R 170 0 [(0, .ref 14), (1, .int p1), (2, .int p2), (3, .int p3)] [] (N, hm_sh L g, s) _ Q
  refine hm_st hR (hm_st hR (hm_st hR (hm_st hR (hm_st hR (hm_st hR (?_))))))
  refine hm_st hR ⟨hm_le rfl, rfl, (hm_le rfl), (hm_ltN hN rfl), hm_le rfl, hm_le rfl, (0, 0), Nat.zero_le _, Nat.zero_le _, ?_⟩
  refine sp_162 hR hN ?_
  show R 170 9 [(0, .ref 14), (1, .int p1), (2, .int p2), (3, .int p3)] [.int (T_162 s p1), .int (p3 - 1), .int 0] (N, hm_sh L g, s) _ Q
  refine hm_st hR (hm_st hR (hm_st hR (?_)))
  refine hm_st hR ⟨hm_le rfl, rfl, (hm_le rfl), (hm_ltN hN rfl), hm_le rfl, hm_le rfl, (0, 0), Nat.zero_le _, Nat.zero_le _, ?_⟩
  refine sp_164 hR hN ?_
  show R 170 15 [(0, .ref 14), (1, .int p1), (2, .int p2), (3, .int p3)] [.int (T_164 s p1), .int p2, .int (T_162 s p1), .int (p3 - 1), .int 0] (N, hm_sh L g, s) _ Q
  refine hm_st hR (hm_st hR (hm_st hR ⟨hm_le rfl, ?_⟩))
  show R 170 20 [(0, .ref 14), (1, .int p1), (2, .int p2), (3, .int p3)] [.int (hm_min (p3 - 1) ((T_162 s p1) + (p2 * (T_164 s p1)))), .int 0] (N, hm_sh L g, s) _ Q
  refine hm_st hR ⟨hm_le rfl, ?_⟩
  show R 170 23 [(0, .ref 14), (1, .int p1), (2, .int p2), (3, .int p3)] [.int (hm_max 0 (hm_min (p3 - 1) ((T_162 s p1) + (p2 * (T_164 s p1)))))] (N, hm_sh L g, s) _ Q
  exact hm_st hR ⟨fun z => absurd z (by decide), hq⟩
def T_171_6 (bx : Nat) : Nat → hm_St → Int32 → Int32 → Int32 → Int32 → Int32
  | 0, s, _, _, _, _ => 0
  | n + 1, s, v2, v3, v4, v5 => (if (s 14 5) ≤ v5 then v4 else (if (T_160 s v5) = 0 then (T_171_6 bx n s v2 v3 v4 (v5 + 1)) else (if (T_66 s bx (T_169 s v5 v2 v3) (T_170 s v5 v2 v3)) = 0 then (T_171_6 bx n s v2 v3 v4 (v5 + 1)) else (T_171_6 bx n s v2 v3 (v4 + 1) (v5 + 1)))))
/-- CurvekeyHouse$Points.soonIn(LCurvekeyHouse$Box;II)I -/
def T_171 (s : hm_St) (bx : Nat) (p2 : Int32) (p3 : Int32) : Int32 := (T_171_6 bx (hm_df (s 14 5) 0 + 1) s p2 p3 0 0)
set_option maxRecDepth 20000 in
theorem lp_171_6 {R : hm_R} (hR : hm_Cm R) {N L : Nat} {g : Nat → hm_Sh} {b : hm_B} {Q : hm_Q} (hN : 68 ≤ N) {bx : Nat} (hbk : (hm_sh L g bx).1 = 0) (hb2 : 2 ≤ bx) (hbl : bx < N) : ∀ (n : Nat) (s : hm_St) (v2 : Int32) (v3 : Int32) (v4 : Int32) (v5 : Int32), hm_df (s 14 5) v5 < n → (hq : Q (.inr (some (.int (T_171_6 bx n s v2 v3 v4 v5)))) (N, hm_sh L g, s)) → R 171 6 [(5, .int v5), (4, .int v4), (0, .ref 14), (1, .ref bx), (2, .int v2), (3, .int v3)] [] (N, hm_sh L g, s) b Q := by
  intro n
  induction n with
  | zero => intro s v2 v3 v4 v5 hm _; exact absurd hm (Nat.not_lt_zero _)
  | succ n ih =>
    intro s v2 v3 v4 v5 hm hq
    unfold T_171_6 at hq
    refine hm_st hR (hm_st hR (hm_st hR ⟨rfl, hm_le rfl, (hm_ltN hN rfl), ?_⟩))
    show R 171 12 [(5, .int v5), (4, .int v4), (0, .ref 14), (1, .ref bx), (2, .int v2), (3, .int v3)] [.int (s 14 5), .int v5] (N, hm_sh L g, s) _ Q
    refine hm_st hR ⟨fun c12 => ?_, fun c12 => ?_⟩
    · rw [if_pos c12] at hq
      show R 171 56 [(5, .int v5), (4, .int v4), (0, .ref 14), (1, .ref bx), (2, .int v2), (3, .int v3)] [] (N, hm_sh L g, s) _ Q
      refine hm_st hR (?_)
      exact hm_st hR ⟨fun z => absurd z (by decide), hq⟩
    · rw [if_neg c12] at hq
      show R 171 15 [(5, .int v5), (4, .int v4), (0, .ref 14), (1, .ref bx), (2, .int v2), (3, .int v3)] [] (N, hm_sh L g, s) _ Q
      refine hm_st hR (hm_st hR (?_))
      refine hm_st hR ⟨hm_le rfl, rfl, (hm_le rfl), (hm_ltN hN rfl), hm_le rfl, hm_le rfl, (0, 0), Nat.zero_le _, Nat.zero_le _, ?_⟩
      refine sp_160 hR hN ?_
      show R 171 21 [(5, .int v5), (4, .int v4), (0, .ref 14), (1, .ref bx), (2, .int v2), (3, .int v3)] [.int (T_160 s v5)] (N, hm_sh L g, s) _ Q
      show R 171 21 [(5, .int v5), (4, .int v4), (0, .ref 14), (1, .ref bx), (2, .int v2), (3, .int v3)] [.int (T_160 s v5)] (N, hm_sh L g, s) _ Q
      refine hm_st hR ⟨fun c21 => ?_, fun c21 => ?_⟩
      · rw [if_pos c21] at hq
        show R 171 50 [(5, .int v5), (4, .int v4), (0, .ref 14), (1, .ref bx), (2, .int v2), (3, .int v3)] [] (N, hm_sh L g, s) _ Q
        refine hm_st hR (hm_st hR (?_))
        show R 171 6 [(5, .int (v5 + 1)), (4, .int v4), (0, .ref 14), (1, .ref bx), (2, .int v2), (3, .int v3)] [] (N, hm_sh L g, s) _ Q
        exact hm_lvS hR (by intro q hq; simp only [List.mem_cons, List.not_mem_nil, or_false] at hq ⊢; rcases hq with rfl | rfl | rfl | rfl | rfl | rfl <;> simp) (ih s v2 v3 v4 (v5 + 1) (hm_dcx c12 hm) hq)
      · rw [if_neg c21] at hq
        show R 171 24 [(5, .int v5), (4, .int v4), (0, .ref 14), (1, .ref bx), (2, .int v2), (3, .int v3)] [] (N, hm_sh L g, s) _ Q
        refine hm_st hR (hm_st hR (hm_st hR (hm_st hR (hm_st hR (?_)))))
        refine hm_st hR ⟨hm_le rfl, rfl, (hm_le rfl), (hm_ltN hN rfl), hm_le rfl, hm_le rfl, (0, 0), Nat.zero_le _, Nat.zero_le _, ?_⟩
        refine sp_169 hR hN ?_
        show R 171 33 [(5, .int v5), (4, .int v4), (0, .ref 14), (1, .ref bx), (2, .int v2), (3, .int v3)] [.int (T_169 s v5 v2 v3), .ref bx] (N, hm_sh L g, s) _ Q
        refine hm_st hR (hm_st hR (hm_st hR (hm_st hR (?_))))
        refine hm_st hR ⟨hm_le rfl, rfl, (hm_le rfl), (hm_ltN hN rfl), hm_le rfl, hm_le rfl, (0, 0), Nat.zero_le _, Nat.zero_le _, ?_⟩
        refine sp_170 hR hN ?_
        show R 171 41 [(5, .int v5), (4, .int v4), (0, .ref 14), (1, .ref bx), (2, .int v2), (3, .int v3)] [.int (T_170 s v5 v2 v3), .int (T_169 s v5 v2 v3), .ref bx] (N, hm_sh L g, s) _ Q
        refine hm_st hR ⟨hm_le rfl, hbk, hb2, hbl, hm_le rfl, hm_le rfl, (0, 0), Nat.zero_le _, Nat.zero_le _, ?_⟩
        refine sp_66 hR hN (bx := bx) hbk hb2 hbl ?_
        show R 171 44 [(5, .int v5), (4, .int v4), (0, .ref 14), (1, .ref bx), (2, .int v2), (3, .int v3)] [.int (T_66 s bx (T_169 s v5 v2 v3) (T_170 s v5 v2 v3))] (N, hm_sh L g, s) _ Q
        show R 171 44 [(5, .int v5), (4, .int v4), (0, .ref 14), (1, .ref bx), (2, .int v2), (3, .int v3)] [.int (T_66 s bx (T_169 s v5 v2 v3) (T_170 s v5 v2 v3))] (N, hm_sh L g, s) _ Q
        refine hm_st hR ⟨fun c44 => ?_, fun c44 => ?_⟩
        · rw [if_pos c44] at hq
          show R 171 50 [(5, .int v5), (4, .int v4), (0, .ref 14), (1, .ref bx), (2, .int v2), (3, .int v3)] [] (N, hm_sh L g, s) _ Q
          refine hm_st hR (hm_st hR (?_))
          show R 171 6 [(5, .int (v5 + 1)), (4, .int v4), (0, .ref 14), (1, .ref bx), (2, .int v2), (3, .int v3)] [] (N, hm_sh L g, s) _ Q
          exact hm_lvS hR (by intro q hq; simp only [List.mem_cons, List.not_mem_nil, or_false] at hq ⊢; rcases hq with rfl | rfl | rfl | rfl | rfl | rfl <;> simp) (ih s v2 v3 v4 (v5 + 1) (hm_dcx c12 hm) hq)
        · rw [if_neg c44] at hq
          show R 171 47 [(5, .int v5), (4, .int v4), (0, .ref 14), (1, .ref bx), (2, .int v2), (3, .int v3)] [] (N, hm_sh L g, s) _ Q
          refine hm_st hR (hm_st hR (hm_st hR (?_)))
          show R 171 6 [(5, .int (v5 + 1)), (4, .int (v4 + 1)), (0, .ref 14), (1, .ref bx), (2, .int v2), (3, .int v3)] [] (N, hm_sh L g, s) _ Q
          exact hm_lvS hR (by intro q hq; simp only [List.mem_cons, List.not_mem_nil, or_false] at hq ⊢; rcases hq with rfl | rfl | rfl | rfl | rfl | rfl <;> simp) (ih s v2 v3 (v4 + 1) (v5 + 1) (hm_dcx c12 hm) hq)
set_option maxRecDepth 20000 in
theorem sp_171 {R : hm_R} (hR : hm_Cm R) {N L : Nat} {g : Nat → hm_Sh} {s : hm_St} {b : hm_B} {Q : hm_Q} (hN : 68 ≤ N) {bx : Nat} (hbk : (hm_sh L g bx).1 = 0) (hb2 : 2 ≤ bx) (hbl : bx < N) {p2 : Int32} {p3 : Int32} (hq : Q (.inr (some (.int (T_171 s bx p2 p3)))) (N, hm_sh L g, s)) : R 171 0 (lv_args 0 [.ref 14, .ref bx, .int p2, .int p3]) [] (N, hm_sh L g, s) b Q := by
  unfold T_171 at hq
  show R 171 0 [(0, .ref 14), (1, .ref bx), (2, .int p2), (3, .int p3)] [] (N, hm_sh L g, s) _ Q
  refine hm_st hR (hm_st hR (hm_st hR (hm_st hR (?_))))
  show R 171 6 [(5, .int 0), (4, .int 0), (0, .ref 14), (1, .ref bx), (2, .int p2), (3, .int p3)] [] (N, hm_sh L g, s) _ Q
  exact lp_171_6 hR hN hbk hb2 hbl _ _ _ _ _ _ (Nat.lt_succ_self _) hq
/-- CurvekeyHouse.soon(IIIII)I -/
def T_14 (N : Nat) (g : Nat → hm_Sh) (s : hm_St) (p1 : Int32) (p2 : Int32) (p3 : Int32) (p4 : Int32) (p5 : Int32) : hm_Er Int32 := (if (T_38 s p1 p2 p3 p4) = 0 then (1, 0, N, g, s) else (if ((if (T_34 s p5 0 40) = 0 then (0 : Int32) else 1) : Int32) = 0 then (1, 0, N, g, s) else (0, (T_171 (T_65 (hm_sn s N) N p1 p2 p3 p4) N p5 (T_86 (T_65 (hm_sn s N) N p1 p2 p3 p4))), (N + 1), (hm_gb g N), (T_65 (hm_sn s N) N p1 p2 p3 p4))))
set_option maxRecDepth 20000 in
theorem sp_14 {R : hm_R} (hR : hm_Cm R) {N L : Nat} {g : Nat → hm_Sh} {s : hm_St} {b : hm_B} {Q : hm_Q} (hN : 68 ≤ N) (hb1 : 2 ≤ b.1) (hb2 : 10 ≤ b.2) {p1 : Int32} {p2 : Int32} {p3 : Int32} {p4 : Int32} {p5 : Int32} (hq : hm_qx Q L (fun v => some (.int v)) (T_14 N g s p1 p2 p3 p4 p5)) : R 14 0 (lv_args 0 [.ref 2, .int p1, .int p2, .int p3, .int p4, .int p5]) [] (N, hm_sh L g, s) b Q := by
  unfold T_14 at hq
  show R 14 0 [(0, .ref 2), (1, .int p1), (2, .int p2), (3, .int p3), (4, .int p4), (5, .int p5)] [] (N, hm_sh L g, s) _ Q
  refine hm_st hR (hm_st hR (hm_st hR (hm_st hR (hm_st hR (?_)))))
  refine hm_st hR ⟨hm_le rfl, rfl, (hm_le rfl), (hm_ltN hN rfl), hm_le rfl, hm_le rfl, (0, 0), Nat.zero_le _, Nat.zero_le _, ?_⟩
  refine sp_38 hR hN ?_
  show R 14 9 [(0, .ref 2), (1, .int p1), (2, .int p2), (3, .int p3), (4, .int p4), (5, .int p5)] [.int (T_38 s p1 p2 p3 p4)] (N, hm_sh L g, s) _ Q
  show R 14 9 [(0, .ref 2), (1, .int p1), (2, .int p2), (3, .int p3), (4, .int p4), (5, .int p5)] [.int (T_38 s p1 p2 p3 p4)] (N, hm_sh L g, s) _ Q
  refine hm_st hR ⟨fun c9 => ?_, fun c9 => ?_⟩
  · rw [if_pos c9] at hq
    show R 14 27 [(0, .ref 2), (1, .int p1), (2, .int p2), (3, .int p3), (4, .int p4), (5, .int p5)] [] (N, hm_sh L g, s) _ Q
    refine hm_st hR (?_)
    show R 14 28 [(0, .ref 2), (1, .int p1), (2, .int p2), (3, .int p3), (4, .int p4), (5, .int p5)] [.int 0] (N, hm_sh L g, s) _ Q
    exact hm_st hR ⟨hm_le rfl, hm_le rfl, hm_le rfl, (1, 6), (by show 1 ≤ b.1 - 0; omega), (by show 6 ≤ b.2 - 0; omega), hm_needT31 hR hN rfl (fun N2 hN2 => hm_KX (by decide) (hq N2 hN2))⟩
  · rw [if_neg c9] at hq
    show R 14 12 [(0, .ref 2), (1, .int p1), (2, .int p2), (3, .int p3), (4, .int p4), (5, .int p5)] [] (N, hm_sh L g, s) _ Q
    refine hm_st hR (hm_st hR (hm_st hR (?_)))
    refine hm_st hR ⟨hm_le rfl, hm_le rfl, hm_le rfl, (0, 0), Nat.zero_le _, Nat.zero_le _, ?_⟩
    refine sp_34 hR hN ?_
    show R 14 20 [(0, .ref 2), (1, .int p1), (2, .int p2), (3, .int p3), (4, .int p4), (5, .int p5)] [.int (T_34 s p5 0 40)] (N, hm_sh L g, s) _ Q
    show R 14 20 [(0, .ref 2), (1, .int p1), (2, .int p2), (3, .int p3), (4, .int p4), (5, .int p5)] [.int (T_34 s p5 0 40)] (N, hm_sh L g, s) _ Q
    suffices G : ∀ w : Int32, w = (if (T_34 s p5 0 40) = 0 then (0 : Int32) else 1) → R 14 28 [(0, .ref 2), (1, .int p1), (2, .int p2), (3, .int p3), (4, .int p4), (5, .int p5)] [.int w] (N, hm_sh L g, s) (b.1 - 0 - 0, b.2 - 0 - 0) Q by
      show R 14 20 [(0, .ref 2), (1, .int p1), (2, .int p2), (3, .int p3), (4, .int p4), (5, .int p5)] [.int (T_34 s p5 0 40)] (N, hm_sh L g, s) _ Q
      refine hm_st hR ⟨fun c => ?_, fun c => ?_⟩
      · exact hm_st hR (G _ (if_pos c).symm)
      · exact hm_st hR (hm_st hR (G _ (if_neg c).symm))
    intro w hw
    subst hw
    show R 14 28 [(0, .ref 2), (1, .int p1), (2, .int p2), (3, .int p3), (4, .int p4), (5, .int p5)] [.int (if (T_34 s p5 0 40) = 0 then (0 : Int32) else 1)] (N, hm_sh L g, s) _ Q
    show R 14 28 [(0, .ref 2), (1, .int p1), (2, .int p2), (3, .int p3), (4, .int p4), (5, .int p5)] [.int (if (T_34 s p5 0 40) = 0 then (0 : Int32) else 1)] (N, hm_sh L g, s) _ Q
    by_cases c28 : ((if (T_34 s p5 0 40) = 0 then (0 : Int32) else 1) : Int32) = 0
    · rw [if_pos c28] at hq
      exact hm_st hR ⟨hm_le rfl, hm_le rfl, hm_le rfl, (1, 6), (by show 1 ≤ b.1 - 0 - 0; omega), (by show 6 ≤ b.2 - 0 - 0; omega), hm_needT31 hR hN c28 (fun N2 hN2 => hm_KX (by decide) (hq N2 hN2))⟩
    · rw [if_neg c28] at hq
      refine hm_st hR ⟨hm_le rfl, hm_le rfl, hm_le rfl, (0, 0), Nat.zero_le _, Nat.zero_le _, hm_needP31 hR c28 ?_⟩
      show R 14 31 [(0, .ref 2), (1, .int p1), (2, .int p2), (3, .int p3), (4, .int p4), (5, .int p5)] [] (N, hm_sh L g, s) _ Q
      refine hm_st hR (hm_st hR ⟨rfl, hm_le rfl, (hm_ltN hN rfl), ?_⟩)
      show R 14 35 [(0, .ref 2), (1, .int p1), (2, .int p2), (3, .int p3), (4, .int p4), (5, .int p5)] [.ref 14] (N, hm_sh L g, s) _ Q
      refine hm_nwb hR hN (by show 1 ≤ b.1 - 0 - 0 - 0; omega) (by show 4 ≤ b.2 - 0 - 0 - 0; omega) (by rfl) ?_
      have hbk1 : (hm_sh L (hm_gb g N) N).1 = 0 := hm_gbk hN
      have hbt1 : 2 ≤ N := hm_two hN
      have hbl1 : N < N + 1 := Nat.lt_succ_self _
      show R 14 38 [(0, .ref 2), (1, .int p1), (2, .int p2), (3, .int p3), (4, .int p4), (5, .int p5)] [.ref N, .ref 14] ((N + 1), hm_sh L (hm_gb g N), (hm_sn s N)) _ Q
      refine hm_st hR ⟨rfl, hm_st hR (hm_st hR (hm_st hR (hm_st hR (?_))))⟩
      refine hm_st hR ⟨hm_le rfl, hbt1, hm_le rfl, hm_le rfl, (0, 0), Nat.zero_le _, Nat.zero_le _, ?_⟩
      refine sp_65 hR (Nat.le_succ_of_le hN) (bx := N) hbk1 hbt1 hbl1 ?_
      show R 14 47 [(0, .ref 2), (1, .int p1), (2, .int p2), (3, .int p3), (4, .int p4), (5, .int p5)] [.ref N, .ref 14] ((N + 1), hm_sh L (hm_gb g N), (T_65 (hm_sn s N) N p1 p2 p3 p4)) _ Q
      refine hm_st hR (hm_st hR (hm_st hR ⟨rfl, hm_le rfl, (hm_ltN (Nat.le_succ_of_le hN) rfl), ?_⟩))
      refine hm_st hR ⟨hm_le rfl, rfl, (hm_le rfl), (hm_ltN (Nat.le_succ_of_le hN) rfl), hm_le rfl, hm_le rfl, (0, 0), Nat.zero_le _, Nat.zero_le _, ?_⟩
      refine sp_86 hR (Nat.le_succ_of_le hN) ?_
      show R 14 56 [(0, .ref 2), (1, .int p1), (2, .int p2), (3, .int p3), (4, .int p4), (5, .int p5)] [.int (T_86 (T_65 (hm_sn s N) N p1 p2 p3 p4)), .int p5, .ref N, .ref 14] ((N + 1), hm_sh L (hm_gb g N), (T_65 (hm_sn s N) N p1 p2 p3 p4)) _ Q
      refine hm_st hR ⟨hm_le rfl, rfl, (hm_le rfl), (hm_ltN (Nat.le_succ_of_le hN) rfl), hm_le rfl, hm_le rfl, (0, 0), Nat.zero_le _, Nat.zero_le _, ?_⟩
      refine sp_171 hR (Nat.le_succ_of_le hN) (bx := N) hbk1 hbt1 hbl1 ?_
      show R 14 59 [(0, .ref 2), (1, .int p1), (2, .int p2), (3, .int p3), (4, .int p4), (5, .int p5)] [.int (T_171 (T_65 (hm_sn s N) N p1 p2 p3 p4) N p5 (T_86 (T_65 (hm_sn s N) N p1 p2 p3 p4)))] ((N + 1), hm_sh L (hm_gb g N), (T_65 (hm_sn s N) N p1 p2 p3 p4)) _ Q
      exact hm_st hR ⟨fun z => absurd z (by decide), hm_qx0 hq⟩
/-- CurvekeyHouse$Points.farFrom(III)I -/
def T_172 (s : hm_St) (p1 : Int32) (p2 : Int32) (p3 : Int32) : Int32 := ((((T_161 s p1) - p2) * ((T_161 s p1) - p2)) + (((T_162 s p1) - p3) * ((T_162 s p1) - p3)))
set_option maxRecDepth 20000 in
theorem sp_172 {R : hm_R} (hR : hm_Cm R) {N L : Nat} {g : Nat → hm_Sh} {s : hm_St} {b : hm_B} {Q : hm_Q} (hN : 68 ≤ N) {p1 : Int32} {p2 : Int32} {p3 : Int32} (hq : Q (.inr (some (.int (T_172 s p1 p2 p3)))) (N, hm_sh L g, s)) : R 172 0 (lv_args 0 [.ref 14, .int p1, .int p2, .int p3]) [] (N, hm_sh L g, s) b Q := by
  unfold T_172 at hq
  show R 172 0 [(0, .ref 14), (1, .int p1), (2, .int p2), (3, .int p3)] [] (N, hm_sh L g, s) _ Q
  refine hm_st hR (hm_st hR (?_))
  refine hm_st hR ⟨hm_le rfl, rfl, (hm_le rfl), (hm_ltN hN rfl), hm_le rfl, hm_le rfl, (0, 0), Nat.zero_le _, Nat.zero_le _, ?_⟩
  refine sp_161 hR hN ?_
  show R 172 5 [(0, .ref 14), (1, .int p1), (2, .int p2), (3, .int p3)] [.int (T_161 s p1)] (N, hm_sh L g, s) _ Q
  refine hm_st hR (hm_st hR (hm_st hR (hm_st hR (hm_st hR (?_)))))
  refine hm_st hR ⟨hm_le rfl, rfl, (hm_le rfl), (hm_ltN hN rfl), hm_le rfl, hm_le rfl, (0, 0), Nat.zero_le _, Nat.zero_le _, ?_⟩
  refine sp_162 hR hN ?_
  show R 172 14 [(4, .int ((T_161 s p1) - p2)), (0, .ref 14), (1, .int p1), (2, .int p2), (3, .int p3)] [.int (T_162 s p1)] (N, hm_sh L g, s) _ Q
  refine hm_st hR (hm_st hR (hm_st hR (hm_st hR (hm_st hR (hm_st hR (hm_st hR (hm_st hR (hm_st hR (hm_st hR (?_))))))))))
  exact hm_st hR ⟨fun z => absurd z (by decide), hq⟩
def T_174_15 : Nat → hm_St → Int32 → Int32 → Int32 → Int32 → Int32 → Int32 → Int32
  | 0, s, _, _, _, _, _, _ => 0
  | n + 1, s, v1, v2, v3, v4, v5, v6 => (if (s 14 5) ≤ v6 then v5 else (if (T_160 s v6) = 0 then (T_174_15 n s v1 v2 v3 v4 v5 (v6 + 1)) else (if (T_172 s v6 v2 v3) < v4 then (T_174_15 n s v1 v2 v3 v4 (v5 + 1) (v6 + 1)) else (if (T_172 s v6 v2 v3) = v4 then (if v1 ≤ v6 then (T_174_15 n s v1 v2 v3 v4 v5 (v6 + 1)) else (T_174_15 n s v1 v2 v3 v4 (v5 + 1) (v6 + 1))) else (T_174_15 n s v1 v2 v3 v4 v5 (v6 + 1))))))
/-- CurvekeyHouse$Points.nearerThan(III)I -/
def T_174 (s : hm_St) (p1 : Int32) (p2 : Int32) (p3 : Int32) : Int32 := (T_174_15 (hm_df (s 14 5) 0 + 1) s p1 p2 p3 (T_172 s p1 p2 p3) 0 0)
set_option maxRecDepth 20000 in
theorem lp_174_15 {R : hm_R} (hR : hm_Cm R) {N L : Nat} {g : Nat → hm_Sh} {b : hm_B} {Q : hm_Q} (hN : 68 ≤ N) : ∀ (n : Nat) (s : hm_St) (v1 : Int32) (v2 : Int32) (v3 : Int32) (v4 : Int32) (v5 : Int32) (v6 : Int32), hm_df (s 14 5) v6 < n → (hq : Q (.inr (some (.int (T_174_15 n s v1 v2 v3 v4 v5 v6)))) (N, hm_sh L g, s)) → R 174 15 [(6, .int v6), (5, .int v5), (4, .int v4), (0, .ref 14), (1, .int v1), (2, .int v2), (3, .int v3)] [] (N, hm_sh L g, s) b Q := by
  intro n
  induction n with
  | zero => intro s v1 v2 v3 v4 v5 v6 hm _; exact absurd hm (Nat.not_lt_zero _)
  | succ n ih =>
    intro s v1 v2 v3 v4 v5 v6 hm hq
    unfold T_174_15 at hq
    refine hm_st hR (hm_st hR (hm_st hR ⟨rfl, hm_le rfl, (hm_ltN hN rfl), ?_⟩))
    show R 174 21 [(6, .int v6), (5, .int v5), (4, .int v4), (0, .ref 14), (1, .int v1), (2, .int v2), (3, .int v3)] [.int (s 14 5), .int v6] (N, hm_sh L g, s) _ Q
    refine hm_st hR ⟨fun c21 => ?_, fun c21 => ?_⟩
    · rw [if_pos c21] at hq
      show R 174 72 [(6, .int v6), (5, .int v5), (4, .int v4), (0, .ref 14), (1, .int v1), (2, .int v2), (3, .int v3)] [] (N, hm_sh L g, s) _ Q
      refine hm_st hR (?_)
      exact hm_st hR ⟨fun z => absurd z (by decide), hq⟩
    · rw [if_neg c21] at hq
      show R 174 24 [(6, .int v6), (5, .int v5), (4, .int v4), (0, .ref 14), (1, .int v1), (2, .int v2), (3, .int v3)] [] (N, hm_sh L g, s) _ Q
      refine hm_st hR (hm_st hR (hm_st hR (hm_st hR (?_))))
      refine hm_st hR ⟨hm_le rfl, rfl, (hm_le rfl), (hm_ltN hN rfl), hm_le rfl, hm_le rfl, (0, 0), Nat.zero_le _, Nat.zero_le _, ?_⟩
      refine sp_172 hR hN ?_
      show R 174 32 [(6, .int v6), (5, .int v5), (4, .int v4), (0, .ref 14), (1, .int v1), (2, .int v2), (3, .int v3)] [.int (T_172 s v6 v2 v3)] (N, hm_sh L g, s) _ Q
      refine hm_st hR (hm_st hR (hm_st hR (?_)))
      refine hm_st hR ⟨hm_le rfl, rfl, (hm_le rfl), (hm_ltN hN rfl), hm_le rfl, hm_le rfl, (0, 0), Nat.zero_le _, Nat.zero_le _, ?_⟩
      refine sp_160 hR hN ?_
      show R 174 40 [(7, .int (T_172 s v6 v2 v3)), (6, .int v6), (5, .int v5), (4, .int v4), (0, .ref 14), (1, .int v1), (2, .int v2), (3, .int v3)] [.int (T_160 s v6)] (N, hm_sh L g, s) _ Q
      show R 174 40 [(7, .int (T_172 s v6 v2 v3)), (6, .int v6), (5, .int v5), (4, .int v4), (0, .ref 14), (1, .int v1), (2, .int v2), (3, .int v3)] [.int (T_160 s v6)] (N, hm_sh L g, s) _ Q
      refine hm_st hR ⟨fun c40 => ?_, fun c40 => ?_⟩
      · rw [if_pos c40] at hq
        show R 174 66 [(7, .int (T_172 s v6 v2 v3)), (6, .int v6), (5, .int v5), (4, .int v4), (0, .ref 14), (1, .int v1), (2, .int v2), (3, .int v3)] [] (N, hm_sh L g, s) _ Q
        refine hm_st hR (hm_st hR (?_))
        show R 174 15 [(6, .int (v6 + 1)), (7, .int (T_172 s v6 v2 v3)), (5, .int v5), (4, .int v4), (0, .ref 14), (1, .int v1), (2, .int v2), (3, .int v3)] [] (N, hm_sh L g, s) _ Q
        exact hm_lvS hR (by intro q hq; simp only [List.mem_cons, List.not_mem_nil, or_false] at hq ⊢; rcases hq with rfl | rfl | rfl | rfl | rfl | rfl | rfl <;> simp) (ih s v1 v2 v3 v4 v5 (v6 + 1) (hm_dcx c21 hm) hq)
      · rw [if_neg c40] at hq
        show R 174 43 [(7, .int (T_172 s v6 v2 v3)), (6, .int v6), (5, .int v5), (4, .int v4), (0, .ref 14), (1, .int v1), (2, .int v2), (3, .int v3)] [] (N, hm_sh L g, s) _ Q
        refine hm_st hR (hm_st hR (?_))
        show R 174 47 [(7, .int (T_172 s v6 v2 v3)), (6, .int v6), (5, .int v5), (4, .int v4), (0, .ref 14), (1, .int v1), (2, .int v2), (3, .int v3)] [.int v4, .int (T_172 s v6 v2 v3)] (N, hm_sh L g, s) _ Q
        refine hm_st hR ⟨fun c47 => ?_, fun c47 => ?_⟩
        · rw [if_pos c47] at hq
          show R 174 63 [(7, .int (T_172 s v6 v2 v3)), (6, .int v6), (5, .int v5), (4, .int v4), (0, .ref 14), (1, .int v1), (2, .int v2), (3, .int v3)] [] (N, hm_sh L g, s) _ Q
          refine hm_st hR (hm_st hR (hm_st hR (?_)))
          show R 174 15 [(6, .int (v6 + 1)), (5, .int (v5 + 1)), (7, .int (T_172 s v6 v2 v3)), (4, .int v4), (0, .ref 14), (1, .int v1), (2, .int v2), (3, .int v3)] [] (N, hm_sh L g, s) _ Q
          exact hm_lvS hR (by intro q hq; simp only [List.mem_cons, List.not_mem_nil, or_false] at hq ⊢; rcases hq with rfl | rfl | rfl | rfl | rfl | rfl | rfl <;> simp) (ih s v1 v2 v3 v4 (v5 + 1) (v6 + 1) (hm_dcx c21 hm) hq)
        · rw [if_neg c47] at hq
          show R 174 50 [(7, .int (T_172 s v6 v2 v3)), (6, .int v6), (5, .int v5), (4, .int v4), (0, .ref 14), (1, .int v1), (2, .int v2), (3, .int v3)] [] (N, hm_sh L g, s) _ Q
          refine hm_st hR (hm_st hR (?_))
          show R 174 54 [(7, .int (T_172 s v6 v2 v3)), (6, .int v6), (5, .int v5), (4, .int v4), (0, .ref 14), (1, .int v1), (2, .int v2), (3, .int v3)] [.int v4, .int (T_172 s v6 v2 v3)] (N, hm_sh L g, s) _ Q
          refine hm_st hR ⟨fun c54 => ?_, fun c54 => ?_⟩
          · rw [if_neg c54] at hq
            show R 174 66 [(7, .int (T_172 s v6 v2 v3)), (6, .int v6), (5, .int v5), (4, .int v4), (0, .ref 14), (1, .int v1), (2, .int v2), (3, .int v3)] [] (N, hm_sh L g, s) _ Q
            refine hm_st hR (hm_st hR (?_))
            show R 174 15 [(6, .int (v6 + 1)), (7, .int (T_172 s v6 v2 v3)), (5, .int v5), (4, .int v4), (0, .ref 14), (1, .int v1), (2, .int v2), (3, .int v3)] [] (N, hm_sh L g, s) _ Q
            exact hm_lvS hR (by intro q hq; simp only [List.mem_cons, List.not_mem_nil, or_false] at hq ⊢; rcases hq with rfl | rfl | rfl | rfl | rfl | rfl | rfl <;> simp) (ih s v1 v2 v3 v4 v5 (v6 + 1) (hm_dcx c21 hm) hq)
          · rw [if_pos c54] at hq
            show R 174 57 [(7, .int (T_172 s v6 v2 v3)), (6, .int v6), (5, .int v5), (4, .int v4), (0, .ref 14), (1, .int v1), (2, .int v2), (3, .int v3)] [] (N, hm_sh L g, s) _ Q
            refine hm_st hR (hm_st hR (?_))
            show R 174 60 [(7, .int (T_172 s v6 v2 v3)), (6, .int v6), (5, .int v5), (4, .int v4), (0, .ref 14), (1, .int v1), (2, .int v2), (3, .int v3)] [.int v1, .int v6] (N, hm_sh L g, s) _ Q
            refine hm_st hR ⟨fun c60 => ?_, fun c60 => ?_⟩
            · rw [if_pos c60] at hq
              show R 174 66 [(7, .int (T_172 s v6 v2 v3)), (6, .int v6), (5, .int v5), (4, .int v4), (0, .ref 14), (1, .int v1), (2, .int v2), (3, .int v3)] [] (N, hm_sh L g, s) _ Q
              refine hm_st hR (hm_st hR (?_))
              show R 174 15 [(6, .int (v6 + 1)), (7, .int (T_172 s v6 v2 v3)), (5, .int v5), (4, .int v4), (0, .ref 14), (1, .int v1), (2, .int v2), (3, .int v3)] [] (N, hm_sh L g, s) _ Q
              exact hm_lvS hR (by intro q hq; simp only [List.mem_cons, List.not_mem_nil, or_false] at hq ⊢; rcases hq with rfl | rfl | rfl | rfl | rfl | rfl | rfl <;> simp) (ih s v1 v2 v3 v4 v5 (v6 + 1) (hm_dcx c21 hm) hq)
            · rw [if_neg c60] at hq
              show R 174 63 [(7, .int (T_172 s v6 v2 v3)), (6, .int v6), (5, .int v5), (4, .int v4), (0, .ref 14), (1, .int v1), (2, .int v2), (3, .int v3)] [] (N, hm_sh L g, s) _ Q
              refine hm_st hR (hm_st hR (hm_st hR (?_)))
              show R 174 15 [(6, .int (v6 + 1)), (5, .int (v5 + 1)), (7, .int (T_172 s v6 v2 v3)), (4, .int v4), (0, .ref 14), (1, .int v1), (2, .int v2), (3, .int v3)] [] (N, hm_sh L g, s) _ Q
              exact hm_lvS hR (by intro q hq; simp only [List.mem_cons, List.not_mem_nil, or_false] at hq ⊢; rcases hq with rfl | rfl | rfl | rfl | rfl | rfl | rfl <;> simp) (ih s v1 v2 v3 v4 (v5 + 1) (v6 + 1) (hm_dcx c21 hm) hq)
set_option maxRecDepth 20000 in
theorem sp_174 {R : hm_R} (hR : hm_Cm R) {N L : Nat} {g : Nat → hm_Sh} {s : hm_St} {b : hm_B} {Q : hm_Q} (hN : 68 ≤ N) {p1 : Int32} {p2 : Int32} {p3 : Int32} (hq : Q (.inr (some (.int (T_174 s p1 p2 p3)))) (N, hm_sh L g, s)) : R 174 0 (lv_args 0 [.ref 14, .int p1, .int p2, .int p3]) [] (N, hm_sh L g, s) b Q := by
  unfold T_174 at hq
  show R 174 0 [(0, .ref 14), (1, .int p1), (2, .int p2), (3, .int p3)] [] (N, hm_sh L g, s) _ Q
  refine hm_st hR (hm_st hR (hm_st hR (hm_st hR (?_))))
  refine hm_st hR ⟨hm_le rfl, rfl, (hm_le rfl), (hm_ltN hN rfl), hm_le rfl, hm_le rfl, (0, 0), Nat.zero_le _, Nat.zero_le _, ?_⟩
  refine sp_172 hR hN ?_
  show R 174 7 [(0, .ref 14), (1, .int p1), (2, .int p2), (3, .int p3)] [.int (T_172 s p1 p2 p3)] (N, hm_sh L g, s) _ Q
  refine hm_st hR (hm_st hR (hm_st hR (hm_st hR (hm_st hR (?_)))))
  show R 174 15 [(6, .int 0), (5, .int 0), (4, .int (T_172 s p1 p2 p3)), (0, .ref 14), (1, .int p1), (2, .int p2), (3, .int p3)] [] (N, hm_sh L g, s) _ Q
  exact lp_174_15 hR hN _ _ _ _ _ _ _ _ (Nat.lt_succ_self _) hq
def T_173_3 : Nat → hm_St → Int32 → Int32 → Int32 → Int32 → Int32
  | 0, s, _, _, _, _ => 0
  | n + 1, s, v1, v2, v3, v4 => (if (s 14 5) ≤ v4 then (-1) else (if (T_160 s v4) = 0 then (T_173_3 n s v1 v2 v3 (v4 + 1)) else (if (T_174 s v4 v1 v2) = v3 then v4 else (T_173_3 n s v1 v2 v3 (v4 + 1)))))
/-- CurvekeyHouse$Points.nthNearest(III)I -/
def T_173 (s : hm_St) (p1 : Int32) (p2 : Int32) (p3 : Int32) : Int32 := (T_173_3 (hm_df (s 14 5) 0 + 1) s p1 p2 p3 0)
set_option maxRecDepth 20000 in
theorem lp_173_3 {R : hm_R} (hR : hm_Cm R) {N L : Nat} {g : Nat → hm_Sh} {b : hm_B} {Q : hm_Q} (hN : 68 ≤ N) : ∀ (n : Nat) (s : hm_St) (v1 : Int32) (v2 : Int32) (v3 : Int32) (v4 : Int32), hm_df (s 14 5) v4 < n → (hq : Q (.inr (some (.int (T_173_3 n s v1 v2 v3 v4)))) (N, hm_sh L g, s)) → R 173 3 [(4, .int v4), (0, .ref 14), (1, .int v1), (2, .int v2), (3, .int v3)] [] (N, hm_sh L g, s) b Q := by
  intro n
  induction n with
  | zero => intro s v1 v2 v3 v4 hm _; exact absurd hm (Nat.not_lt_zero _)
  | succ n ih =>
    intro s v1 v2 v3 v4 hm hq
    unfold T_173_3 at hq
    refine hm_st hR (hm_st hR (hm_st hR ⟨rfl, hm_le rfl, (hm_ltN hN rfl), ?_⟩))
    show R 173 9 [(4, .int v4), (0, .ref 14), (1, .int v1), (2, .int v2), (3, .int v3)] [.int (s 14 5), .int v4] (N, hm_sh L g, s) _ Q
    refine hm_st hR ⟨fun c9 => ?_, fun c9 => ?_⟩
    · rw [if_pos c9] at hq
      show R 173 42 [(4, .int v4), (0, .ref 14), (1, .int v1), (2, .int v2), (3, .int v3)] [] (N, hm_sh L g, s) _ Q
      refine hm_st hR (?_)
      exact hm_st hR ⟨fun z => absurd z (by decide), hq⟩
    · rw [if_neg c9] at hq
      show R 173 12 [(4, .int v4), (0, .ref 14), (1, .int v1), (2, .int v2), (3, .int v3)] [] (N, hm_sh L g, s) _ Q
      refine hm_st hR (hm_st hR (?_))
      refine hm_st hR ⟨hm_le rfl, rfl, (hm_le rfl), (hm_ltN hN rfl), hm_le rfl, hm_le rfl, (0, 0), Nat.zero_le _, Nat.zero_le _, ?_⟩
      refine sp_160 hR hN ?_
      show R 173 18 [(4, .int v4), (0, .ref 14), (1, .int v1), (2, .int v2), (3, .int v3)] [.int (T_160 s v4)] (N, hm_sh L g, s) _ Q
      show R 173 18 [(4, .int v4), (0, .ref 14), (1, .int v1), (2, .int v2), (3, .int v3)] [.int (T_160 s v4)] (N, hm_sh L g, s) _ Q
      refine hm_st hR ⟨fun c18 => ?_, fun c18 => ?_⟩
      · rw [if_pos c18] at hq
        show R 173 36 [(4, .int v4), (0, .ref 14), (1, .int v1), (2, .int v2), (3, .int v3)] [] (N, hm_sh L g, s) _ Q
        refine hm_st hR (hm_st hR (?_))
        show R 173 3 [(4, .int (v4 + 1)), (0, .ref 14), (1, .int v1), (2, .int v2), (3, .int v3)] [] (N, hm_sh L g, s) _ Q
        exact hm_lvS hR (by intro q hq; simp only [List.mem_cons, List.not_mem_nil, or_false] at hq ⊢; rcases hq with rfl | rfl | rfl | rfl | rfl <;> simp) (ih s v1 v2 v3 (v4 + 1) (hm_dcx c9 hm) hq)
      · rw [if_neg c18] at hq
        show R 173 21 [(4, .int v4), (0, .ref 14), (1, .int v1), (2, .int v2), (3, .int v3)] [] (N, hm_sh L g, s) _ Q
        refine hm_st hR (hm_st hR (hm_st hR (hm_st hR (?_))))
        refine hm_st hR ⟨hm_le rfl, rfl, (hm_le rfl), (hm_ltN hN rfl), hm_le rfl, hm_le rfl, (0, 0), Nat.zero_le _, Nat.zero_le _, ?_⟩
        refine sp_174 hR hN ?_
        show R 173 29 [(4, .int v4), (0, .ref 14), (1, .int v1), (2, .int v2), (3, .int v3)] [.int (T_174 s v4 v1 v2)] (N, hm_sh L g, s) _ Q
        refine hm_st hR (?_)
        show R 173 30 [(4, .int v4), (0, .ref 14), (1, .int v1), (2, .int v2), (3, .int v3)] [.int v3, .int (T_174 s v4 v1 v2)] (N, hm_sh L g, s) _ Q
        refine hm_st hR ⟨fun c30 => ?_, fun c30 => ?_⟩
        · rw [if_neg c30] at hq
          show R 173 36 [(4, .int v4), (0, .ref 14), (1, .int v1), (2, .int v2), (3, .int v3)] [] (N, hm_sh L g, s) _ Q
          refine hm_st hR (hm_st hR (?_))
          show R 173 3 [(4, .int (v4 + 1)), (0, .ref 14), (1, .int v1), (2, .int v2), (3, .int v3)] [] (N, hm_sh L g, s) _ Q
          exact hm_lvS hR (by intro q hq; simp only [List.mem_cons, List.not_mem_nil, or_false] at hq ⊢; rcases hq with rfl | rfl | rfl | rfl | rfl <;> simp) (ih s v1 v2 v3 (v4 + 1) (hm_dcx c9 hm) hq)
        · rw [if_pos c30] at hq
          show R 173 33 [(4, .int v4), (0, .ref 14), (1, .int v1), (2, .int v2), (3, .int v3)] [] (N, hm_sh L g, s) _ Q
          refine hm_st hR (?_)
          exact hm_st hR ⟨fun z => absurd z (by decide), hq⟩
set_option maxRecDepth 20000 in
theorem sp_173 {R : hm_R} (hR : hm_Cm R) {N L : Nat} {g : Nat → hm_Sh} {s : hm_St} {b : hm_B} {Q : hm_Q} (hN : 68 ≤ N) {p1 : Int32} {p2 : Int32} {p3 : Int32} (hq : Q (.inr (some (.int (T_173 s p1 p2 p3)))) (N, hm_sh L g, s)) : R 173 0 (lv_args 0 [.ref 14, .int p1, .int p2, .int p3]) [] (N, hm_sh L g, s) b Q := by
  unfold T_173 at hq
  show R 173 0 [(0, .ref 14), (1, .int p1), (2, .int p2), (3, .int p3)] [] (N, hm_sh L g, s) _ Q
  refine hm_st hR (hm_st hR (?_))
  show R 173 3 [(4, .int 0), (0, .ref 14), (1, .int p1), (2, .int p2), (3, .int p3)] [] (N, hm_sh L g, s) _ Q
  exact lp_173_3 hR hN _ _ _ _ _ _ (Nat.lt_succ_self _) hq
/-- CurvekeyHouse.nearest(III)I -/
def T_15 (N : Nat) (g : Nat → hm_Sh) (s : hm_St) (p1 : Int32) (p2 : Int32) (p3 : Int32) : hm_Er Int32 := (if (T_37 s p1 p2) = 0 then (1, 0, N, g, s) else (if ((if p3 < 0 then (0 : Int32) else 1) : Int32) = 0 then (1, 0, N, g, s) else (0, (T_173 s p1 p2 p3), N, g, s)))
theorem N_15 {c j : Nat}  {N : Nat} {g : Nat → hm_Sh} {s : hm_St} {p1 : Int32} {p2 : Int32} {p3 : Int32} : (T_15 N g s p1 p2 p3).2.2.2.2 c j = s c j := by
  unfold T_15
  repeat' split
  all_goals first | with_reducible rfl | simp only []
set_option maxRecDepth 20000 in
theorem sp_15 {R : hm_R} (hR : hm_Cm R) {N L : Nat} {g : Nat → hm_Sh} {s : hm_St} {b : hm_B} {Q : hm_Q} (hN : 68 ≤ N) (hb1 : 1 ≤ b.1) (hb2 : 6 ≤ b.2) {p1 : Int32} {p2 : Int32} {p3 : Int32} (hq : hm_qx Q L (fun v => some (.int v)) (T_15 N g s p1 p2 p3)) : R 15 0 (lv_args 0 [.ref 2, .int p1, .int p2, .int p3]) [] (N, hm_sh L g, s) b Q := by
  unfold T_15 at hq
  show R 15 0 [(0, .ref 2), (1, .int p1), (2, .int p2), (3, .int p3)] [] (N, hm_sh L g, s) _ Q
  refine hm_st hR (hm_st hR (hm_st hR (?_)))
  refine hm_st hR ⟨hm_le rfl, rfl, (hm_le rfl), (hm_ltN hN rfl), hm_le rfl, hm_le rfl, (0, 0), Nat.zero_le _, Nat.zero_le _, ?_⟩
  refine sp_37 hR hN ?_
  show R 15 6 [(0, .ref 2), (1, .int p1), (2, .int p2), (3, .int p3)] [.int (T_37 s p1 p2)] (N, hm_sh L g, s) _ Q
  show R 15 6 [(0, .ref 2), (1, .int p1), (2, .int p2), (3, .int p3)] [.int (T_37 s p1 p2)] (N, hm_sh L g, s) _ Q
  refine hm_st hR ⟨fun c6 => ?_, fun c6 => ?_⟩
  · rw [if_pos c6] at hq
    show R 15 17 [(0, .ref 2), (1, .int p1), (2, .int p2), (3, .int p3)] [] (N, hm_sh L g, s) _ Q
    refine hm_st hR (?_)
    show R 15 18 [(0, .ref 2), (1, .int p1), (2, .int p2), (3, .int p3)] [.int 0] (N, hm_sh L g, s) _ Q
    exact hm_st hR ⟨hm_le rfl, hm_le rfl, hm_le rfl, (1, 6), (by show 1 ≤ b.1 - 0; omega), (by show 6 ≤ b.2 - 0; omega), hm_needT31 hR hN rfl (fun N2 hN2 => hm_KX (by decide) (hq N2 hN2))⟩
  · rw [if_neg c6] at hq
    show R 15 9 [(0, .ref 2), (1, .int p1), (2, .int p2), (3, .int p3)] [] (N, hm_sh L g, s) _ Q
    refine hm_st hR (?_)
    show R 15 10 [(0, .ref 2), (1, .int p1), (2, .int p2), (3, .int p3)] [.int p3] (N, hm_sh L g, s) _ Q
    suffices G : ∀ w : Int32, w = (if p3 < 0 then (0 : Int32) else 1) → R 15 18 [(0, .ref 2), (1, .int p1), (2, .int p2), (3, .int p3)] [.int w] (N, hm_sh L g, s) (b.1 - 0, b.2 - 0) Q by
      show R 15 10 [(0, .ref 2), (1, .int p1), (2, .int p2), (3, .int p3)] [.int p3] (N, hm_sh L g, s) _ Q
      refine hm_st hR ⟨fun c => ?_, fun c => ?_⟩
      · exact hm_st hR (G _ (if_pos c).symm)
      · exact hm_st hR (hm_st hR (G _ (if_neg c).symm))
    intro w hw
    subst hw
    show R 15 18 [(0, .ref 2), (1, .int p1), (2, .int p2), (3, .int p3)] [.int (if p3 < 0 then (0 : Int32) else 1)] (N, hm_sh L g, s) _ Q
    show R 15 18 [(0, .ref 2), (1, .int p1), (2, .int p2), (3, .int p3)] [.int (if p3 < 0 then (0 : Int32) else 1)] (N, hm_sh L g, s) _ Q
    by_cases c18 : ((if p3 < 0 then (0 : Int32) else 1) : Int32) = 0
    · rw [if_pos c18] at hq
      exact hm_st hR ⟨hm_le rfl, hm_le rfl, hm_le rfl, (1, 6), (by show 1 ≤ b.1 - 0; omega), (by show 6 ≤ b.2 - 0; omega), hm_needT31 hR hN c18 (fun N2 hN2 => hm_KX (by decide) (hq N2 hN2))⟩
    · rw [if_neg c18] at hq
      refine hm_st hR ⟨hm_le rfl, hm_le rfl, hm_le rfl, (0, 0), Nat.zero_le _, Nat.zero_le _, hm_needP31 hR c18 ?_⟩
      show R 15 21 [(0, .ref 2), (1, .int p1), (2, .int p2), (3, .int p3)] [] (N, hm_sh L g, s) _ Q
      refine hm_st hR (hm_st hR ⟨rfl, hm_le rfl, (hm_ltN hN rfl), hm_st hR (hm_st hR (hm_st hR (?_)))⟩)
      refine hm_st hR ⟨hm_le rfl, rfl, (hm_le rfl), (hm_ltN hN rfl), hm_le rfl, hm_le rfl, (0, 0), Nat.zero_le _, Nat.zero_le _, ?_⟩
      refine sp_173 hR hN ?_
      show R 15 31 [(0, .ref 2), (1, .int p1), (2, .int p2), (3, .int p3)] [.int (T_173 s p1 p2 p3)] (N, hm_sh L g, s) _ Q
      exact hm_st hR ⟨fun z => absurd z (by decide), hm_qx0 hq⟩
def T_52_4 : Nat → hm_St → Int32 → Int32 → Int32 → Int32
  | 0, s, _, _, _ => 0
  | n + 1, s, v0, v1, v2 => (if v0 ≤ (v2 * v2) then v1 else (if 1024 ≤ v2 then v1 else (T_52_4 n s v0 (v2 + 1) (v2 + 1))))
/-- CurvekeyHouse.rootAbove(I)I -/
def T_52 (s : hm_St) (p1 : Int32) : Int32 := (T_52_4 (hm_df 1024 0 + 1) s p1 0 0)
set_option maxRecDepth 20000 in
theorem lp_52_4 {R : hm_R} (hR : hm_Cm R) {N L : Nat} {g : Nat → hm_Sh} {b : hm_B} {Q : hm_Q} (hN : 68 ≤ N) : ∀ (n : Nat) (s : hm_St) (v0 : Int32) (v1 : Int32) (v2 : Int32), hm_df 1024 v2 < n → (hq : Q (.inr (some (.int (T_52_4 n s v0 v1 v2)))) (N, hm_sh L g, s)) → R 52 4 [(2, .int v2), (1, .int v1), (0, .int v0)] [] (N, hm_sh L g, s) b Q := by
  intro n
  induction n with
  | zero => intro s v0 v1 v2 hm _; exact absurd hm (Nat.not_lt_zero _)
  | succ n ih =>
    intro s v0 v1 v2 hm hq
    unfold T_52_4 at hq
    refine hm_st hR (hm_st hR (hm_st hR (hm_st hR (?_))))
    show R 52 8 [(2, .int v2), (1, .int v1), (0, .int v0)] [.int v0, .int (v2 * v2)] (N, hm_sh L g, s) _ Q
    refine hm_st hR ⟨fun c8 => ?_, fun c8 => ?_⟩
    · rw [if_pos c8] at hq
      show R 52 28 [(2, .int v2), (1, .int v1), (0, .int v0)] [] (N, hm_sh L g, s) _ Q
      refine hm_st hR (?_)
      exact hm_st hR ⟨fun z => absurd z (by decide), hq⟩
    · rw [if_neg c8] at hq
      show R 52 11 [(2, .int v2), (1, .int v1), (0, .int v0)] [] (N, hm_sh L g, s) _ Q
      refine hm_st hR (hm_st hR (?_))
      show R 52 15 [(2, .int v2), (1, .int v1), (0, .int v0)] [.int 1024, .int v2] (N, hm_sh L g, s) _ Q
      refine hm_st hR ⟨fun c15 => ?_, fun c15 => ?_⟩
      · rw [if_pos c15] at hq
        show R 52 28 [(2, .int v2), (1, .int v1), (0, .int v0)] [] (N, hm_sh L g, s) _ Q
        refine hm_st hR (?_)
        exact hm_st hR ⟨fun z => absurd z (by decide), hq⟩
      · rw [if_neg c15] at hq
        show R 52 18 [(2, .int v2), (1, .int v1), (0, .int v0)] [] (N, hm_sh L g, s) _ Q
        refine hm_st hR (hm_st hR (hm_st hR (hm_st hR (hm_st hR (hm_st hR (?_))))))
        show R 52 4 [(2, .int (v2 + 1)), (1, .int (v2 + 1)), (0, .int v0)] [] (N, hm_sh L g, s) _ Q
        exact hm_lvS hR (by intro q hq; simp only [List.mem_cons, List.not_mem_nil, or_false] at hq ⊢; rcases hq with rfl | rfl | rfl <;> simp) (ih s v0 (v2 + 1) (v2 + 1) (hm_dcx c15 hm) hq)
set_option maxRecDepth 20000 in
theorem sp_52 {R : hm_R} (hR : hm_Cm R) {N L : Nat} {g : Nat → hm_Sh} {s : hm_St} {b : hm_B} {Q : hm_Q} (hN : 68 ≤ N) {p1 : Int32} (hq : Q (.inr (some (.int (T_52 s p1)))) (N, hm_sh L g, s)) : R 52 0 (lv_args 0 [.int p1]) [] (N, hm_sh L g, s) b Q := by
  unfold T_52 at hq
  show R 52 0 [(0, .int p1)] [] (N, hm_sh L g, s) _ Q
  refine hm_st hR (hm_st hR (hm_st hR (hm_st hR (?_))))
  show R 52 4 [(2, .int 0), (1, .int 0), (0, .int p1)] [] (N, hm_sh L g, s) _ Q
  exact lp_52_4 hR hN _ _ _ _ _ (Nat.lt_succ_self _) hq
/-- CurvekeyHouse.boxAround(III)LCurvekeyHouse$Box; -/
def T_51 (N : Nat) (s : hm_St) (p1 : Int32) (p2 : Int32) (p3 : Int32) : hm_St := (T_65 (hm_sn s N) N (hm_max 0 (p1 - p3)) (hm_max 0 (p2 - p3)) (((hm_min ((T_86 s) - 1) (p1 + p3)) - (hm_max 0 (p1 - p3))) + 1) (((hm_min ((T_86 s) - 1) (p2 + p3)) - (hm_max 0 (p2 - p3))) + 1))
theorem N_51 {c j : Nat} {N : Nat} (hcN : c ≠ N) {s : hm_St} {p1 : Int32} {p2 : Int32} {p3 : Int32} : T_51 N s p1 p2 p3 c j = s c j := by
  unfold T_51
  simp only [N_65 hcN, hm_snn hcN]
set_option maxRecDepth 20000 in
theorem sp_51 {R : hm_R} (hR : hm_Cm R) {N L : Nat} {g : Nat → hm_Sh} {s : hm_St} {b : hm_B} {Q : hm_Q} (hN : 68 ≤ N) (hb1 : 1 ≤ b.1) (hb2 : 4 ≤ b.2) {p1 : Int32} {p2 : Int32} {p3 : Int32} (hq : Q (.inr (some (.ref N))) (N + 1, hm_sh L (hm_gb g N), (T_51 N s p1 p2 p3))) : R 51 0 (lv_args 0 [.ref 2, .int p1, .int p2, .int p3]) [] (N, hm_sh L g, s) b Q := by
  unfold T_51 at hq
  show R 51 0 [(0, .ref 2), (1, .int p1), (2, .int p2), (3, .int p3)] [] (N, hm_sh L g, s) _ Q
  refine hm_st hR (hm_st hR (hm_st hR (hm_st hR (hm_st hR ⟨hm_le rfl, ?_⟩))))
  show R 51 7 [(0, .ref 2), (1, .int p1), (2, .int p2), (3, .int p3)] [.int (hm_max 0 (p1 - p3))] (N, hm_sh L g, s) _ Q
  refine hm_st hR (hm_st hR (hm_st hR (hm_st hR (hm_st hR (hm_st hR ⟨hm_le rfl, ?_⟩)))))
  show R 51 16 [(4, .int (hm_max 0 (p1 - p3))), (0, .ref 2), (1, .int p1), (2, .int p2), (3, .int p3)] [.int (hm_max 0 (p2 - p3))] (N, hm_sh L g, s) _ Q
  refine hm_st hR (hm_st hR (hm_st hR ⟨rfl, hm_le rfl, (hm_ltN hN rfl), ?_⟩))
  refine hm_st hR ⟨hm_le rfl, rfl, (hm_le rfl), (hm_ltN hN rfl), hm_le rfl, hm_le rfl, (0, 0), Nat.zero_le _, Nat.zero_le _, ?_⟩
  refine sp_86 hR hN ?_
  show R 51 25 [(5, .int (hm_max 0 (p2 - p3))), (4, .int (hm_max 0 (p1 - p3))), (0, .ref 2), (1, .int p1), (2, .int p2), (3, .int p3)] [.int (T_86 s)] (N, hm_sh L g, s) _ Q
  refine hm_st hR (hm_st hR (hm_st hR (hm_st hR (hm_st hR (hm_st hR ⟨hm_le rfl, ?_⟩)))))
  show R 51 33 [(5, .int (hm_max 0 (p2 - p3))), (4, .int (hm_max 0 (p1 - p3))), (0, .ref 2), (1, .int p1), (2, .int p2), (3, .int p3)] [.int (hm_min ((T_86 s) - 1) (p1 + p3))] (N, hm_sh L g, s) _ Q
  refine hm_st hR (hm_st hR (hm_st hR ⟨rfl, hm_le rfl, (hm_ltN hN rfl), ?_⟩))
  refine hm_st hR ⟨hm_le rfl, rfl, (hm_le rfl), (hm_ltN hN rfl), hm_le rfl, hm_le rfl, (0, 0), Nat.zero_le _, Nat.zero_le _, ?_⟩
  refine sp_86 hR hN ?_
  show R 51 42 [(6, .int (hm_min ((T_86 s) - 1) (p1 + p3))), (5, .int (hm_max 0 (p2 - p3))), (4, .int (hm_max 0 (p1 - p3))), (0, .ref 2), (1, .int p1), (2, .int p2), (3, .int p3)] [.int (T_86 s)] (N, hm_sh L g, s) _ Q
  refine hm_st hR (hm_st hR (hm_st hR (hm_st hR (hm_st hR (hm_st hR ⟨hm_le rfl, ?_⟩)))))
  show R 51 50 [(6, .int (hm_min ((T_86 s) - 1) (p1 + p3))), (5, .int (hm_max 0 (p2 - p3))), (4, .int (hm_max 0 (p1 - p3))), (0, .ref 2), (1, .int p1), (2, .int p2), (3, .int p3)] [.int (hm_min ((T_86 s) - 1) (p2 + p3))] (N, hm_sh L g, s) _ Q
  refine hm_st hR (?_)
  show R 51 52 [(7, .int (hm_min ((T_86 s) - 1) (p2 + p3))), (6, .int (hm_min ((T_86 s) - 1) (p1 + p3))), (5, .int (hm_max 0 (p2 - p3))), (4, .int (hm_max 0 (p1 - p3))), (0, .ref 2), (1, .int p1), (2, .int p2), (3, .int p3)] [] (N, hm_sh L g, s) _ Q
  refine hm_nwb hR hN (by show 1 ≤ b.1 - 0 - 0; omega) (by show 4 ≤ b.2 - 0 - 0; omega) (by rfl) ?_
  have hbk1 : (hm_sh L (hm_gb g N) N).1 = 0 := hm_gbk hN
  have hbt1 : 2 ≤ N := hm_two hN
  have hbl1 : N < N + 1 := Nat.lt_succ_self _
  show R 51 55 [(7, .int (hm_min ((T_86 s) - 1) (p2 + p3))), (6, .int (hm_min ((T_86 s) - 1) (p1 + p3))), (5, .int (hm_max 0 (p2 - p3))), (4, .int (hm_max 0 (p1 - p3))), (0, .ref 2), (1, .int p1), (2, .int p2), (3, .int p3)] [.ref N] ((N + 1), hm_sh L (hm_gb g N), (hm_sn s N)) _ Q
  refine hm_st hR ⟨rfl, hm_st hR (hm_st hR (hm_st hR (hm_st hR (hm_st hR (hm_st hR (hm_st hR (hm_st hR (hm_st hR (hm_st hR (hm_st hR (hm_st hR (?_))))))))))))⟩
  refine hm_st hR ⟨hm_le rfl, hbt1, hm_le rfl, hm_le rfl, (0, 0), Nat.zero_le _, Nat.zero_le _, ?_⟩
  refine sp_65 hR (Nat.le_succ_of_le hN) (bx := N) hbk1 hbt1 hbl1 ?_
  show R 51 77 [(7, .int (hm_min ((T_86 s) - 1) (p2 + p3))), (6, .int (hm_min ((T_86 s) - 1) (p1 + p3))), (5, .int (hm_max 0 (p2 - p3))), (4, .int (hm_max 0 (p1 - p3))), (0, .ref 2), (1, .int p1), (2, .int p2), (3, .int p3)] [.ref N] ((N + 1), hm_sh L (hm_gb g N), (T_65 (hm_sn s N) N (hm_max 0 (p1 - p3)) (hm_max 0 (p2 - p3)) (((hm_min ((T_86 s) - 1) (p1 + p3)) - (hm_max 0 (p1 - p3))) + 1) (((hm_min ((T_86 s) - 1) (p2 + p3)) - (hm_max 0 (p2 - p3))) + 1))) _ Q
  exact hm_st hR hq
/-- CurvekeyHouse.proof(III)I -/
def T_16 (N : Nat) (g : Nat → hm_Sh) (s : hm_St) (p1 : Int32) (p2 : Int32) (p3 : Int32) : hm_Er Int32 := (if (T_37 s p1 p2) = 0 then (1, 0, N, g, s) else (if ((if p3 < 0 then (0 : Int32) else 1) : Int32) = 0 then (1, 0, N, g, s) else (if (T_173 s p1 p2 p3) = (-1) then (0, (-1), N, g, s) else (0, (T_109 (T_49 (T_51 N s p1 p2 (T_52 s (T_172 s (T_173 s p1 p2 p3) p1 p2))) N 99)), (N + 1), (hm_gb g N), (T_49 (T_51 N s p1 p2 (T_52 s (T_172 s (T_173 s p1 p2 p3) p1 p2))) N 99)))))
set_option maxRecDepth 20000 in
theorem sp_16 {R : hm_R} (hR : hm_Cm R) {N L : Nat} {g : Nat → hm_Sh} {s : hm_St} {b : hm_B} {Q : hm_Q} (hN : 68 ≤ N) (hb1 : 2 ≤ b.1) (hb2 : 10 ≤ b.2) {p1 : Int32} {p2 : Int32} {p3 : Int32} (hq : hm_qx Q L (fun v => some (.int v)) (T_16 N g s p1 p2 p3)) : R 16 0 (lv_args 0 [.ref 2, .int p1, .int p2, .int p3]) [] (N, hm_sh L g, s) b Q := by
  unfold T_16 at hq
  show R 16 0 [(0, .ref 2), (1, .int p1), (2, .int p2), (3, .int p3)] [] (N, hm_sh L g, s) _ Q
  refine hm_st hR (hm_st hR (hm_st hR (?_)))
  refine hm_st hR ⟨hm_le rfl, rfl, (hm_le rfl), (hm_ltN hN rfl), hm_le rfl, hm_le rfl, (0, 0), Nat.zero_le _, Nat.zero_le _, ?_⟩
  refine sp_37 hR hN ?_
  show R 16 6 [(0, .ref 2), (1, .int p1), (2, .int p2), (3, .int p3)] [.int (T_37 s p1 p2)] (N, hm_sh L g, s) _ Q
  show R 16 6 [(0, .ref 2), (1, .int p1), (2, .int p2), (3, .int p3)] [.int (T_37 s p1 p2)] (N, hm_sh L g, s) _ Q
  refine hm_st hR ⟨fun c6 => ?_, fun c6 => ?_⟩
  · rw [if_pos c6] at hq
    show R 16 17 [(0, .ref 2), (1, .int p1), (2, .int p2), (3, .int p3)] [] (N, hm_sh L g, s) _ Q
    refine hm_st hR (?_)
    show R 16 18 [(0, .ref 2), (1, .int p1), (2, .int p2), (3, .int p3)] [.int 0] (N, hm_sh L g, s) _ Q
    exact hm_st hR ⟨hm_le rfl, hm_le rfl, hm_le rfl, (1, 6), (by show 1 ≤ b.1 - 0; omega), (by show 6 ≤ b.2 - 0; omega), hm_needT31 hR hN rfl (fun N2 hN2 => hm_KX (by decide) (hq N2 hN2))⟩
  · rw [if_neg c6] at hq
    show R 16 9 [(0, .ref 2), (1, .int p1), (2, .int p2), (3, .int p3)] [] (N, hm_sh L g, s) _ Q
    refine hm_st hR (?_)
    show R 16 10 [(0, .ref 2), (1, .int p1), (2, .int p2), (3, .int p3)] [.int p3] (N, hm_sh L g, s) _ Q
    suffices G : ∀ w : Int32, w = (if p3 < 0 then (0 : Int32) else 1) → R 16 18 [(0, .ref 2), (1, .int p1), (2, .int p2), (3, .int p3)] [.int w] (N, hm_sh L g, s) (b.1 - 0, b.2 - 0) Q by
      show R 16 10 [(0, .ref 2), (1, .int p1), (2, .int p2), (3, .int p3)] [.int p3] (N, hm_sh L g, s) _ Q
      refine hm_st hR ⟨fun c => ?_, fun c => ?_⟩
      · exact hm_st hR (G _ (if_pos c).symm)
      · exact hm_st hR (hm_st hR (G _ (if_neg c).symm))
    intro w hw
    subst hw
    show R 16 18 [(0, .ref 2), (1, .int p1), (2, .int p2), (3, .int p3)] [.int (if p3 < 0 then (0 : Int32) else 1)] (N, hm_sh L g, s) _ Q
    show R 16 18 [(0, .ref 2), (1, .int p1), (2, .int p2), (3, .int p3)] [.int (if p3 < 0 then (0 : Int32) else 1)] (N, hm_sh L g, s) _ Q
    by_cases c18 : ((if p3 < 0 then (0 : Int32) else 1) : Int32) = 0
    · rw [if_pos c18] at hq
      exact hm_st hR ⟨hm_le rfl, hm_le rfl, hm_le rfl, (1, 6), (by show 1 ≤ b.1 - 0; omega), (by show 6 ≤ b.2 - 0; omega), hm_needT31 hR hN c18 (fun N2 hN2 => hm_KX (by decide) (hq N2 hN2))⟩
    · rw [if_neg c18] at hq
      refine hm_st hR ⟨hm_le rfl, hm_le rfl, hm_le rfl, (0, 0), Nat.zero_le _, Nat.zero_le _, hm_needP31 hR c18 ?_⟩
      show R 16 21 [(0, .ref 2), (1, .int p1), (2, .int p2), (3, .int p3)] [] (N, hm_sh L g, s) _ Q
      refine hm_st hR (hm_st hR ⟨rfl, hm_le rfl, (hm_ltN hN rfl), hm_st hR (hm_st hR (hm_st hR (?_)))⟩)
      refine hm_st hR ⟨hm_le rfl, rfl, (hm_le rfl), (hm_ltN hN rfl), hm_le rfl, hm_le rfl, (0, 0), Nat.zero_le _, Nat.zero_le _, ?_⟩
      refine sp_173 hR hN ?_
      show R 16 31 [(0, .ref 2), (1, .int p1), (2, .int p2), (3, .int p3)] [.int (T_173 s p1 p2 p3)] (N, hm_sh L g, s) _ Q
      refine hm_st hR (hm_st hR (hm_st hR (?_)))
      show R 16 36 [(4, .int (T_173 s p1 p2 p3)), (0, .ref 2), (1, .int p1), (2, .int p2), (3, .int p3)] [.int (-1), .int (T_173 s p1 p2 p3)] (N, hm_sh L g, s) _ Q
      refine hm_st hR ⟨fun c36 => ?_, fun c36 => ?_⟩
      · rw [if_neg c36] at hq
        show R 16 41 [(4, .int (T_173 s p1 p2 p3)), (0, .ref 2), (1, .int p1), (2, .int p2), (3, .int p3)] [] (N, hm_sh L g, s) _ Q
        refine hm_st hR (hm_st hR (hm_st hR (hm_st hR (hm_st hR (hm_st hR ⟨rfl, hm_le rfl, (hm_ltN hN rfl), hm_st hR (hm_st hR (hm_st hR (?_)))⟩)))))
        refine hm_st hR ⟨hm_le rfl, rfl, (hm_le rfl), (hm_ltN hN rfl), hm_le rfl, hm_le rfl, (0, 0), Nat.zero_le _, Nat.zero_le _, ?_⟩
        refine sp_172 hR hN ?_
        show R 16 56 [(4, .int (T_173 s p1 p2 p3)), (0, .ref 2), (1, .int p1), (2, .int p2), (3, .int p3)] [.int (T_172 s (T_173 s p1 p2 p3) p1 p2), .int p2, .int p1, .ref 2, .ref 2] (N, hm_sh L g, s) _ Q
        refine hm_st hR ⟨hm_le rfl, hm_le rfl, hm_le rfl, (0, 0), Nat.zero_le _, Nat.zero_le _, ?_⟩
        refine sp_52 hR hN ?_
        show R 16 59 [(4, .int (T_173 s p1 p2 p3)), (0, .ref 2), (1, .int p1), (2, .int p2), (3, .int p3)] [.int (T_52 s (T_172 s (T_173 s p1 p2 p3) p1 p2)), .int p2, .int p1, .ref 2, .ref 2] (N, hm_sh L g, s) _ Q
        refine hm_st hR ⟨hm_le rfl, rfl, (hm_le rfl), (hm_ltN hN rfl), hm_le rfl, hm_le rfl, (1, 4), (by show 1 ≤ b.1 - 0 - 0 - 0 - 0 - 0; omega), (by show 4 ≤ b.2 - 0 - 0 - 0 - 0 - 0; omega), ?_⟩
        refine sp_51 hR hN (Nat.le_refl _) (Nat.le_refl _) ?_
        have hbk1 : (hm_sh L (hm_gb g N) N).1 = 0 := hm_gbk hN
        have hbt1 : 2 ≤ N := hm_two hN
        have hbl1 : N < N + 1 := Nat.lt_succ_self _
        show R 16 62 [(4, .int (T_173 s p1 p2 p3)), (0, .ref 2), (1, .int p1), (2, .int p2), (3, .int p3)] [.ref N, .ref 2] ((N + 1), hm_sh L (hm_gb g N), (T_51 N s p1 p2 (T_52 s (T_172 s (T_173 s p1 p2 p3) p1 p2)))) _ Q
        refine hm_st hR (?_)
        refine hm_st hR ⟨hm_le rfl, rfl, (hm_le rfl), (hm_ltN (Nat.le_succ_of_le hN) rfl), hm_le rfl, hm_le rfl, (0, 0), Nat.zero_le _, Nat.zero_le _, ?_⟩
        refine sp_49 hR (Nat.le_succ_of_le hN) (bx := N) hbk1 hbt1 hbl1 ?_
        show R 16 67 [(4, .int (T_173 s p1 p2 p3)), (0, .ref 2), (1, .int p1), (2, .int p2), (3, .int p3)] [] ((N + 1), hm_sh L (hm_gb g N), (T_49 (T_51 N s p1 p2 (T_52 s (T_172 s (T_173 s p1 p2 p3) p1 p2))) N 99)) _ Q
        refine hm_st hR (hm_st hR ⟨rfl, hm_le rfl, (hm_ltN (Nat.le_succ_of_le hN) rfl), hm_st hR (hm_st hR ⟨rfl, hm_le rfl, (hm_ltN (Nat.le_succ_of_le hN) rfl), ?_⟩)⟩)
        refine hm_st hR ⟨hm_le rfl, rfl, (hm_le rfl), (hm_ltN (Nat.le_succ_of_le hN) rfl), hm_le rfl, hm_le rfl, (0, 0), Nat.zero_le _, Nat.zero_le _, ?_⟩
        refine sp_109 hR (Nat.le_succ_of_le hN) ?_
        show R 16 78 [(4, .int (T_173 s p1 p2 p3)), (0, .ref 2), (1, .int p1), (2, .int p2), (3, .int p3)] [.int (T_109 (T_49 (T_51 N s p1 p2 (T_52 s (T_172 s (T_173 s p1 p2 p3) p1 p2))) N 99))] ((N + 1), hm_sh L (hm_gb g N), (T_49 (T_51 N s p1 p2 (T_52 s (T_172 s (T_173 s p1 p2 p3) p1 p2))) N 99)) _ Q
        exact hm_st hR ⟨fun z => absurd z (by decide), hm_qx0 hq⟩
      · rw [if_pos c36] at hq
        show R 16 39 [(4, .int (T_173 s p1 p2 p3)), (0, .ref 2), (1, .int p1), (2, .int p2), (3, .int p3)] [] (N, hm_sh L g, s) _ Q
        refine hm_st hR (?_)
        exact hm_st hR ⟨fun z => absurd z (by decide), hm_qx0 hq⟩
/-- CurvekeyHouse.speed(III)I -/
def T_17 (N : Nat) (g : Nat → hm_Sh) (s : hm_St) (p1 : Int32) (p2 : Int32) (p3 : Int32) : hm_Er Int32 := (if ((T_159 s p1) : Int32) = 0 then (3, 0, N, g, s) else (if (T_34 s p2 (-3) 3) = 0 then (1, 0, N, g, s) else (if ((if (T_34 s p3 (-3) 3) = 0 then (0 : Int32) else 1) : Int32) = 0 then (1, 0, N, g, s) else (if ((T_160 s p1) : Int32) = 0 then (2, 0, N, g, s) else (0, (T_169 (T_167 s p1 p2 p3) p1 1 (T_86 (T_167 s p1 p2 p3))), N, g, (T_167 s p1 p2 p3))))))
theorem N_17 {c j : Nat} (h22 : c ≠ 22) (h24 : c ≠ 24) {N : Nat} {g : Nat → hm_Sh} {s : hm_St} {p1 : Int32} {p2 : Int32} {p3 : Int32} : (T_17 N g s p1 p2 p3).2.2.2.2 c j = s c j := by
  unfold T_17
  repeat' split
  all_goals first | with_reducible rfl | simp only [hm_w1n h22, hm_w1n h24, N_167 h22 h24]
set_option maxRecDepth 20000 in
theorem sp_17 {R : hm_R} (hR : hm_Cm R) {N L : Nat} {g : Nat → hm_Sh} {s : hm_St} {b : hm_B} {Q : hm_Q} (hN : 68 ≤ N) (hb1 : 1 ≤ b.1) (hb2 : 6 ≤ b.2) {p1 : Int32} {p2 : Int32} {p3 : Int32} (hq : hm_qx Q L (fun v => some (.int v)) (T_17 N g s p1 p2 p3)) : R 17 0 (lv_args 0 [.ref 2, .int p1, .int p2, .int p3]) [] (N, hm_sh L g, s) b Q := by
  unfold T_17 at hq
  show R 17 0 [(0, .ref 2), (1, .int p1), (2, .int p2), (3, .int p3)] [] (N, hm_sh L g, s) _ Q
  refine hm_st hR (hm_st hR ⟨rfl, hm_le rfl, (hm_ltN hN rfl), hm_st hR (?_)⟩)
  refine hm_st hR ⟨hm_le rfl, rfl, (hm_le rfl), (hm_ltN hN rfl), hm_le rfl, hm_le rfl, (0, 0), Nat.zero_le _, Nat.zero_le _, ?_⟩
  refine sp_159 hR hN ?_
  show R 17 8 [(0, .ref 2), (1, .int p1), (2, .int p2), (3, .int p3)] [.int (T_159 s p1)] (N, hm_sh L g, s) _ Q
  show R 17 8 [(0, .ref 2), (1, .int p1), (2, .int p2), (3, .int p3)] [.int (T_159 s p1)] (N, hm_sh L g, s) _ Q
  by_cases c8 : ((T_159 s p1) : Int32) = 0
  · rw [if_pos c8] at hq
    exact hm_st hR ⟨hm_le rfl, hm_le rfl, hm_le rfl, (1, 6), (by show 1 ≤ b.1 - 0; omega), (by show 6 ≤ b.2 - 0; omega), hm_needT33 hR hN c8 (fun N2 hN2 => hm_KX (by decide) (hq N2 hN2))⟩
  · rw [if_neg c8] at hq
    refine hm_st hR ⟨hm_le rfl, hm_le rfl, hm_le rfl, (0, 0), Nat.zero_le _, Nat.zero_le _, hm_needP33 hR c8 ?_⟩
    show R 17 11 [(0, .ref 2), (1, .int p1), (2, .int p2), (3, .int p3)] [] (N, hm_sh L g, s) _ Q
    refine hm_st hR (hm_st hR (hm_st hR (?_)))
    refine hm_st hR ⟨hm_le rfl, hm_le rfl, hm_le rfl, (0, 0), Nat.zero_le _, Nat.zero_le _, ?_⟩
    refine sp_34 hR hN ?_
    show R 17 18 [(0, .ref 2), (1, .int p1), (2, .int p2), (3, .int p3)] [.int (T_34 s p2 (-3) 3)] (N, hm_sh L g, s) _ Q
    show R 17 18 [(0, .ref 2), (1, .int p1), (2, .int p2), (3, .int p3)] [.int (T_34 s p2 (-3) 3)] (N, hm_sh L g, s) _ Q
    refine hm_st hR ⟨fun c18 => ?_, fun c18 => ?_⟩
    · rw [if_pos c18] at hq
      show R 17 35 [(0, .ref 2), (1, .int p1), (2, .int p2), (3, .int p3)] [] (N, hm_sh L g, s) _ Q
      refine hm_st hR (?_)
      show R 17 36 [(0, .ref 2), (1, .int p1), (2, .int p2), (3, .int p3)] [.int 0] (N, hm_sh L g, s) _ Q
      exact hm_st hR ⟨hm_le rfl, hm_le rfl, hm_le rfl, (1, 6), (by show 1 ≤ b.1 - 0 - 0 - 0; omega), (by show 6 ≤ b.2 - 0 - 0 - 0; omega), hm_needT31 hR hN rfl (fun N2 hN2 => hm_KX (by decide) (hq N2 hN2))⟩
    · rw [if_neg c18] at hq
      show R 17 21 [(0, .ref 2), (1, .int p1), (2, .int p2), (3, .int p3)] [] (N, hm_sh L g, s) _ Q
      refine hm_st hR (hm_st hR (hm_st hR (?_)))
      refine hm_st hR ⟨hm_le rfl, hm_le rfl, hm_le rfl, (0, 0), Nat.zero_le _, Nat.zero_le _, ?_⟩
      refine sp_34 hR hN ?_
      show R 17 28 [(0, .ref 2), (1, .int p1), (2, .int p2), (3, .int p3)] [.int (T_34 s p3 (-3) 3)] (N, hm_sh L g, s) _ Q
      show R 17 28 [(0, .ref 2), (1, .int p1), (2, .int p2), (3, .int p3)] [.int (T_34 s p3 (-3) 3)] (N, hm_sh L g, s) _ Q
      suffices G : ∀ w : Int32, w = (if (T_34 s p3 (-3) 3) = 0 then (0 : Int32) else 1) → R 17 36 [(0, .ref 2), (1, .int p1), (2, .int p2), (3, .int p3)] [.int w] (N, hm_sh L g, s) (b.1 - 0 - 0 - 0 - 0, b.2 - 0 - 0 - 0 - 0) Q by
        show R 17 28 [(0, .ref 2), (1, .int p1), (2, .int p2), (3, .int p3)] [.int (T_34 s p3 (-3) 3)] (N, hm_sh L g, s) _ Q
        refine hm_st hR ⟨fun c => ?_, fun c => ?_⟩
        · exact hm_st hR (G _ (if_pos c).symm)
        · exact hm_st hR (hm_st hR (G _ (if_neg c).symm))
      intro w hw
      subst hw
      show R 17 36 [(0, .ref 2), (1, .int p1), (2, .int p2), (3, .int p3)] [.int (if (T_34 s p3 (-3) 3) = 0 then (0 : Int32) else 1)] (N, hm_sh L g, s) _ Q
      show R 17 36 [(0, .ref 2), (1, .int p1), (2, .int p2), (3, .int p3)] [.int (if (T_34 s p3 (-3) 3) = 0 then (0 : Int32) else 1)] (N, hm_sh L g, s) _ Q
      by_cases c36 : ((if (T_34 s p3 (-3) 3) = 0 then (0 : Int32) else 1) : Int32) = 0
      · rw [if_pos c36] at hq
        exact hm_st hR ⟨hm_le rfl, hm_le rfl, hm_le rfl, (1, 6), (by show 1 ≤ b.1 - 0 - 0 - 0 - 0; omega), (by show 6 ≤ b.2 - 0 - 0 - 0 - 0; omega), hm_needT31 hR hN c36 (fun N2 hN2 => hm_KX (by decide) (hq N2 hN2))⟩
      · rw [if_neg c36] at hq
        refine hm_st hR ⟨hm_le rfl, hm_le rfl, hm_le rfl, (0, 0), Nat.zero_le _, Nat.zero_le _, hm_needP31 hR c36 ?_⟩
        show R 17 39 [(0, .ref 2), (1, .int p1), (2, .int p2), (3, .int p3)] [] (N, hm_sh L g, s) _ Q
        refine hm_st hR (hm_st hR ⟨rfl, hm_le rfl, (hm_ltN hN rfl), hm_st hR (?_)⟩)
        refine hm_st hR ⟨hm_le rfl, rfl, (hm_le rfl), (hm_ltN hN rfl), hm_le rfl, hm_le rfl, (0, 0), Nat.zero_le _, Nat.zero_le _, ?_⟩
        refine sp_160 hR hN ?_
        show R 17 47 [(0, .ref 2), (1, .int p1), (2, .int p2), (3, .int p3)] [.int (T_160 s p1)] (N, hm_sh L g, s) _ Q
        show R 17 47 [(0, .ref 2), (1, .int p1), (2, .int p2), (3, .int p3)] [.int (T_160 s p1)] (N, hm_sh L g, s) _ Q
        by_cases c47 : ((T_160 s p1) : Int32) = 0
        · rw [if_pos c47] at hq
          exact hm_st hR ⟨hm_le rfl, hm_le rfl, hm_le rfl, (1, 6), (by show 1 ≤ b.1 - 0 - 0 - 0 - 0 - 0 - 0; omega), (by show 6 ≤ b.2 - 0 - 0 - 0 - 0 - 0 - 0; omega), hm_needT32 hR hN c47 (fun N2 hN2 => hm_KX (by decide) (hq N2 hN2))⟩
        · rw [if_neg c47] at hq
          refine hm_st hR ⟨hm_le rfl, hm_le rfl, hm_le rfl, (0, 0), Nat.zero_le _, Nat.zero_le _, hm_needP32 hR c47 ?_⟩
          show R 17 50 [(0, .ref 2), (1, .int p1), (2, .int p2), (3, .int p3)] [] (N, hm_sh L g, s) _ Q
          refine hm_st hR (hm_st hR ⟨rfl, hm_le rfl, (hm_ltN hN rfl), hm_st hR (hm_st hR (hm_st hR (?_)))⟩)
          refine hm_st hR ⟨hm_le rfl, rfl, (hm_le rfl), (hm_ltN hN rfl), hm_le rfl, hm_le rfl, (0, 0), Nat.zero_le _, Nat.zero_le _, ?_⟩
          refine sp_167 hR hN ?_
          show R 17 60 [(0, .ref 2), (1, .int p1), (2, .int p2), (3, .int p3)] [] (N, hm_sh L g, (T_167 s p1 p2 p3)) _ Q
          refine hm_st hR (hm_st hR ⟨rfl, hm_le rfl, (hm_ltN hN rfl), hm_st hR (hm_st hR (hm_st hR (hm_st hR ⟨rfl, hm_le rfl, (hm_ltN hN rfl), ?_⟩)))⟩)
          refine hm_st hR ⟨hm_le rfl, rfl, (hm_le rfl), (hm_ltN hN rfl), hm_le rfl, hm_le rfl, (0, 0), Nat.zero_le _, Nat.zero_le _, ?_⟩
          refine sp_86 hR hN ?_
          show R 17 73 [(0, .ref 2), (1, .int p1), (2, .int p2), (3, .int p3)] [.int (T_86 (T_167 s p1 p2 p3)), .int 1, .int p1, .ref 14] (N, hm_sh L g, (T_167 s p1 p2 p3)) _ Q
          refine hm_st hR ⟨hm_le rfl, rfl, (hm_le rfl), (hm_ltN hN rfl), hm_le rfl, hm_le rfl, (0, 0), Nat.zero_le _, Nat.zero_le _, ?_⟩
          refine sp_169 hR hN ?_
          show R 17 76 [(0, .ref 2), (1, .int p1), (2, .int p2), (3, .int p3)] [.int (T_169 (T_167 s p1 p2 p3) p1 1 (T_86 (T_167 s p1 p2 p3)))] (N, hm_sh L g, (T_167 s p1 p2 p3)) _ Q
          exact hm_st hR ⟨fun z => absurd z (by decide), hm_qx0 hq⟩
