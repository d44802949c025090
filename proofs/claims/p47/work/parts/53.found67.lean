/-! found(), while the heap has 67 cells. -/
set_option maxRecDepth 20000 in
theorem fp_34 {R : hm_R} (hR : hm_Cm R) {N L : Nat} {g : Nat → hm_Sh} {s : hm_St} {b : hm_B} {Q : hm_Q} (hN : 67 ≤ N) {p1 : Int32} {p2 : Int32} {p3 : Int32} (hq : Q (.inr (some (.int (T_34 s p1 p2 p3)))) (N, hm_sh L g, s)) : R 34 0 (lv_args 0 [.int p1, .int p2, .int p3]) [] (N, hm_sh L g, s) b Q := by
  unfold T_34 at hq
  show R 34 0 [(0, .int p1), (1, .int p2), (2, .int p3)] [] (N, hm_sh L g, s) _ Q
  refine hm_st hR (hm_st hR (?_))
  show R 34 2 [(0, .int p1), (1, .int p2), (2, .int p3)] [.int p2, .int p1] (N, hm_sh L g, s) _ Q
  refine hm_st hR ⟨fun c2 => ?_, fun c2 => ?_⟩
  · rw [if_pos c2] at hq
    show R 34 14 [(0, .int p1), (1, .int p2), (2, .int p3)] [] (N, hm_sh L g, s) _ Q
    refine hm_st hR (?_)
    exact hm_st hR ⟨fun _ => Or.inl rfl, hq⟩
  · rw [if_neg c2] at hq
    show R 34 5 [(0, .int p1), (1, .int p2), (2, .int p3)] [] (N, hm_sh L g, s) _ Q
    refine hm_st hR (hm_st hR (?_))
    show R 34 7 [(0, .int p1), (1, .int p2), (2, .int p3)] [.int p3, .int p1] (N, hm_sh L g, s) _ Q
    suffices G : ∀ w : Int32, w = (if p3 < p1 then (0 : Int32) else 1) → R 34 15 [(0, .int p1), (1, .int p2), (2, .int p3)] [.int w] (N, hm_sh L g, s) b Q by
      show R 34 7 [(0, .int p1), (1, .int p2), (2, .int p3)] [.int p3, .int p1] (N, hm_sh L g, s) _ Q
      refine hm_st hR ⟨fun c => ?_, fun c => ?_⟩
      · exact hm_st hR (G _ (if_pos c).symm)
      · exact hm_st hR (hm_st hR (G _ (if_neg c).symm))
    intro w hw
    subst hw
    show R 34 15 [(0, .int p1), (1, .int p2), (2, .int p3)] [.int (if p3 < p1 then (0 : Int32) else 1)] (N, hm_sh L g, s) _ Q
    exact hm_st hR ⟨fun _ => (by split <;> first | exact Or.inl rfl | exact Or.inr rfl), hq⟩
set_option maxRecDepth 20000 in
theorem fp_35 {R : hm_R} (hR : hm_Cm R) {N L : Nat} {g : Nat → hm_Sh} {s : hm_St} {b : hm_B} {Q : hm_Q} (hN : 67 ≤ N) {p1 : Int32} (hq : Q (.inr (some (.int (T_35 s p1)))) (N, hm_sh L g, s)) : R 35 0 (lv_args 0 [.int p1]) [] (N, hm_sh L g, s) b Q := by
  unfold T_35 at hq
  show R 35 0 [(0, .int p1)] [] (N, hm_sh L g, s) _ Q
  refine hm_st hR (hm_st hR (hm_st hR (?_)))
  refine hm_st hR ⟨hm_le rfl, hm_le rfl, hm_le rfl, (0, 0), Nat.zero_le _, Nat.zero_le _, ?_⟩
  refine fp_34 hR hN ?_
  show R 35 6 [(0, .int p1)] [.int (T_34 s p1 0 5)] (N, hm_sh L g, s) _ Q
  exact hm_st hR ⟨fun _ => B_34 _ _ _ _, hq⟩
set_option maxRecDepth 20000 in
theorem fp_178 {R : hm_R} (hR : hm_Cm R) {N L : Nat} {g : Nat → hm_Sh} {s : hm_St} {b : hm_B} {Q : hm_Q} (hN : 67 ≤ N) {rr aa nn : Nat} (hrk : (hm_sh L g rr).1 = 8) (hra : (hm_sh L g rr).2.2 0 = some aa) (hr2 : 2 ≤ rr) (hrl : rr < N) (hak : (hm_sh L g aa).1 = 1000) (han : (hm_sh L g aa).2.1 = nn) (ha2 : 2 ≤ aa) (hal : aa < N) (hnn : nn < 2 ^ 31) {p1 : Int32} (hq : Q (.inr (some (.int (T_178 s aa nn p1)))) (N, hm_sh L g, s)) : R 178 0 (lv_args 0 [.ref rr, .int p1]) [] (N, hm_sh L g, s) b Q := by
  unfold T_178 at hq
  show R 178 0 [(0, .ref rr), (1, .int p1)] [] (N, hm_sh L g, s) _ Q
  refine hm_st hR (?_)
  show R 178 1 [(0, .ref rr), (1, .int p1)] [.int p1] (N, hm_sh L g, s) _ Q
  refine hm_st hR ⟨fun c1 => ?_, fun c1 => ?_⟩
  · rw [if_pos c1] at hq
    show R 178 22 [(0, .ref rr), (1, .int p1)] [] (N, hm_sh L g, s) _ Q
    refine hm_st hR (?_)
    exact hm_st hR ⟨fun z => absurd z (by decide), hq⟩
  · rw [if_neg c1] at hq
    show R 178 4 [(0, .ref rr), (1, .int p1)] [] (N, hm_sh L g, s) _ Q
    refine hm_st hR (hm_st hR (?_))
    show R 178 6 [(0, .ref rr), (1, .int p1)] [.ref rr, .int p1] (N, hm_sh L g, s) _ Q
    refine hm_rwf hR hrk hra hr2 hrl (by rfl) ?_
    show R 178 9 [(0, .ref rr), (1, .int p1)] [.ref aa, .int p1] (N, hm_sh L g, s) _ Q
    show R 178 9 [(0, .ref rr), (1, .int p1)] [.ref aa, .int p1] (N, hm_sh L g, s) _ Q
    refine hm_aln hR hak han hal (by rfl) ?_
    show R 178 10 [(0, .ref rr), (1, .int p1)] [.int (Int32.ofNat nn), .int p1] (N, hm_sh L g, s) _ Q
    show R 178 10 [(0, .ref rr), (1, .int p1)] [.int (Int32.ofNat nn), .int p1] (N, hm_sh L g, s) _ Q
    refine hm_st hR ⟨fun c10 => ?_, fun c10 => ?_⟩
    · rw [if_pos c10] at hq
      show R 178 22 [(0, .ref rr), (1, .int p1)] [] (N, hm_sh L g, s) _ Q
      refine hm_st hR (?_)
      exact hm_st hR ⟨fun z => absurd z (by decide), hq⟩
    · rw [if_neg c10] at hq
      show R 178 13 [(0, .ref rr), (1, .int p1)] [] (N, hm_sh L g, s) _ Q
      refine hm_st hR (?_)
      show R 178 14 [(0, .ref rr), (1, .int p1)] [.ref rr] (N, hm_sh L g, s) _ Q
      refine hm_rwf hR hrk hra hr2 hrl (by rfl) ?_
      show R 178 17 [(0, .ref rr), (1, .int p1)] [.ref aa] (N, hm_sh L g, s) _ Q
      refine hm_st hR (?_)
      show R 178 18 [(0, .ref rr), (1, .int p1)] [.int p1, .ref aa] (N, hm_sh L g, s) _ Q
      refine hm_ald hR hak han hal (by rfl) (hm_vin c1 c10 hnn) ?_
      show R 178 19 [(0, .ref rr), (1, .int p1)] [.int (s aa (p1).toNatClampNeg)] (N, hm_sh L g, s) _ Q
      refine hm_st hR (?_)
      exact hm_st hR ⟨fun z => absurd z (by decide), hq⟩
set_option maxRecDepth 20000 in
theorem flp_96_17 {R : hm_R} (hR : hm_Cm R) {N L : Nat} {g : Nat → hm_Sh} {b : hm_B} {Q : hm_Q} (hN : 67 ≤ N) : ∀ (n : Nat) (s : hm_St) (v1 : Int32) (v2 : Int32) (v3 : Int32) (v4 : Int32) (v5 : Int32) (v6 : Int32) (v7 : Int32), v7.toInt.toNat < n → (hq : Q (.inr (some (.int (T_96_17 n s v1 v2 v3 v4 v5 v6 v7)))) (N, hm_sh L g, s)) → R 96 17 [(7, .int v7), (6, .int v6), (5, .int v5), (4, .int v4), (0, .ref 3), (1, .int v1), (2, .int v2), (3, .int v3)] [] (N, hm_sh L g, s) b Q := by
  intro n
  induction n with
  | zero => intro s v1 v2 v3 v4 v5 v6 v7 hm _; exact absurd hm (Nat.not_lt_zero _)
  | succ n ih =>
    intro s v1 v2 v3 v4 v5 v6 v7 hm hq
    unfold T_96_17 at hq
    refine hm_st hR (?_)
    show R 96 19 [(7, .int v7), (6, .int v6), (5, .int v5), (4, .int v4), (0, .ref 3), (1, .int v1), (2, .int v2), (3, .int v3)] [.int v7] (N, hm_sh L g, s) _ Q
    refine hm_st hR ⟨fun c19 => ?_, fun c19 => ?_⟩
    · rw [if_pos c19] at hq
      show R 96 227 [(7, .int v7), (6, .int v6), (5, .int v5), (4, .int v4), (0, .ref 3), (1, .int v1), (2, .int v2), (3, .int v3)] [] (N, hm_sh L g, s) _ Q
      refine hm_st hR (?_)
      exact hm_st hR ⟨fun z => absurd z (by decide), hq⟩
    · rw [if_neg c19] at hq
      show R 96 22 [(7, .int v7), (6, .int v6), (5, .int v5), (4, .int v4), (0, .ref 3), (1, .int v1), (2, .int v2), (3, .int v3)] [] (N, hm_sh L g, s) _ Q
      refine hm_st hR (hm_st hR (?_))
      show R 96 26 [(7, .int v7), (6, .int v6), (5, .int v5), (4, .int v4), (0, .ref 3), (1, .int v1), (2, .int v2), (3, .int v3)] [.int v7, .int v5] (N, hm_sh L g, s) _ Q
      suffices G : ∀ w : Int32, w = (if v5 < v7 then (0 : Int32) else 1) → R 96 34 [(7, .int v7), (6, .int v6), (5, .int v5), (4, .int v4), (0, .ref 3), (1, .int v1), (2, .int v2), (3, .int v3)] [.int w] (N, hm_sh L g, s) b Q by
        show R 96 26 [(7, .int v7), (6, .int v6), (5, .int v5), (4, .int v4), (0, .ref 3), (1, .int v1), (2, .int v2), (3, .int v3)] [.int v7, .int v5] (N, hm_sh L g, s) _ Q
        refine hm_st hR ⟨fun c => ?_, fun c => ?_⟩
        · exact hm_st hR (G _ (if_pos c).symm)
        · exact hm_st hR (hm_st hR (G _ (if_neg c).symm))
      intro w hw
      subst hw
      show R 96 34 [(7, .int v7), (6, .int v6), (5, .int v5), (4, .int v4), (0, .ref 3), (1, .int v1), (2, .int v2), (3, .int v3)] [.int (if v5 < v7 then (0 : Int32) else 1)] (N, hm_sh L g, s) _ Q
      refine hm_st hR (hm_st hR (hm_st hR (?_)))
      show R 96 40 [(8, .int (if v5 < v7 then (0 : Int32) else 1)), (7, .int v7), (6, .int v6), (5, .int v5), (4, .int v4), (0, .ref 3), (1, .int v1), (2, .int v2), (3, .int v3)] [.int v7, .int v6] (N, hm_sh L g, s) _ Q
      suffices G : ∀ w : Int32, w = (if v6 < v7 then (0 : Int32) else 1) → R 96 48 [(8, .int (if v5 < v7 then (0 : Int32) else 1)), (7, .int v7), (6, .int v6), (5, .int v5), (4, .int v4), (0, .ref 3), (1, .int v1), (2, .int v2), (3, .int v3)] [.int w] (N, hm_sh L g, s) b Q by
        show R 96 40 [(8, .int (if v5 < v7 then (0 : Int32) else 1)), (7, .int v7), (6, .int v6), (5, .int v5), (4, .int v4), (0, .ref 3), (1, .int v1), (2, .int v2), (3, .int v3)] [.int v7, .int v6] (N, hm_sh L g, s) _ Q
        refine hm_st hR ⟨fun c => ?_, fun c => ?_⟩
        · exact hm_st hR (G _ (if_pos c).symm)
        · exact hm_st hR (hm_st hR (G _ (if_neg c).symm))
      intro w hw
      subst hw
      show R 96 48 [(8, .int (if v5 < v7 then (0 : Int32) else 1)), (7, .int v7), (6, .int v6), (5, .int v5), (4, .int v4), (0, .ref 3), (1, .int v1), (2, .int v2), (3, .int v3)] [.int (if v6 < v7 then (0 : Int32) else 1)] (N, hm_sh L g, s) _ Q
      refine hm_st hR (hm_st hR (hm_st hR (hm_st hR (hm_st hR (hm_st hR (hm_st hR (?_)))))))
      show R 96 57 [(9, .int (if v6 < v7 then (0 : Int32) else 1)), (8, .int (if v5 < v7 then (0 : Int32) else 1)), (7, .int v7), (6, .int v6), (5, .int v5), (4, .int v4), (0, .ref 3), (1, .int v1), (2, .int v2), (3, .int v3)] [.int (if v5 < v7 then (0 : Int32) else 1), .int (4 * (v1 - 2))] (N, hm_sh L g, s) _ Q
      suffices G : ∀ w : Int32, w = (if (if v5 < v7 then (0 : Int32) else 1) = 0 then (0 : Int32) else 1) → R 96 65 [(9, .int (if v6 < v7 then (0 : Int32) else 1)), (8, .int (if v5 < v7 then (0 : Int32) else 1)), (7, .int v7), (6, .int v6), (5, .int v5), (4, .int v4), (0, .ref 3), (1, .int v1), (2, .int v2), (3, .int v3)] [.int w, .int (4 * (v1 - 2))] (N, hm_sh L g, s) b Q by
        show R 96 57 [(9, .int (if v6 < v7 then (0 : Int32) else 1)), (8, .int (if v5 < v7 then (0 : Int32) else 1)), (7, .int v7), (6, .int v6), (5, .int v5), (4, .int v4), (0, .ref 3), (1, .int v1), (2, .int v2), (3, .int v3)] [.int (if v5 < v7 then (0 : Int32) else 1), .int (4 * (v1 - 2))] (N, hm_sh L g, s) _ Q
        refine hm_st hR ⟨fun c => ?_, fun c => ?_⟩
        · exact hm_st hR (G _ (if_pos c).symm)
        · exact hm_st hR (hm_st hR (G _ (if_neg c).symm))
      intro w hw
      subst hw
      show R 96 65 [(9, .int (if v6 < v7 then (0 : Int32) else 1)), (8, .int (if v5 < v7 then (0 : Int32) else 1)), (7, .int v7), (6, .int v6), (5, .int v5), (4, .int v4), (0, .ref 3), (1, .int v1), (2, .int v2), (3, .int v3)] [.int (if (if v5 < v7 then (0 : Int32) else 1) = 0 then (0 : Int32) else 1), .int (4 * (v1 - 2))] (N, hm_sh L g, s) _ Q
      refine hm_st hR (hm_st hR (?_))
      show R 96 68 [(9, .int (if v6 < v7 then (0 : Int32) else 1)), (8, .int (if v5 < v7 then (0 : Int32) else 1)), (7, .int v7), (6, .int v6), (5, .int v5), (4, .int v4), (0, .ref 3), (1, .int v1), (2, .int v2), (3, .int v3)] [.int (if v6 < v7 then (0 : Int32) else 1), .int ((4 * (v1 - 2)) + (if (if v5 < v7 then (0 : Int32) else 1) = 0 then (0 : Int32) else 1))] (N, hm_sh L g, s) _ Q
      suffices G : ∀ w : Int32, w = (if (if v6 < v7 then (0 : Int32) else 1) = 0 then (0 : Int32) else 2) → R 96 76 [(9, .int (if v6 < v7 then (0 : Int32) else 1)), (8, .int (if v5 < v7 then (0 : Int32) else 1)), (7, .int v7), (6, .int v6), (5, .int v5), (4, .int v4), (0, .ref 3), (1, .int v1), (2, .int v2), (3, .int v3)] [.int w, .int ((4 * (v1 - 2)) + (if (if v5 < v7 then (0 : Int32) else 1) = 0 then (0 : Int32) else 1))] (N, hm_sh L g, s) b Q by
        show R 96 68 [(9, .int (if v6 < v7 then (0 : Int32) else 1)), (8, .int (if v5 < v7 then (0 : Int32) else 1)), (7, .int v7), (6, .int v6), (5, .int v5), (4, .int v4), (0, .ref 3), (1, .int v1), (2, .int v2), (3, .int v3)] [.int (if v6 < v7 then (0 : Int32) else 1), .int ((4 * (v1 - 2)) + (if (if v5 < v7 then (0 : Int32) else 1) = 0 then (0 : Int32) else 1))] (N, hm_sh L g, s) _ Q
        refine hm_st hR ⟨fun c => ?_, fun c => ?_⟩
        · exact hm_st hR (G _ (if_pos c).symm)
        · exact hm_st hR (hm_st hR (G _ (if_neg c).symm))
      intro w hw
      subst hw
      show R 96 76 [(9, .int (if v6 < v7 then (0 : Int32) else 1)), (8, .int (if v5 < v7 then (0 : Int32) else 1)), (7, .int v7), (6, .int v6), (5, .int v5), (4, .int v4), (0, .ref 3), (1, .int v1), (2, .int v2), (3, .int v3)] [.int (if (if v6 < v7 then (0 : Int32) else 1) = 0 then (0 : Int32) else 2), .int ((4 * (v1 - 2)) + (if (if v5 < v7 then (0 : Int32) else 1) = 0 then (0 : Int32) else 1))] (N, hm_sh L g, s) _ Q
      refine hm_st hR (hm_st hR (hm_st hR (hm_st hR ⟨rfl, hm_le rfl, (hm_ltM (M := 67) hN rfl), hm_st hR (?_)⟩)))
      refine hm_st hR ⟨hm_le rfl, rfl, (hm_le rfl), (hm_ltM (M := 67) hN rfl), hm_le rfl, hm_le rfl, (0, 0), Nat.zero_le _, Nat.zero_le _, ?_⟩
      refine fp_178 hR hN (rr := 6) (aa := 7) (nn := 16) rfl rfl (hm_le rfl) (hm_ltM (M := 67) hN rfl) rfl rfl (hm_le rfl) (hm_ltM (M := 67) hN rfl) (by decide) ?_
      show R 96 88 [(10, .int (((4 * (v1 - 2)) + (if (if v5 < v7 then (0 : Int32) else 1) = 0 then (0 : Int32) else 1)) + (if (if v6 < v7 then (0 : Int32) else 1) = 0 then (0 : Int32) else 2))), (9, .int (if v6 < v7 then (0 : Int32) else 1)), (8, .int (if v5 < v7 then (0 : Int32) else 1)), (7, .int v7), (6, .int v6), (5, .int v5), (4, .int v4), (0, .ref 3), (1, .int v1), (2, .int v2), (3, .int v3)] [.int (T_178 s 7 16 (((4 * (v1 - 2)) + (if (if v5 < v7 then (0 : Int32) else 1) = 0 then (0 : Int32) else 1)) + (if (if v6 < v7 then (0 : Int32) else 1) = 0 then (0 : Int32) else 2)))] (N, hm_sh L g, s) _ Q
      refine hm_st hR (hm_st hR (?_))
      show R 96 92 [(11, .int (T_178 s 7 16 (((4 * (v1 - 2)) + (if (if v5 < v7 then (0 : Int32) else 1) = 0 then (0 : Int32) else 1)) + (if (if v6 < v7 then (0 : Int32) else 1) = 0 then (0 : Int32) else 2)))), (10, .int (((4 * (v1 - 2)) + (if (if v5 < v7 then (0 : Int32) else 1) = 0 then (0 : Int32) else 1)) + (if (if v6 < v7 then (0 : Int32) else 1) = 0 then (0 : Int32) else 2))), (9, .int (if v6 < v7 then (0 : Int32) else 1)), (8, .int (if v5 < v7 then (0 : Int32) else 1)), (7, .int v7), (6, .int v6), (5, .int v5), (4, .int v4), (0, .ref 3), (1, .int v1), (2, .int v2), (3, .int v3)] [.int (if v5 < v7 then (0 : Int32) else 1)] (N, hm_sh L g, s) _ Q
      suffices G : ∀ w : Int32, w = (if (if v5 < v7 then (0 : Int32) else 1) = 0 then (v5 : Int32) else (v5 - v7)) → R 96 105 [(11, .int (T_178 s 7 16 (((4 * (v1 - 2)) + (if (if v5 < v7 then (0 : Int32) else 1) = 0 then (0 : Int32) else 1)) + (if (if v6 < v7 then (0 : Int32) else 1) = 0 then (0 : Int32) else 2)))), (10, .int (((4 * (v1 - 2)) + (if (if v5 < v7 then (0 : Int32) else 1) = 0 then (0 : Int32) else 1)) + (if (if v6 < v7 then (0 : Int32) else 1) = 0 then (0 : Int32) else 2))), (9, .int (if v6 < v7 then (0 : Int32) else 1)), (8, .int (if v5 < v7 then (0 : Int32) else 1)), (7, .int v7), (6, .int v6), (5, .int v5), (4, .int v4), (0, .ref 3), (1, .int v1), (2, .int v2), (3, .int v3)] [.int w] (N, hm_sh L g, s) (b.1 - 0, b.2 - 0) Q by
        show R 96 92 [(11, .int (T_178 s 7 16 (((4 * (v1 - 2)) + (if (if v5 < v7 then (0 : Int32) else 1) = 0 then (0 : Int32) else 1)) + (if (if v6 < v7 then (0 : Int32) else 1) = 0 then (0 : Int32) else 2)))), (10, .int (((4 * (v1 - 2)) + (if (if v5 < v7 then (0 : Int32) else 1) = 0 then (0 : Int32) else 1)) + (if (if v6 < v7 then (0 : Int32) else 1) = 0 then (0 : Int32) else 2))), (9, .int (if v6 < v7 then (0 : Int32) else 1)), (8, .int (if v5 < v7 then (0 : Int32) else 1)), (7, .int v7), (6, .int v6), (5, .int v5), (4, .int v4), (0, .ref 3), (1, .int v1), (2, .int v2), (3, .int v3)] [.int (if v5 < v7 then (0 : Int32) else 1)] (N, hm_sh L g, s) _ Q
        refine hm_st hR ⟨fun c => ?_, fun c => ?_⟩
        · exact hm_st hR (G _ (if_pos c).symm)
        · exact hm_st hR (hm_st hR (hm_st hR (hm_st hR (G _ (if_neg c).symm))))
      intro w hw
      subst hw
      show R 96 105 [(11, .int (T_178 s 7 16 (((4 * (v1 - 2)) + (if (if v5 < v7 then (0 : Int32) else 1) = 0 then (0 : Int32) else 1)) + (if (if v6 < v7 then (0 : Int32) else 1) = 0 then (0 : Int32) else 2)))), (10, .int (((4 * (v1 - 2)) + (if (if v5 < v7 then (0 : Int32) else 1) = 0 then (0 : Int32) else 1)) + (if (if v6 < v7 then (0 : Int32) else 1) = 0 then (0 : Int32) else 2))), (9, .int (if v6 < v7 then (0 : Int32) else 1)), (8, .int (if v5 < v7 then (0 : Int32) else 1)), (7, .int v7), (6, .int v6), (5, .int v5), (4, .int v4), (0, .ref 3), (1, .int v1), (2, .int v2), (3, .int v3)] [.int (if (if v5 < v7 then (0 : Int32) else 1) = 0 then (v5 : Int32) else (v5 - v7))] (N, hm_sh L g, s) _ Q
      refine hm_st hR (hm_st hR (?_))
      show R 96 109 [(12, .int (if (if v5 < v7 then (0 : Int32) else 1) = 0 then (v5 : Int32) else (v5 - v7))), (11, .int (T_178 s 7 16 (((4 * (v1 - 2)) + (if (if v5 < v7 then (0 : Int32) else 1) = 0 then (0 : Int32) else 1)) + (if (if v6 < v7 then (0 : Int32) else 1) = 0 then (0 : Int32) else 2)))), (10, .int (((4 * (v1 - 2)) + (if (if v5 < v7 then (0 : Int32) else 1) = 0 then (0 : Int32) else 1)) + (if (if v6 < v7 then (0 : Int32) else 1) = 0 then (0 : Int32) else 2))), (9, .int (if v6 < v7 then (0 : Int32) else 1)), (8, .int (if v5 < v7 then (0 : Int32) else 1)), (7, .int v7), (6, .int v6), (5, .int v5), (4, .int v4), (0, .ref 3), (1, .int v1), (2, .int v2), (3, .int v3)] [.int (if v6 < v7 then (0 : Int32) else 1)] (N, hm_sh L g, s) _ Q
      suffices G : ∀ w : Int32, w = (if (if v6 < v7 then (0 : Int32) else 1) = 0 then (v6 : Int32) else (v6 - v7)) → R 96 122 [(12, .int (if (if v5 < v7 then (0 : Int32) else 1) = 0 then (v5 : Int32) else (v5 - v7))), (11, .int (T_178 s 7 16 (((4 * (v1 - 2)) + (if (if v5 < v7 then (0 : Int32) else 1) = 0 then (0 : Int32) else 1)) + (if (if v6 < v7 then (0 : Int32) else 1) = 0 then (0 : Int32) else 2)))), (10, .int (((4 * (v1 - 2)) + (if (if v5 < v7 then (0 : Int32) else 1) = 0 then (0 : Int32) else 1)) + (if (if v6 < v7 then (0 : Int32) else 1) = 0 then (0 : Int32) else 2))), (9, .int (if v6 < v7 then (0 : Int32) else 1)), (8, .int (if v5 < v7 then (0 : Int32) else 1)), (7, .int v7), (6, .int v6), (5, .int v5), (4, .int v4), (0, .ref 3), (1, .int v1), (2, .int v2), (3, .int v3)] [.int w] (N, hm_sh L g, s) (b.1 - 0, b.2 - 0) Q by
        show R 96 109 [(12, .int (if (if v5 < v7 then (0 : Int32) else 1) = 0 then (v5 : Int32) else (v5 - v7))), (11, .int (T_178 s 7 16 (((4 * (v1 - 2)) + (if (if v5 < v7 then (0 : Int32) else 1) = 0 then (0 : Int32) else 1)) + (if (if v6 < v7 then (0 : Int32) else 1) = 0 then (0 : Int32) else 2)))), (10, .int (((4 * (v1 - 2)) + (if (if v5 < v7 then (0 : Int32) else 1) = 0 then (0 : Int32) else 1)) + (if (if v6 < v7 then (0 : Int32) else 1) = 0 then (0 : Int32) else 2))), (9, .int (if v6 < v7 then (0 : Int32) else 1)), (8, .int (if v5 < v7 then (0 : Int32) else 1)), (7, .int v7), (6, .int v6), (5, .int v5), (4, .int v4), (0, .ref 3), (1, .int v1), (2, .int v2), (3, .int v3)] [.int (if v6 < v7 then (0 : Int32) else 1)] (N, hm_sh L g, s) _ Q
        refine hm_st hR ⟨fun c => ?_, fun c => ?_⟩
        · exact hm_st hR (G _ (if_pos c).symm)
        · exact hm_st hR (hm_st hR (hm_st hR (hm_st hR (G _ (if_neg c).symm))))
      intro w hw
      subst hw
      show R 96 122 [(12, .int (if (if v5 < v7 then (0 : Int32) else 1) = 0 then (v5 : Int32) else (v5 - v7))), (11, .int (T_178 s 7 16 (((4 * (v1 - 2)) + (if (if v5 < v7 then (0 : Int32) else 1) = 0 then (0 : Int32) else 1)) + (if (if v6 < v7 then (0 : Int32) else 1) = 0 then (0 : Int32) else 2)))), (10, .int (((4 * (v1 - 2)) + (if (if v5 < v7 then (0 : Int32) else 1) = 0 then (0 : Int32) else 1)) + (if (if v6 < v7 then (0 : Int32) else 1) = 0 then (0 : Int32) else 2))), (9, .int (if v6 < v7 then (0 : Int32) else 1)), (8, .int (if v5 < v7 then (0 : Int32) else 1)), (7, .int v7), (6, .int v6), (5, .int v5), (4, .int v4), (0, .ref 3), (1, .int v1), (2, .int v2), (3, .int v3)] [.int (if (if v6 < v7 then (0 : Int32) else 1) = 0 then (v6 : Int32) else (v6 - v7))] (N, hm_sh L g, s) _ Q
      refine hm_st hR (hm_st hR (hm_st hR (hm_st hR (?_))))
      show R 96 128 [(13, .int (if (if v6 < v7 then (0 : Int32) else 1) = 0 then (v6 : Int32) else (v6 - v7))), (12, .int (if (if v5 < v7 then (0 : Int32) else 1) = 0 then (v5 : Int32) else (v5 - v7))), (11, .int (T_178 s 7 16 (((4 * (v1 - 2)) + (if (if v5 < v7 then (0 : Int32) else 1) = 0 then (0 : Int32) else 1)) + (if (if v6 < v7 then (0 : Int32) else 1) = 0 then (0 : Int32) else 2)))), (10, .int (((4 * (v1 - 2)) + (if (if v5 < v7 then (0 : Int32) else 1) = 0 then (0 : Int32) else 1)) + (if (if v6 < v7 then (0 : Int32) else 1) = 0 then (0 : Int32) else 2))), (9, .int (if v6 < v7 then (0 : Int32) else 1)), (8, .int (if v5 < v7 then (0 : Int32) else 1)), (7, .int v7), (6, .int v6), (5, .int v5), (4, .int v4), (0, .ref 3), (1, .int v1), (2, .int v2), (3, .int v3)] [.int ((T_178 s 7 16 (((4 * (v1 - 2)) + (if (if v5 < v7 then (0 : Int32) else 1) = 0 then (0 : Int32) else 1)) + (if (if v6 < v7 then (0 : Int32) else 1) = 0 then (0 : Int32) else 2))) &&& 1)] (N, hm_sh L g, s) _ Q
      suffices G : ∀ w : Int32, w = (if ((T_178 s 7 16 (((4 * (v1 - 2)) + (if (if v5 < v7 then (0 : Int32) else 1) = 0 then (0 : Int32) else 1)) + (if (if v6 < v7 then (0 : Int32) else 1) = 0 then (0 : Int32) else 2))) &&& 1) = 0 then ((if (if v5 < v7 then (0 : Int32) else 1) = 0 then (v5 : Int32) else (v5 - v7)) : Int32) else (if (if v6 < v7 then (0 : Int32) else 1) = 0 then (v6 : Int32) else (v6 - v7))) → R 96 138 [(13, .int (if (if v6 < v7 then (0 : Int32) else 1) = 0 then (v6 : Int32) else (v6 - v7))), (12, .int (if (if v5 < v7 then (0 : Int32) else 1) = 0 then (v5 : Int32) else (v5 - v7))), (11, .int (T_178 s 7 16 (((4 * (v1 - 2)) + (if (if v5 < v7 then (0 : Int32) else 1) = 0 then (0 : Int32) else 1)) + (if (if v6 < v7 then (0 : Int32) else 1) = 0 then (0 : Int32) else 2)))), (10, .int (((4 * (v1 - 2)) + (if (if v5 < v7 then (0 : Int32) else 1) = 0 then (0 : Int32) else 1)) + (if (if v6 < v7 then (0 : Int32) else 1) = 0 then (0 : Int32) else 2))), (9, .int (if v6 < v7 then (0 : Int32) else 1)), (8, .int (if v5 < v7 then (0 : Int32) else 1)), (7, .int v7), (6, .int v6), (5, .int v5), (4, .int v4), (0, .ref 3), (1, .int v1), (2, .int v2), (3, .int v3)] [.int w] (N, hm_sh L g, s) (b.1 - 0, b.2 - 0) Q by
        show R 96 128 [(13, .int (if (if v6 < v7 then (0 : Int32) else 1) = 0 then (v6 : Int32) else (v6 - v7))), (12, .int (if (if v5 < v7 then (0 : Int32) else 1) = 0 then (v5 : Int32) else (v5 - v7))), (11, .int (T_178 s 7 16 (((4 * (v1 - 2)) + (if (if v5 < v7 then (0 : Int32) else 1) = 0 then (0 : Int32) else 1)) + (if (if v6 < v7 then (0 : Int32) else 1) = 0 then (0 : Int32) else 2)))), (10, .int (((4 * (v1 - 2)) + (if (if v5 < v7 then (0 : Int32) else 1) = 0 then (0 : Int32) else 1)) + (if (if v6 < v7 then (0 : Int32) else 1) = 0 then (0 : Int32) else 2))), (9, .int (if v6 < v7 then (0 : Int32) else 1)), (8, .int (if v5 < v7 then (0 : Int32) else 1)), (7, .int v7), (6, .int v6), (5, .int v5), (4, .int v4), (0, .ref 3), (1, .int v1), (2, .int v2), (3, .int v3)] [.int ((T_178 s 7 16 (((4 * (v1 - 2)) + (if (if v5 < v7 then (0 : Int32) else 1) = 0 then (0 : Int32) else 1)) + (if (if v6 < v7 then (0 : Int32) else 1) = 0 then (0 : Int32) else 2))) &&& 1)] (N, hm_sh L g, s) _ Q
        refine hm_st hR ⟨fun c => ?_, fun c => ?_⟩
        · exact hm_st hR (G _ (if_neg c).symm)
        · exact hm_st hR (hm_st hR (G _ (if_pos c).symm))
      intro w hw
      subst hw
      show R 96 138 [(13, .int (if (if v6 < v7 then (0 : Int32) else 1) = 0 then (v6 : Int32) else (v6 - v7))), (12, .int (if (if v5 < v7 then (0 : Int32) else 1) = 0 then (v5 : Int32) else (v5 - v7))), (11, .int (T_178 s 7 16 (((4 * (v1 - 2)) + (if (if v5 < v7 then (0 : Int32) else 1) = 0 then (0 : Int32) else 1)) + (if (if v6 < v7 then (0 : Int32) else 1) = 0 then (0 : Int32) else 2)))), (10, .int (((4 * (v1 - 2)) + (if (if v5 < v7 then (0 : Int32) else 1) = 0 then (0 : Int32) else 1)) + (if (if v6 < v7 then (0 : Int32) else 1) = 0 then (0 : Int32) else 2))), (9, .int (if v6 < v7 then (0 : Int32) else 1)), (8, .int (if v5 < v7 then (0 : Int32) else 1)), (7, .int v7), (6, .int v6), (5, .int v5), (4, .int v4), (0, .ref 3), (1, .int v1), (2, .int v2), (3, .int v3)] [.int (if ((T_178 s 7 16 (((4 * (v1 - 2)) + (if (if v5 < v7 then (0 : Int32) else 1) = 0 then (0 : Int32) else 1)) + (if (if v6 < v7 then (0 : Int32) else 1) = 0 then (0 : Int32) else 2))) &&& 1) = 0 then ((if (if v5 < v7 then (0 : Int32) else 1) = 0 then (v5 : Int32) else (v5 - v7)) : Int32) else (if (if v6 < v7 then (0 : Int32) else 1) = 0 then (v6 : Int32) else (v6 - v7)))] (N, hm_sh L g, s) _ Q
      refine hm_st hR (hm_st hR (hm_st hR (hm_st hR (?_))))
      show R 96 144 [(5, .int (if ((T_178 s 7 16 (((4 * (v1 - 2)) + (if (if v5 < v7 then (0 : Int32) else 1) = 0 then (0 : Int32) else 1)) + (if (if v6 < v7 then (0 : Int32) else 1) = 0 then (0 : Int32) else 2))) &&& 1) = 0 then ((if (if v5 < v7 then (0 : Int32) else 1) = 0 then (v5 : Int32) else (v5 - v7)) : Int32) else (if (if v6 < v7 then (0 : Int32) else 1) = 0 then (v6 : Int32) else (v6 - v7)))), (13, .int (if (if v6 < v7 then (0 : Int32) else 1) = 0 then (v6 : Int32) else (v6 - v7))), (12, .int (if (if v5 < v7 then (0 : Int32) else 1) = 0 then (v5 : Int32) else (v5 - v7))), (11, .int (T_178 s 7 16 (((4 * (v1 - 2)) + (if (if v5 < v7 then (0 : Int32) else 1) = 0 then (0 : Int32) else 1)) + (if (if v6 < v7 then (0 : Int32) else 1) = 0 then (0 : Int32) else 2)))), (10, .int (((4 * (v1 - 2)) + (if (if v5 < v7 then (0 : Int32) else 1) = 0 then (0 : Int32) else 1)) + (if (if v6 < v7 then (0 : Int32) else 1) = 0 then (0 : Int32) else 2))), (9, .int (if v6 < v7 then (0 : Int32) else 1)), (8, .int (if v5 < v7 then (0 : Int32) else 1)), (7, .int v7), (6, .int v6), (4, .int v4), (0, .ref 3), (1, .int v1), (2, .int v2), (3, .int v3)] [.int ((T_178 s 7 16 (((4 * (v1 - 2)) + (if (if v5 < v7 then (0 : Int32) else 1) = 0 then (0 : Int32) else 1)) + (if (if v6 < v7 then (0 : Int32) else 1) = 0 then (0 : Int32) else 2))) &&& 1)] (N, hm_sh L g, s) _ Q
      suffices G : ∀ w : Int32, w = (if ((T_178 s 7 16 (((4 * (v1 - 2)) + (if (if v5 < v7 then (0 : Int32) else 1) = 0 then (0 : Int32) else 1)) + (if (if v6 < v7 then (0 : Int32) else 1) = 0 then (0 : Int32) else 2))) &&& 1) = 0 then ((if (if v6 < v7 then (0 : Int32) else 1) = 0 then (v6 : Int32) else (v6 - v7)) : Int32) else (if (if v5 < v7 then (0 : Int32) else 1) = 0 then (v5 : Int32) else (v5 - v7))) → R 96 154 [(5, .int (if ((T_178 s 7 16 (((4 * (v1 - 2)) + (if (if v5 < v7 then (0 : Int32) else 1) = 0 then (0 : Int32) else 1)) + (if (if v6 < v7 then (0 : Int32) else 1) = 0 then (0 : Int32) else 2))) &&& 1) = 0 then ((if (if v5 < v7 then (0 : Int32) else 1) = 0 then (v5 : Int32) else (v5 - v7)) : Int32) else (if (if v6 < v7 then (0 : Int32) else 1) = 0 then (v6 : Int32) else (v6 - v7)))), (13, .int (if (if v6 < v7 then (0 : Int32) else 1) = 0 then (v6 : Int32) else (v6 - v7))), (12, .int (if (if v5 < v7 then (0 : Int32) else 1) = 0 then (v5 : Int32) else (v5 - v7))), (11, .int (T_178 s 7 16 (((4 * (v1 - 2)) + (if (if v5 < v7 then (0 : Int32) else 1) = 0 then (0 : Int32) else 1)) + (if (if v6 < v7 then (0 : Int32) else 1) = 0 then (0 : Int32) else 2)))), (10, .int (((4 * (v1 - 2)) + (if (if v5 < v7 then (0 : Int32) else 1) = 0 then (0 : Int32) else 1)) + (if (if v6 < v7 then (0 : Int32) else 1) = 0 then (0 : Int32) else 2))), (9, .int (if v6 < v7 then (0 : Int32) else 1)), (8, .int (if v5 < v7 then (0 : Int32) else 1)), (7, .int v7), (6, .int v6), (4, .int v4), (0, .ref 3), (1, .int v1), (2, .int v2), (3, .int v3)] [.int w] (N, hm_sh L g, s) (b.1 - 0, b.2 - 0) Q by
        show R 96 144 [(5, .int (if ((T_178 s 7 16 (((4 * (v1 - 2)) + (if (if v5 < v7 then (0 : Int32) else 1) = 0 then (0 : Int32) else 1)) + (if (if v6 < v7 then (0 : Int32) else 1) = 0 then (0 : Int32) else 2))) &&& 1) = 0 then ((if (if v5 < v7 then (0 : Int32) else 1) = 0 then (v5 : Int32) else (v5 - v7)) : Int32) else (if (if v6 < v7 then (0 : Int32) else 1) = 0 then (v6 : Int32) else (v6 - v7)))), (13, .int (if (if v6 < v7 then (0 : Int32) else 1) = 0 then (v6 : Int32) else (v6 - v7))), (12, .int (if (if v5 < v7 then (0 : Int32) else 1) = 0 then (v5 : Int32) else (v5 - v7))), (11, .int (T_178 s 7 16 (((4 * (v1 - 2)) + (if (if v5 < v7 then (0 : Int32) else 1) = 0 then (0 : Int32) else 1)) + (if (if v6 < v7 then (0 : Int32) else 1) = 0 then (0 : Int32) else 2)))), (10, .int (((4 * (v1 - 2)) + (if (if v5 < v7 then (0 : Int32) else 1) = 0 then (0 : Int32) else 1)) + (if (if v6 < v7 then (0 : Int32) else 1) = 0 then (0 : Int32) else 2))), (9, .int (if v6 < v7 then (0 : Int32) else 1)), (8, .int (if v5 < v7 then (0 : Int32) else 1)), (7, .int v7), (6, .int v6), (4, .int v4), (0, .ref 3), (1, .int v1), (2, .int v2), (3, .int v3)] [.int ((T_178 s 7 16 (((4 * (v1 - 2)) + (if (if v5 < v7 then (0 : Int32) else 1) = 0 then (0 : Int32) else 1)) + (if (if v6 < v7 then (0 : Int32) else 1) = 0 then (0 : Int32) else 2))) &&& 1)] (N, hm_sh L g, s) _ Q
        refine hm_st hR ⟨fun c => ?_, fun c => ?_⟩
        · exact hm_st hR (G _ (if_neg c).symm)
        · exact hm_st hR (hm_st hR (G _ (if_pos c).symm))
      intro w hw
      subst hw
      show R 96 154 [(5, .int (if ((T_178 s 7 16 (((4 * (v1 - 2)) + (if (if v5 < v7 then (0 : Int32) else 1) = 0 then (0 : Int32) else 1)) + (if (if v6 < v7 then (0 : Int32) else 1) = 0 then (0 : Int32) else 2))) &&& 1) = 0 then ((if (if v5 < v7 then (0 : Int32) else 1) = 0 then (v5 : Int32) else (v5 - v7)) : Int32) else (if (if v6 < v7 then (0 : Int32) else 1) = 0 then (v6 : Int32) else (v6 - v7)))), (13, .int (if (if v6 < v7 then (0 : Int32) else 1) = 0 then (v6 : Int32) else (v6 - v7))), (12, .int (if (if v5 < v7 then (0 : Int32) else 1) = 0 then (v5 : Int32) else (v5 - v7))), (11, .int (T_178 s 7 16 (((4 * (v1 - 2)) + (if (if v5 < v7 then (0 : Int32) else 1) = 0 then (0 : Int32) else 1)) + (if (if v6 < v7 then (0 : Int32) else 1) = 0 then (0 : Int32) else 2)))), (10, .int (((4 * (v1 - 2)) + (if (if v5 < v7 then (0 : Int32) else 1) = 0 then (0 : Int32) else 1)) + (if (if v6 < v7 then (0 : Int32) else 1) = 0 then (0 : Int32) else 2))), (9, .int (if v6 < v7 then (0 : Int32) else 1)), (8, .int (if v5 < v7 then (0 : Int32) else 1)), (7, .int v7), (6, .int v6), (4, .int v4), (0, .ref 3), (1, .int v1), (2, .int v2), (3, .int v3)] [.int (if ((T_178 s 7 16 (((4 * (v1 - 2)) + (if (if v5 < v7 then (0 : Int32) else 1) = 0 then (0 : Int32) else 1)) + (if (if v6 < v7 then (0 : Int32) else 1) = 0 then (0 : Int32) else 2))) &&& 1) = 0 then ((if (if v6 < v7 then (0 : Int32) else 1) = 0 then (v6 : Int32) else (v6 - v7)) : Int32) else (if (if v5 < v7 then (0 : Int32) else 1) = 0 then (v5 : Int32) else (v5 - v7)))] (N, hm_sh L g, s) _ Q
      refine hm_st hR (hm_st hR (hm_st hR (hm_st hR (?_))))
      show R 96 160 [(6, .int (if ((T_178 s 7 16 (((4 * (v1 - 2)) + (if (if v5 < v7 then (0 : Int32) else 1) = 0 then (0 : Int32) else 1)) + (if (if v6 < v7 then (0 : Int32) else 1) = 0 then (0 : Int32) else 2))) &&& 1) = 0 then ((if (if v6 < v7 then (0 : Int32) else 1) = 0 then (v6 : Int32) else (v6 - v7)) : Int32) else (if (if v5 < v7 then (0 : Int32) else 1) = 0 then (v5 : Int32) else (v5 - v7)))), (5, .int (if ((T_178 s 7 16 (((4 * (v1 - 2)) + (if (if v5 < v7 then (0 : Int32) else 1) = 0 then (0 : Int32) else 1)) + (if (if v6 < v7 then (0 : Int32) else 1) = 0 then (0 : Int32) else 2))) &&& 1) = 0 then ((if (if v5 < v7 then (0 : Int32) else 1) = 0 then (v5 : Int32) else (v5 - v7)) : Int32) else (if (if v6 < v7 then (0 : Int32) else 1) = 0 then (v6 : Int32) else (v6 - v7)))), (13, .int (if (if v6 < v7 then (0 : Int32) else 1) = 0 then (v6 : Int32) else (v6 - v7))), (12, .int (if (if v5 < v7 then (0 : Int32) else 1) = 0 then (v5 : Int32) else (v5 - v7))), (11, .int (T_178 s 7 16 (((4 * (v1 - 2)) + (if (if v5 < v7 then (0 : Int32) else 1) = 0 then (0 : Int32) else 1)) + (if (if v6 < v7 then (0 : Int32) else 1) = 0 then (0 : Int32) else 2)))), (10, .int (((4 * (v1 - 2)) + (if (if v5 < v7 then (0 : Int32) else 1) = 0 then (0 : Int32) else 1)) + (if (if v6 < v7 then (0 : Int32) else 1) = 0 then (0 : Int32) else 2))), (9, .int (if v6 < v7 then (0 : Int32) else 1)), (8, .int (if v5 < v7 then (0 : Int32) else 1)), (7, .int v7), (4, .int v4), (0, .ref 3), (1, .int v1), (2, .int v2), (3, .int v3)] [.int ((T_178 s 7 16 (((4 * (v1 - 2)) + (if (if v5 < v7 then (0 : Int32) else 1) = 0 then (0 : Int32) else 1)) + (if (if v6 < v7 then (0 : Int32) else 1) = 0 then (0 : Int32) else 2))) &&& 2)] (N, hm_sh L g, s) _ Q
      suffices G : ∀ w : Int32, w = (if ((T_178 s 7 16 (((4 * (v1 - 2)) + (if (if v5 < v7 then (0 : Int32) else 1) = 0 then (0 : Int32) else 1)) + (if (if v6 < v7 then (0 : Int32) else 1) = 0 then (0 : Int32) else 2))) &&& 2) = 0 then ((if ((T_178 s 7 16 (((4 * (v1 - 2)) + (if (if v5 < v7 then (0 : Int32) else 1) = 0 then (0 : Int32) else 1)) + (if (if v6 < v7 then (0 : Int32) else 1) = 0 then (0 : Int32) else 2))) &&& 1) = 0 then ((if (if v5 < v7 then (0 : Int32) else 1) = 0 then (v5 : Int32) else (v5 - v7)) : Int32) else (if (if v6 < v7 then (0 : Int32) else 1) = 0 then (v6 : Int32) else (v6 - v7))) : Int32) else ((v7 - 1) - (if ((T_178 s 7 16 (((4 * (v1 - 2)) + (if (if v5 < v7 then (0 : Int32) else 1) = 0 then (0 : Int32) else 1)) + (if (if v6 < v7 then (0 : Int32) else 1) = 0 then (0 : Int32) else 2))) &&& 1) = 0 then ((if (if v5 < v7 then (0 : Int32) else 1) = 0 then (v5 : Int32) else (v5 - v7)) : Int32) else (if (if v6 < v7 then (0 : Int32) else 1) = 0 then (v6 : Int32) else (v6 - v7))))) → R 96 175 [(6, .int (if ((T_178 s 7 16 (((4 * (v1 - 2)) + (if (if v5 < v7 then (0 : Int32) else 1) = 0 then (0 : Int32) else 1)) + (if (if v6 < v7 then (0 : Int32) else 1) = 0 then (0 : Int32) else 2))) &&& 1) = 0 then ((if (if v6 < v7 then (0 : Int32) else 1) = 0 then (v6 : Int32) else (v6 - v7)) : Int32) else (if (if v5 < v7 then (0 : Int32) else 1) = 0 then (v5 : Int32) else (v5 - v7)))), (5, .int (if ((T_178 s 7 16 (((4 * (v1 - 2)) + (if (if v5 < v7 then (0 : Int32) else 1) = 0 then (0 : Int32) else 1)) + (if (if v6 < v7 then (0 : Int32) else 1) = 0 then (0 : Int32) else 2))) &&& 1) = 0 then ((if (if v5 < v7 then (0 : Int32) else 1) = 0 then (v5 : Int32) else (v5 - v7)) : Int32) else (if (if v6 < v7 then (0 : Int32) else 1) = 0 then (v6 : Int32) else (v6 - v7)))), (13, .int (if (if v6 < v7 then (0 : Int32) else 1) = 0 then (v6 : Int32) else (v6 - v7))), (12, .int (if (if v5 < v7 then (0 : Int32) else 1) = 0 then (v5 : Int32) else (v5 - v7))), (11, .int (T_178 s 7 16 (((4 * (v1 - 2)) + (if (if v5 < v7 then (0 : Int32) else 1) = 0 then (0 : Int32) else 1)) + (if (if v6 < v7 then (0 : Int32) else 1) = 0 then (0 : Int32) else 2)))), (10, .int (((4 * (v1 - 2)) + (if (if v5 < v7 then (0 : Int32) else 1) = 0 then (0 : Int32) else 1)) + (if (if v6 < v7 then (0 : Int32) else 1) = 0 then (0 : Int32) else 2))), (9, .int (if v6 < v7 then (0 : Int32) else 1)), (8, .int (if v5 < v7 then (0 : Int32) else 1)), (7, .int v7), (4, .int v4), (0, .ref 3), (1, .int v1), (2, .int v2), (3, .int v3)] [.int w] (N, hm_sh L g, s) (b.1 - 0, b.2 - 0) Q by
        show R 96 160 [(6, .int (if ((T_178 s 7 16 (((4 * (v1 - 2)) + (if (if v5 < v7 then (0 : Int32) else 1) = 0 then (0 : Int32) else 1)) + (if (if v6 < v7 then (0 : Int32) else 1) = 0 then (0 : Int32) else 2))) &&& 1) = 0 then ((if (if v6 < v7 then (0 : Int32) else 1) = 0 then (v6 : Int32) else (v6 - v7)) : Int32) else (if (if v5 < v7 then (0 : Int32) else 1) = 0 then (v5 : Int32) else (v5 - v7)))), (5, .int (if ((T_178 s 7 16 (((4 * (v1 - 2)) + (if (if v5 < v7 then (0 : Int32) else 1) = 0 then (0 : Int32) else 1)) + (if (if v6 < v7 then (0 : Int32) else 1) = 0 then (0 : Int32) else 2))) &&& 1) = 0 then ((if (if v5 < v7 then (0 : Int32) else 1) = 0 then (v5 : Int32) else (v5 - v7)) : Int32) else (if (if v6 < v7 then (0 : Int32) else 1) = 0 then (v6 : Int32) else (v6 - v7)))), (13, .int (if (if v6 < v7 then (0 : Int32) else 1) = 0 then (v6 : Int32) else (v6 - v7))), (12, .int (if (if v5 < v7 then (0 : Int32) else 1) = 0 then (v5 : Int32) else (v5 - v7))), (11, .int (T_178 s 7 16 (((4 * (v1 - 2)) + (if (if v5 < v7 then (0 : Int32) else 1) = 0 then (0 : Int32) else 1)) + (if (if v6 < v7 then (0 : Int32) else 1) = 0 then (0 : Int32) else 2)))), (10, .int (((4 * (v1 - 2)) + (if (if v5 < v7 then (0 : Int32) else 1) = 0 then (0 : Int32) else 1)) + (if (if v6 < v7 then (0 : Int32) else 1) = 0 then (0 : Int32) else 2))), (9, .int (if v6 < v7 then (0 : Int32) else 1)), (8, .int (if v5 < v7 then (0 : Int32) else 1)), (7, .int v7), (4, .int v4), (0, .ref 3), (1, .int v1), (2, .int v2), (3, .int v3)] [.int ((T_178 s 7 16 (((4 * (v1 - 2)) + (if (if v5 < v7 then (0 : Int32) else 1) = 0 then (0 : Int32) else 1)) + (if (if v6 < v7 then (0 : Int32) else 1) = 0 then (0 : Int32) else 2))) &&& 2)] (N, hm_sh L g, s) _ Q
        refine hm_st hR ⟨fun c => ?_, fun c => ?_⟩
        · exact hm_st hR (hm_st hR (hm_st hR (hm_st hR (hm_st hR (G _ (if_neg c).symm)))))
        · exact hm_st hR (hm_st hR (G _ (if_pos c).symm))
      intro w hw
      subst hw
      show R 96 175 [(6, .int (if ((T_178 s 7 16 (((4 * (v1 - 2)) + (if (if v5 < v7 then (0 : Int32) else 1) = 0 then (0 : Int32) else 1)) + (if (if v6 < v7 then (0 : Int32) else 1) = 0 then (0 : Int32) else 2))) &&& 1) = 0 then ((if (if v6 < v7 then (0 : Int32) else 1) = 0 then (v6 : Int32) else (v6 - v7)) : Int32) else (if (if v5 < v7 then (0 : Int32) else 1) = 0 then (v5 : Int32) else (v5 - v7)))), (5, .int (if ((T_178 s 7 16 (((4 * (v1 - 2)) + (if (if v5 < v7 then (0 : Int32) else 1) = 0 then (0 : Int32) else 1)) + (if (if v6 < v7 then (0 : Int32) else 1) = 0 then (0 : Int32) else 2))) &&& 1) = 0 then ((if (if v5 < v7 then (0 : Int32) else 1) = 0 then (v5 : Int32) else (v5 - v7)) : Int32) else (if (if v6 < v7 then (0 : Int32) else 1) = 0 then (v6 : Int32) else (v6 - v7)))), (13, .int (if (if v6 < v7 then (0 : Int32) else 1) = 0 then (v6 : Int32) else (v6 - v7))), (12, .int (if (if v5 < v7 then (0 : Int32) else 1) = 0 then (v5 : Int32) else (v5 - v7))), (11, .int (T_178 s 7 16 (((4 * (v1 - 2)) + (if (if v5 < v7 then (0 : Int32) else 1) = 0 then (0 : Int32) else 1)) + (if (if v6 < v7 then (0 : Int32) else 1) = 0 then (0 : Int32) else 2)))), (10, .int (((4 * (v1 - 2)) + (if (if v5 < v7 then (0 : Int32) else 1) = 0 then (0 : Int32) else 1)) + (if (if v6 < v7 then (0 : Int32) else 1) = 0 then (0 : Int32) else 2))), (9, .int (if v6 < v7 then (0 : Int32) else 1)), (8, .int (if v5 < v7 then (0 : Int32) else 1)), (7, .int v7), (4, .int v4), (0, .ref 3), (1, .int v1), (2, .int v2), (3, .int v3)] [.int (if ((T_178 s 7 16 (((4 * (v1 - 2)) + (if (if v5 < v7 then (0 : Int32) else 1) = 0 then (0 : Int32) else 1)) + (if (if v6 < v7 then (0 : Int32) else 1) = 0 then (0 : Int32) else 2))) &&& 2) = 0 then ((if ((T_178 s 7 16 (((4 * (v1 - 2)) + (if (if v5 < v7 then (0 : Int32) else 1) = 0 then (0 : Int32) else 1)) + (if (if v6 < v7 then (0 : Int32) else 1) = 0 then (0 : Int32) else 2))) &&& 1) = 0 then ((if (if v5 < v7 then (0 : Int32) else 1) = 0 then (v5 : Int32) else (v5 - v7)) : Int32) else (if (if v6 < v7 then (0 : Int32) else 1) = 0 then (v6 : Int32) else (v6 - v7))) : Int32) else ((v7 - 1) - (if ((T_178 s 7 16 (((4 * (v1 - 2)) + (if (if v5 < v7 then (0 : Int32) else 1) = 0 then (0 : Int32) else 1)) + (if (if v6 < v7 then (0 : Int32) else 1) = 0 then (0 : Int32) else 2))) &&& 1) = 0 then ((if (if v5 < v7 then (0 : Int32) else 1) = 0 then (v5 : Int32) else (v5 - v7)) : Int32) else (if (if v6 < v7 then (0 : Int32) else 1) = 0 then (v6 : Int32) else (v6 - v7)))))] (N, hm_sh L g, s) _ Q
      refine hm_st hR (hm_st hR (hm_st hR (hm_st hR (?_))))
      show R 96 181 [(5, .int (if ((T_178 s 7 16 (((4 * (v1 - 2)) + (if (if v5 < v7 then (0 : Int32) else 1) = 0 then (0 : Int32) else 1)) + (if (if v6 < v7 then (0 : Int32) else 1) = 0 then (0 : Int32) else 2))) &&& 2) = 0 then ((if ((T_178 s 7 16 (((4 * (v1 - 2)) + (if (if v5 < v7 then (0 : Int32) else 1) = 0 then (0 : Int32) else 1)) + (if (if v6 < v7 then (0 : Int32) else 1) = 0 then (0 : Int32) else 2))) &&& 1) = 0 then ((if (if v5 < v7 then (0 : Int32) else 1) = 0 then (v5 : Int32) else (v5 - v7)) : Int32) else (if (if v6 < v7 then (0 : Int32) else 1) = 0 then (v6 : Int32) else (v6 - v7))) : Int32) else ((v7 - 1) - (if ((T_178 s 7 16 (((4 * (v1 - 2)) + (if (if v5 < v7 then (0 : Int32) else 1) = 0 then (0 : Int32) else 1)) + (if (if v6 < v7 then (0 : Int32) else 1) = 0 then (0 : Int32) else 2))) &&& 1) = 0 then ((if (if v5 < v7 then (0 : Int32) else 1) = 0 then (v5 : Int32) else (v5 - v7)) : Int32) else (if (if v6 < v7 then (0 : Int32) else 1) = 0 then (v6 : Int32) else (v6 - v7)))))), (6, .int (if ((T_178 s 7 16 (((4 * (v1 - 2)) + (if (if v5 < v7 then (0 : Int32) else 1) = 0 then (0 : Int32) else 1)) + (if (if v6 < v7 then (0 : Int32) else 1) = 0 then (0 : Int32) else 2))) &&& 1) = 0 then ((if (if v6 < v7 then (0 : Int32) else 1) = 0 then (v6 : Int32) else (v6 - v7)) : Int32) else (if (if v5 < v7 then (0 : Int32) else 1) = 0 then (v5 : Int32) else (v5 - v7)))), (13, .int (if (if v6 < v7 then (0 : Int32) else 1) = 0 then (v6 : Int32) else (v6 - v7))), (12, .int (if (if v5 < v7 then (0 : Int32) else 1) = 0 then (v5 : Int32) else (v5 - v7))), (11, .int (T_178 s 7 16 (((4 * (v1 - 2)) + (if (if v5 < v7 then (0 : Int32) else 1) = 0 then (0 : Int32) else 1)) + (if (if v6 < v7 then (0 : Int32) else 1) = 0 then (0 : Int32) else 2)))), (10, .int (((4 * (v1 - 2)) + (if (if v5 < v7 then (0 : Int32) else 1) = 0 then (0 : Int32) else 1)) + (if (if v6 < v7 then (0 : Int32) else 1) = 0 then (0 : Int32) else 2))), (9, .int (if v6 < v7 then (0 : Int32) else 1)), (8, .int (if v5 < v7 then (0 : Int32) else 1)), (7, .int v7), (4, .int v4), (0, .ref 3), (1, .int v1), (2, .int v2), (3, .int v3)] [.int ((T_178 s 7 16 (((4 * (v1 - 2)) + (if (if v5 < v7 then (0 : Int32) else 1) = 0 then (0 : Int32) else 1)) + (if (if v6 < v7 then (0 : Int32) else 1) = 0 then (0 : Int32) else 2))) &&& 4)] (N, hm_sh L g, s) _ Q
      suffices G : ∀ w : Int32, w = (if ((T_178 s 7 16 (((4 * (v1 - 2)) + (if (if v5 < v7 then (0 : Int32) else 1) = 0 then (0 : Int32) else 1)) + (if (if v6 < v7 then (0 : Int32) else 1) = 0 then (0 : Int32) else 2))) &&& 4) = 0 then ((if ((T_178 s 7 16 (((4 * (v1 - 2)) + (if (if v5 < v7 then (0 : Int32) else 1) = 0 then (0 : Int32) else 1)) + (if (if v6 < v7 then (0 : Int32) else 1) = 0 then (0 : Int32) else 2))) &&& 1) = 0 then ((if (if v6 < v7 then (0 : Int32) else 1) = 0 then (v6 : Int32) else (v6 - v7)) : Int32) else (if (if v5 < v7 then (0 : Int32) else 1) = 0 then (v5 : Int32) else (v5 - v7))) : Int32) else ((v7 - 1) - (if ((T_178 s 7 16 (((4 * (v1 - 2)) + (if (if v5 < v7 then (0 : Int32) else 1) = 0 then (0 : Int32) else 1)) + (if (if v6 < v7 then (0 : Int32) else 1) = 0 then (0 : Int32) else 2))) &&& 1) = 0 then ((if (if v6 < v7 then (0 : Int32) else 1) = 0 then (v6 : Int32) else (v6 - v7)) : Int32) else (if (if v5 < v7 then (0 : Int32) else 1) = 0 then (v5 : Int32) else (v5 - v7))))) → R 96 196 [(5, .int (if ((T_178 s 7 16 (((4 * (v1 - 2)) + (if (if v5 < v7 then (0 : Int32) else 1) = 0 then (0 : Int32) else 1)) + (if (if v6 < v7 then (0 : Int32) else 1) = 0 then (0 : Int32) else 2))) &&& 2) = 0 then ((if ((T_178 s 7 16 (((4 * (v1 - 2)) + (if (if v5 < v7 then (0 : Int32) else 1) = 0 then (0 : Int32) else 1)) + (if (if v6 < v7 then (0 : Int32) else 1) = 0 then (0 : Int32) else 2))) &&& 1) = 0 then ((if (if v5 < v7 then (0 : Int32) else 1) = 0 then (v5 : Int32) else (v5 - v7)) : Int32) else (if (if v6 < v7 then (0 : Int32) else 1) = 0 then (v6 : Int32) else (v6 - v7))) : Int32) else ((v7 - 1) - (if ((T_178 s 7 16 (((4 * (v1 - 2)) + (if (if v5 < v7 then (0 : Int32) else 1) = 0 then (0 : Int32) else 1)) + (if (if v6 < v7 then (0 : Int32) else 1) = 0 then (0 : Int32) else 2))) &&& 1) = 0 then ((if (if v5 < v7 then (0 : Int32) else 1) = 0 then (v5 : Int32) else (v5 - v7)) : Int32) else (if (if v6 < v7 then (0 : Int32) else 1) = 0 then (v6 : Int32) else (v6 - v7)))))), (6, .int (if ((T_178 s 7 16 (((4 * (v1 - 2)) + (if (if v5 < v7 then (0 : Int32) else 1) = 0 then (0 : Int32) else 1)) + (if (if v6 < v7 then (0 : Int32) else 1) = 0 then (0 : Int32) else 2))) &&& 1) = 0 then ((if (if v6 < v7 then (0 : Int32) else 1) = 0 then (v6 : Int32) else (v6 - v7)) : Int32) else (if (if v5 < v7 then (0 : Int32) else 1) = 0 then (v5 : Int32) else (v5 - v7)))), (13, .int (if (if v6 < v7 then (0 : Int32) else 1) = 0 then (v6 : Int32) else (v6 - v7))), (12, .int (if (if v5 < v7 then (0 : Int32) else 1) = 0 then (v5 : Int32) else (v5 - v7))), (11, .int (T_178 s 7 16 (((4 * (v1 - 2)) + (if (if v5 < v7 then (0 : Int32) else 1) = 0 then (0 : Int32) else 1)) + (if (if v6 < v7 then (0 : Int32) else 1) = 0 then (0 : Int32) else 2)))), (10, .int (((4 * (v1 - 2)) + (if (if v5 < v7 then (0 : Int32) else 1) = 0 then (0 : Int32) else 1)) + (if (if v6 < v7 then (0 : Int32) else 1) = 0 then (0 : Int32) else 2))), (9, .int (if v6 < v7 then (0 : Int32) else 1)), (8, .int (if v5 < v7 then (0 : Int32) else 1)), (7, .int v7), (4, .int v4), (0, .ref 3), (1, .int v1), (2, .int v2), (3, .int v3)] [.int w] (N, hm_sh L g, s) (b.1 - 0, b.2 - 0) Q by
        show R 96 181 [(5, .int (if ((T_178 s 7 16 (((4 * (v1 - 2)) + (if (if v5 < v7 then (0 : Int32) else 1) = 0 then (0 : Int32) else 1)) + (if (if v6 < v7 then (0 : Int32) else 1) = 0 then (0 : Int32) else 2))) &&& 2) = 0 then ((if ((T_178 s 7 16 (((4 * (v1 - 2)) + (if (if v5 < v7 then (0 : Int32) else 1) = 0 then (0 : Int32) else 1)) + (if (if v6 < v7 then (0 : Int32) else 1) = 0 then (0 : Int32) else 2))) &&& 1) = 0 then ((if (if v5 < v7 then (0 : Int32) else 1) = 0 then (v5 : Int32) else (v5 - v7)) : Int32) else (if (if v6 < v7 then (0 : Int32) else 1) = 0 then (v6 : Int32) else (v6 - v7))) : Int32) else ((v7 - 1) - (if ((T_178 s 7 16 (((4 * (v1 - 2)) + (if (if v5 < v7 then (0 : Int32) else 1) = 0 then (0 : Int32) else 1)) + (if (if v6 < v7 then (0 : Int32) else 1) = 0 then (0 : Int32) else 2))) &&& 1) = 0 then ((if (if v5 < v7 then (0 : Int32) else 1) = 0 then (v5 : Int32) else (v5 - v7)) : Int32) else (if (if v6 < v7 then (0 : Int32) else 1) = 0 then (v6 : Int32) else (v6 - v7)))))), (6, .int (if ((T_178 s 7 16 (((4 * (v1 - 2)) + (if (if v5 < v7 then (0 : Int32) else 1) = 0 then (0 : Int32) else 1)) + (if (if v6 < v7 then (0 : Int32) else 1) = 0 then (0 : Int32) else 2))) &&& 1) = 0 then ((if (if v6 < v7 then (0 : Int32) else 1) = 0 then (v6 : Int32) else (v6 - v7)) : Int32) else (if (if v5 < v7 then (0 : Int32) else 1) = 0 then (v5 : Int32) else (v5 - v7)))), (13, .int (if (if v6 < v7 then (0 : Int32) else 1) = 0 then (v6 : Int32) else (v6 - v7))), (12, .int (if (if v5 < v7 then (0 : Int32) else 1) = 0 then (v5 : Int32) else (v5 - v7))), (11, .int (T_178 s 7 16 (((4 * (v1 - 2)) + (if (if v5 < v7 then (0 : Int32) else 1) = 0 then (0 : Int32) else 1)) + (if (if v6 < v7 then (0 : Int32) else 1) = 0 then (0 : Int32) else 2)))), (10, .int (((4 * (v1 - 2)) + (if (if v5 < v7 then (0 : Int32) else 1) = 0 then (0 : Int32) else 1)) + (if (if v6 < v7 then (0 : Int32) else 1) = 0 then (0 : Int32) else 2))), (9, .int (if v6 < v7 then (0 : Int32) else 1)), (8, .int (if v5 < v7 then (0 : Int32) else 1)), (7, .int v7), (4, .int v4), (0, .ref 3), (1, .int v1), (2, .int v2), (3, .int v3)] [.int ((T_178 s 7 16 (((4 * (v1 - 2)) + (if (if v5 < v7 then (0 : Int32) else 1) = 0 then (0 : Int32) else 1)) + (if (if v6 < v7 then (0 : Int32) else 1) = 0 then (0 : Int32) else 2))) &&& 4)] (N, hm_sh L g, s) _ Q
        refine hm_st hR ⟨fun c => ?_, fun c => ?_⟩
        · exact hm_st hR (hm_st hR (hm_st hR (hm_st hR (hm_st hR (G _ (if_neg c).symm)))))
        · exact hm_st hR (hm_st hR (G _ (if_pos c).symm))
      intro w hw
      subst hw
      show R 96 196 [(5, .int (if ((T_178 s 7 16 (((4 * (v1 - 2)) + (if (if v5 < v7 then (0 : Int32) else 1) = 0 then (0 : Int32) else 1)) + (if (if v6 < v7 then (0 : Int32) else 1) = 0 then (0 : Int32) else 2))) &&& 2) = 0 then ((if ((T_178 s 7 16 (((4 * (v1 - 2)) + (if (if v5 < v7 then (0 : Int32) else 1) = 0 then (0 : Int32) else 1)) + (if (if v6 < v7 then (0 : Int32) else 1) = 0 then (0 : Int32) else 2))) &&& 1) = 0 then ((if (if v5 < v7 then (0 : Int32) else 1) = 0 then (v5 : Int32) else (v5 - v7)) : Int32) else (if (if v6 < v7 then (0 : Int32) else 1) = 0 then (v6 : Int32) else (v6 - v7))) : Int32) else ((v7 - 1) - (if ((T_178 s 7 16 (((4 * (v1 - 2)) + (if (if v5 < v7 then (0 : Int32) else 1) = 0 then (0 : Int32) else 1)) + (if (if v6 < v7 then (0 : Int32) else 1) = 0 then (0 : Int32) else 2))) &&& 1) = 0 then ((if (if v5 < v7 then (0 : Int32) else 1) = 0 then (v5 : Int32) else (v5 - v7)) : Int32) else (if (if v6 < v7 then (0 : Int32) else 1) = 0 then (v6 : Int32) else (v6 - v7)))))), (6, .int (if ((T_178 s 7 16 (((4 * (v1 - 2)) + (if (if v5 < v7 then (0 : Int32) else 1) = 0 then (0 : Int32) else 1)) + (if (if v6 < v7 then (0 : Int32) else 1) = 0 then (0 : Int32) else 2))) &&& 1) = 0 then ((if (if v6 < v7 then (0 : Int32) else 1) = 0 then (v6 : Int32) else (v6 - v7)) : Int32) else (if (if v5 < v7 then (0 : Int32) else 1) = 0 then (v5 : Int32) else (v5 - v7)))), (13, .int (if (if v6 < v7 then (0 : Int32) else 1) = 0 then (v6 : Int32) else (v6 - v7))), (12, .int (if (if v5 < v7 then (0 : Int32) else 1) = 0 then (v5 : Int32) else (v5 - v7))), (11, .int (T_178 s 7 16 (((4 * (v1 - 2)) + (if (if v5 < v7 then (0 : Int32) else 1) = 0 then (0 : Int32) else 1)) + (if (if v6 < v7 then (0 : Int32) else 1) = 0 then (0 : Int32) else 2)))), (10, .int (((4 * (v1 - 2)) + (if (if v5 < v7 then (0 : Int32) else 1) = 0 then (0 : Int32) else 1)) + (if (if v6 < v7 then (0 : Int32) else 1) = 0 then (0 : Int32) else 2))), (9, .int (if v6 < v7 then (0 : Int32) else 1)), (8, .int (if v5 < v7 then (0 : Int32) else 1)), (7, .int v7), (4, .int v4), (0, .ref 3), (1, .int v1), (2, .int v2), (3, .int v3)] [.int (if ((T_178 s 7 16 (((4 * (v1 - 2)) + (if (if v5 < v7 then (0 : Int32) else 1) = 0 then (0 : Int32) else 1)) + (if (if v6 < v7 then (0 : Int32) else 1) = 0 then (0 : Int32) else 2))) &&& 4) = 0 then ((if ((T_178 s 7 16 (((4 * (v1 - 2)) + (if (if v5 < v7 then (0 : Int32) else 1) = 0 then (0 : Int32) else 1)) + (if (if v6 < v7 then (0 : Int32) else 1) = 0 then (0 : Int32) else 2))) &&& 1) = 0 then ((if (if v6 < v7 then (0 : Int32) else 1) = 0 then (v6 : Int32) else (v6 - v7)) : Int32) else (if (if v5 < v7 then (0 : Int32) else 1) = 0 then (v5 : Int32) else (v5 - v7))) : Int32) else ((v7 - 1) - (if ((T_178 s 7 16 (((4 * (v1 - 2)) + (if (if v5 < v7 then (0 : Int32) else 1) = 0 then (0 : Int32) else 1)) + (if (if v6 < v7 then (0 : Int32) else 1) = 0 then (0 : Int32) else 2))) &&& 1) = 0 then ((if (if v6 < v7 then (0 : Int32) else 1) = 0 then (v6 : Int32) else (v6 - v7)) : Int32) else (if (if v5 < v7 then (0 : Int32) else 1) = 0 then (v5 : Int32) else (v5 - v7)))))] (N, hm_sh L g, s) _ Q
      refine hm_st hR (hm_st hR (hm_st hR (hm_st hR ⟨rfl, hm_le rfl, (hm_ltM (M := 67) hN rfl), hm_st hR (?_)⟩)))
      refine hm_st hR ⟨hm_le rfl, rfl, (hm_le rfl), (hm_ltM (M := 67) hN rfl), hm_le rfl, hm_le rfl, (0, 0), Nat.zero_le _, Nat.zero_le _, ?_⟩
      refine fp_178 hR hN (rr := 4) (aa := 5) (nn := 16) rfl rfl (hm_le rfl) (hm_ltM (M := 67) hN rfl) rfl rfl (hm_le rfl) (hm_ltM (M := 67) hN rfl) (by decide) ?_
      show R 96 209 [(6, .int (if ((T_178 s 7 16 (((4 * (v1 - 2)) + (if (if v5 < v7 then (0 : Int32) else 1) = 0 then (0 : Int32) else 1)) + (if (if v6 < v7 then (0 : Int32) else 1) = 0 then (0 : Int32) else 2))) &&& 4) = 0 then ((if ((T_178 s 7 16 (((4 * (v1 - 2)) + (if (if v5 < v7 then (0 : Int32) else 1) = 0 then (0 : Int32) else 1)) + (if (if v6 < v7 then (0 : Int32) else 1) = 0 then (0 : Int32) else 2))) &&& 1) = 0 then ((if (if v6 < v7 then (0 : Int32) else 1) = 0 then (v6 : Int32) else (v6 - v7)) : Int32) else (if (if v5 < v7 then (0 : Int32) else 1) = 0 then (v5 : Int32) else (v5 - v7))) : Int32) else ((v7 - 1) - (if ((T_178 s 7 16 (((4 * (v1 - 2)) + (if (if v5 < v7 then (0 : Int32) else 1) = 0 then (0 : Int32) else 1)) + (if (if v6 < v7 then (0 : Int32) else 1) = 0 then (0 : Int32) else 2))) &&& 1) = 0 then ((if (if v6 < v7 then (0 : Int32) else 1) = 0 then (v6 : Int32) else (v6 - v7)) : Int32) else (if (if v5 < v7 then (0 : Int32) else 1) = 0 then (v5 : Int32) else (v5 - v7)))))), (5, .int (if ((T_178 s 7 16 (((4 * (v1 - 2)) + (if (if v5 < v7 then (0 : Int32) else 1) = 0 then (0 : Int32) else 1)) + (if (if v6 < v7 then (0 : Int32) else 1) = 0 then (0 : Int32) else 2))) &&& 2) = 0 then ((if ((T_178 s 7 16 (((4 * (v1 - 2)) + (if (if v5 < v7 then (0 : Int32) else 1) = 0 then (0 : Int32) else 1)) + (if (if v6 < v7 then (0 : Int32) else 1) = 0 then (0 : Int32) else 2))) &&& 1) = 0 then ((if (if v5 < v7 then (0 : Int32) else 1) = 0 then (v5 : Int32) else (v5 - v7)) : Int32) else (if (if v6 < v7 then (0 : Int32) else 1) = 0 then (v6 : Int32) else (v6 - v7))) : Int32) else ((v7 - 1) - (if ((T_178 s 7 16 (((4 * (v1 - 2)) + (if (if v5 < v7 then (0 : Int32) else 1) = 0 then (0 : Int32) else 1)) + (if (if v6 < v7 then (0 : Int32) else 1) = 0 then (0 : Int32) else 2))) &&& 1) = 0 then ((if (if v5 < v7 then (0 : Int32) else 1) = 0 then (v5 : Int32) else (v5 - v7)) : Int32) else (if (if v6 < v7 then (0 : Int32) else 1) = 0 then (v6 : Int32) else (v6 - v7)))))), (13, .int (if (if v6 < v7 then (0 : Int32) else 1) = 0 then (v6 : Int32) else (v6 - v7))), (12, .int (if (if v5 < v7 then (0 : Int32) else 1) = 0 then (v5 : Int32) else (v5 - v7))), (11, .int (T_178 s 7 16 (((4 * (v1 - 2)) + (if (if v5 < v7 then (0 : Int32) else 1) = 0 then (0 : Int32) else 1)) + (if (if v6 < v7 then (0 : Int32) else 1) = 0 then (0 : Int32) else 2)))), (10, .int (((4 * (v1 - 2)) + (if (if v5 < v7 then (0 : Int32) else 1) = 0 then (0 : Int32) else 1)) + (if (if v6 < v7 then (0 : Int32) else 1) = 0 then (0 : Int32) else 2))), (9, .int (if v6 < v7 then (0 : Int32) else 1)), (8, .int (if v5 < v7 then (0 : Int32) else 1)), (7, .int v7), (4, .int v4), (0, .ref 3), (1, .int v1), (2, .int v2), (3, .int v3)] [.int (T_178 s 5 16 (((4 * (v1 - 2)) + (if (if v5 < v7 then (0 : Int32) else 1) = 0 then (0 : Int32) else 1)) + (if (if v6 < v7 then (0 : Int32) else 1) = 0 then (0 : Int32) else 2))), .int v4] (N, hm_sh L g, s) _ Q
      refine hm_st hR (hm_st hR (hm_st hR (hm_st hR (hm_st hR (hm_st hR (hm_st hR (hm_st hR (hm_st hR ⟨(by decide), hm_st hR (hm_st hR (?_))⟩))))))))
      show R 96 17 [(7, .int (v7 / 2)), (4, .int (v4 + (((T_178 s 5 16 (((4 * (v1 - 2)) + (if (if v5 < v7 then (0 : Int32) else 1) = 0 then (0 : Int32) else 1)) + (if (if v6 < v7 then (0 : Int32) else 1) = 0 then (0 : Int32) else 2))) * v7) * v7))), (6, .int (if ((T_178 s 7 16 (((4 * (v1 - 2)) + (if (if v5 < v7 then (0 : Int32) else 1) = 0 then (0 : Int32) else 1)) + (if (if v6 < v7 then (0 : Int32) else 1) = 0 then (0 : Int32) else 2))) &&& 4) = 0 then ((if ((T_178 s 7 16 (((4 * (v1 - 2)) + (if (if v5 < v7 then (0 : Int32) else 1) = 0 then (0 : Int32) else 1)) + (if (if v6 < v7 then (0 : Int32) else 1) = 0 then (0 : Int32) else 2))) &&& 1) = 0 then ((if (if v6 < v7 then (0 : Int32) else 1) = 0 then (v6 : Int32) else (v6 - v7)) : Int32) else (if (if v5 < v7 then (0 : Int32) else 1) = 0 then (v5 : Int32) else (v5 - v7))) : Int32) else ((v7 - 1) - (if ((T_178 s 7 16 (((4 * (v1 - 2)) + (if (if v5 < v7 then (0 : Int32) else 1) = 0 then (0 : Int32) else 1)) + (if (if v6 < v7 then (0 : Int32) else 1) = 0 then (0 : Int32) else 2))) &&& 1) = 0 then ((if (if v6 < v7 then (0 : Int32) else 1) = 0 then (v6 : Int32) else (v6 - v7)) : Int32) else (if (if v5 < v7 then (0 : Int32) else 1) = 0 then (v5 : Int32) else (v5 - v7)))))), (5, .int (if ((T_178 s 7 16 (((4 * (v1 - 2)) + (if (if v5 < v7 then (0 : Int32) else 1) = 0 then (0 : Int32) else 1)) + (if (if v6 < v7 then (0 : Int32) else 1) = 0 then (0 : Int32) else 2))) &&& 2) = 0 then ((if ((T_178 s 7 16 (((4 * (v1 - 2)) + (if (if v5 < v7 then (0 : Int32) else 1) = 0 then (0 : Int32) else 1)) + (if (if v6 < v7 then (0 : Int32) else 1) = 0 then (0 : Int32) else 2))) &&& 1) = 0 then ((if (if v5 < v7 then (0 : Int32) else 1) = 0 then (v5 : Int32) else (v5 - v7)) : Int32) else (if (if v6 < v7 then (0 : Int32) else 1) = 0 then (v6 : Int32) else (v6 - v7))) : Int32) else ((v7 - 1) - (if ((T_178 s 7 16 (((4 * (v1 - 2)) + (if (if v5 < v7 then (0 : Int32) else 1) = 0 then (0 : Int32) else 1)) + (if (if v6 < v7 then (0 : Int32) else 1) = 0 then (0 : Int32) else 2))) &&& 1) = 0 then ((if (if v5 < v7 then (0 : Int32) else 1) = 0 then (v5 : Int32) else (v5 - v7)) : Int32) else (if (if v6 < v7 then (0 : Int32) else 1) = 0 then (v6 : Int32) else (v6 - v7)))))), (13, .int (if (if v6 < v7 then (0 : Int32) else 1) = 0 then (v6 : Int32) else (v6 - v7))), (12, .int (if (if v5 < v7 then (0 : Int32) else 1) = 0 then (v5 : Int32) else (v5 - v7))), (11, .int (T_178 s 7 16 (((4 * (v1 - 2)) + (if (if v5 < v7 then (0 : Int32) else 1) = 0 then (0 : Int32) else 1)) + (if (if v6 < v7 then (0 : Int32) else 1) = 0 then (0 : Int32) else 2)))), (10, .int (((4 * (v1 - 2)) + (if (if v5 < v7 then (0 : Int32) else 1) = 0 then (0 : Int32) else 1)) + (if (if v6 < v7 then (0 : Int32) else 1) = 0 then (0 : Int32) else 2))), (9, .int (if v6 < v7 then (0 : Int32) else 1)), (8, .int (if v5 < v7 then (0 : Int32) else 1)), (0, .ref 3), (1, .int v1), (2, .int v2), (3, .int v3)] [] (N, hm_sh L g, s) _ Q
      exact hm_lvS hR (by intro q hq; simp only [List.mem_cons, List.not_mem_nil, or_false] at hq ⊢; rcases hq with rfl | rfl | rfl | rfl | rfl | rfl | rfl | rfl <;> simp) (ih s v1 v2 v3 (v4 + (((T_178 s 5 16 (((4 * (v1 - 2)) + (if (if v5 < v7 then (0 : Int32) else 1) = 0 then (0 : Int32) else 1)) + (if (if v6 < v7 then (0 : Int32) else 1) = 0 then (0 : Int32) else 2))) * v7) * v7)) (if ((T_178 s 7 16 (((4 * (v1 - 2)) + (if (if v5 < v7 then (0 : Int32) else 1) = 0 then (0 : Int32) else 1)) + (if (if v6 < v7 then (0 : Int32) else 1) = 0 then (0 : Int32) else 2))) &&& 2) = 0 then ((if ((T_178 s 7 16 (((4 * (v1 - 2)) + (if (if v5 < v7 then (0 : Int32) else 1) = 0 then (0 : Int32) else 1)) + (if (if v6 < v7 then (0 : Int32) else 1) = 0 then (0 : Int32) else 2))) &&& 1) = 0 then ((if (if v5 < v7 then (0 : Int32) else 1) = 0 then (v5 : Int32) else (v5 - v7)) : Int32) else (if (if v6 < v7 then (0 : Int32) else 1) = 0 then (v6 : Int32) else (v6 - v7))) : Int32) else ((v7 - 1) - (if ((T_178 s 7 16 (((4 * (v1 - 2)) + (if (if v5 < v7 then (0 : Int32) else 1) = 0 then (0 : Int32) else 1)) + (if (if v6 < v7 then (0 : Int32) else 1) = 0 then (0 : Int32) else 2))) &&& 1) = 0 then ((if (if v5 < v7 then (0 : Int32) else 1) = 0 then (v5 : Int32) else (v5 - v7)) : Int32) else (if (if v6 < v7 then (0 : Int32) else 1) = 0 then (v6 : Int32) else (v6 - v7))))) (if ((T_178 s 7 16 (((4 * (v1 - 2)) + (if (if v5 < v7 then (0 : Int32) else 1) = 0 then (0 : Int32) else 1)) + (if (if v6 < v7 then (0 : Int32) else 1) = 0 then (0 : Int32) else 2))) &&& 4) = 0 then ((if ((T_178 s 7 16 (((4 * (v1 - 2)) + (if (if v5 < v7 then (0 : Int32) else 1) = 0 then (0 : Int32) else 1)) + (if (if v6 < v7 then (0 : Int32) else 1) = 0 then (0 : Int32) else 2))) &&& 1) = 0 then ((if (if v6 < v7 then (0 : Int32) else 1) = 0 then (v6 : Int32) else (v6 - v7)) : Int32) else (if (if v5 < v7 then (0 : Int32) else 1) = 0 then (v5 : Int32) else (v5 - v7))) : Int32) else ((v7 - 1) - (if ((T_178 s 7 16 (((4 * (v1 - 2)) + (if (if v5 < v7 then (0 : Int32) else 1) = 0 then (0 : Int32) else 1)) + (if (if v6 < v7 then (0 : Int32) else 1) = 0 then (0 : Int32) else 2))) &&& 1) = 0 then ((if (if v6 < v7 then (0 : Int32) else 1) = 0 then (v6 : Int32) else (v6 - v7)) : Int32) else (if (if v5 < v7 then (0 : Int32) else 1) = 0 then (v5 : Int32) else (v5 - v7))))) (v7 / 2) (hm_dch c19 hm) hq)
set_option maxRecDepth 20000 in
theorem fp_96 {R : hm_R} (hR : hm_Cm R) {N L : Nat} {g : Nat → hm_Sh} {s : hm_St} {b : hm_B} {Q : hm_Q} (hN : 67 ≤ N) {p1 : Int32} {p2 : Int32} {p3 : Int32} (hq : Q (.inr (some (.int (T_96 s p1 p2 p3)))) (N, hm_sh L g, s)) : R 96 0 (lv_args 0 [.ref 3, .int p1, .int p2, .int p3]) [] (N, hm_sh L g, s) b Q := by
  unfold T_96 at hq
  show R 96 0 [(0, .ref 3), (1, .int p1), (2, .int p2), (3, .int p3)] [] (N, hm_sh L g, s) _ Q
  refine hm_st hR (hm_st hR (hm_st hR (hm_st hR (hm_st hR (hm_st hR (hm_st hR (hm_st hR ⟨rfl, hm_le rfl, (hm_ltM (M := 67) hN rfl), hm_st hR (hm_st hR ⟨(by decide), hm_st hR (?_)⟩)⟩)))))))
  show R 96 17 [(7, .int ((s 3 6) / 2)), (6, .int p3), (5, .int p2), (4, .int 0), (0, .ref 3), (1, .int p1), (2, .int p2), (3, .int p3)] [] (N, hm_sh L g, s) _ Q
  exact flp_96_17 hR hN _ _ _ _ _ _ _ _ _ (Nat.lt_succ_self _) hq
set_option maxRecDepth 20000 in
theorem fp_95 {R : hm_R} (hR : hm_Cm R) {N L : Nat} {g : Nat → hm_Sh} {s : hm_St} {b : hm_B} {Q : hm_Q} (hN : 67 ≤ N) {p1 : Int32} {p2 : Int32} {p3 : Int32} (hq : Q (.inr (some (.int (T_95 s p1 p2 p3)))) (N, hm_sh L g, s)) : R 95 0 (lv_args 0 [.ref 3, .int p1, .int p2, .int p3]) [] (N, hm_sh L g, s) b Q := by
  unfold T_95 at hq
  show R 95 0 [(0, .ref 3), (1, .int p1), (2, .int p2), (3, .int p3)] [] (N, hm_sh L g, s) _ Q
  refine hm_st hR (?_)
  show R 95 1 [(0, .ref 3), (1, .int p1), (2, .int p2), (3, .int p3)] [.int p1] (N, hm_sh L g, s) _ Q
  refine hm_st hR ⟨fun c1 => ?_, fun c1 => ?_⟩
  · rw [if_neg c1] at hq
    show R 95 13 [(0, .ref 3), (1, .int p1), (2, .int p2), (3, .int p3)] [] (N, hm_sh L g, s) _ Q
    refine hm_st hR (hm_st hR (?_))
    show R 95 15 [(0, .ref 3), (1, .int p1), (2, .int p2), (3, .int p3)] [.int 1, .int p1] (N, hm_sh L g, s) _ Q
    refine hm_st hR ⟨fun c15 => ?_, fun c15 => ?_⟩
    · rw [if_neg c15] at hq
      show R 95 44 [(0, .ref 3), (1, .int p1), (2, .int p2), (3, .int p3)] [] (N, hm_sh L g, s) _ Q
      refine hm_st hR (hm_st hR (hm_st hR (hm_st hR (?_))))
      refine hm_st hR ⟨hm_le rfl, rfl, (hm_le rfl), (hm_ltM (M := 67) hN rfl), hm_le rfl, hm_le rfl, (0, 0), Nat.zero_le _, Nat.zero_le _, ?_⟩
      refine fp_96 hR hN ?_
      show R 95 51 [(0, .ref 3), (1, .int p1), (2, .int p2), (3, .int p3)] [.int (T_96 s p1 p2 p3)] (N, hm_sh L g, s) _ Q
      exact hm_st hR ⟨fun z => absurd z (by decide), hq⟩
    · rw [if_pos c15] at hq
      show R 95 18 [(0, .ref 3), (1, .int p1), (2, .int p2), (3, .int p3)] [] (N, hm_sh L g, s) _ Q
      refine hm_st hR (hm_st hR (hm_st hR ⟨rfl, hm_le rfl, (hm_ltM (M := 67) hN rfl), hm_st hR (hm_st hR (hm_st hR (hm_st hR (?_))))⟩))
      show R 95 27 [(0, .ref 3), (1, .int p1), (2, .int p2), (3, .int p3)] [.int (p3 &&& 1), .int (p3 * (s 3 6))] (N, hm_sh L g, s) _ Q
      suffices G : ∀ w : Int32, w = (if (p3 &&& 1) = 0 then (p2 : Int32) else (((s 3 6) - 1) - p2)) → R 95 42 [(0, .ref 3), (1, .int p1), (2, .int p2), (3, .int p3)] [.int w, .int (p3 * (s 3 6))] (N, hm_sh L g, s) b Q by
        show R 95 27 [(0, .ref 3), (1, .int p1), (2, .int p2), (3, .int p3)] [.int (p3 &&& 1), .int (p3 * (s 3 6))] (N, hm_sh L g, s) _ Q
        refine hm_st hR ⟨fun c => ?_, fun c => ?_⟩
        · exact hm_st hR (hm_st hR ⟨rfl, hm_le rfl, (hm_ltM (M := 67) hN rfl), hm_st hR (hm_st hR (hm_st hR (hm_st hR (G _ (if_neg c).symm))))⟩)
        · exact hm_st hR (hm_st hR (G _ (if_pos c).symm))
      intro w hw
      subst hw
      show R 95 42 [(0, .ref 3), (1, .int p1), (2, .int p2), (3, .int p3)] [.int (if (p3 &&& 1) = 0 then (p2 : Int32) else (((s 3 6) - 1) - p2)), .int (p3 * (s 3 6))] (N, hm_sh L g, s) _ Q
      refine hm_st hR (?_)
      exact hm_st hR ⟨fun z => absurd z (by decide), hq⟩
  · rw [if_pos c1] at hq
    show R 95 4 [(0, .ref 3), (1, .int p1), (2, .int p2), (3, .int p3)] [] (N, hm_sh L g, s) _ Q
    refine hm_st hR (hm_st hR (hm_st hR ⟨rfl, hm_le rfl, (hm_ltM (M := 67) hN rfl), hm_st hR (hm_st hR (hm_st hR (?_)))⟩))
    exact hm_st hR ⟨fun z => absurd z (by decide), hq⟩
set_option maxRecDepth 20000 in
theorem fp_179 {R : hm_R} (hR : hm_Cm R) {N L : Nat} {g : Nat → hm_Sh} {s : hm_St} {b : hm_B} {Q : hm_Q} (hN : 67 ≤ N) {rr aa nn : Nat} (hrk : (hm_sh L g rr).1 = 8) (hra : (hm_sh L g rr).2.2 0 = some aa) (hr2 : 2 ≤ rr) (hrl : rr < N) (hak : (hm_sh L g aa).1 = 1000) (han : (hm_sh L g aa).2.1 = nn) (ha2 : 2 ≤ aa) (hal : aa < N) (hnn : nn < 2 ^ 31) {p1 : Int32} {p2 : Int32} (hq : Q (.inr none) (N, hm_sh L g, (T_179 s aa nn p1 p2))) : R 179 0 (lv_args 0 [.ref rr, .int p1, .int p2]) [] (N, hm_sh L g, s) b Q := by
  unfold T_179 at hq
  show R 179 0 [(0, .ref rr), (1, .int p1), (2, .int p2)] [] (N, hm_sh L g, s) _ Q
  refine hm_st hR (?_)
  show R 179 1 [(0, .ref rr), (1, .int p1), (2, .int p2)] [.int p1] (N, hm_sh L g, s) _ Q
  refine hm_st hR ⟨fun c1 => ?_, fun c1 => ?_⟩
  · rw [if_pos c1] at hq
    show R 179 20 [(0, .ref rr), (1, .int p1), (2, .int p2)] [] (N, hm_sh L g, s) _ Q
    exact hm_st hR (hq)
  · rw [if_neg c1] at hq
    show R 179 4 [(0, .ref rr), (1, .int p1), (2, .int p2)] [] (N, hm_sh L g, s) _ Q
    refine hm_st hR (hm_st hR (?_))
    show R 179 6 [(0, .ref rr), (1, .int p1), (2, .int p2)] [.ref rr, .int p1] (N, hm_sh L g, s) _ Q
    refine hm_rwf hR hrk hra hr2 hrl (by rfl) ?_
    show R 179 9 [(0, .ref rr), (1, .int p1), (2, .int p2)] [.ref aa, .int p1] (N, hm_sh L g, s) _ Q
    show R 179 9 [(0, .ref rr), (1, .int p1), (2, .int p2)] [.ref aa, .int p1] (N, hm_sh L g, s) _ Q
    refine hm_aln hR hak han hal (by rfl) ?_
    show R 179 10 [(0, .ref rr), (1, .int p1), (2, .int p2)] [.int (Int32.ofNat nn), .int p1] (N, hm_sh L g, s) _ Q
    show R 179 10 [(0, .ref rr), (1, .int p1), (2, .int p2)] [.int (Int32.ofNat nn), .int p1] (N, hm_sh L g, s) _ Q
    refine hm_st hR ⟨fun c10 => ?_, fun c10 => ?_⟩
    · rw [if_pos c10] at hq
      show R 179 20 [(0, .ref rr), (1, .int p1), (2, .int p2)] [] (N, hm_sh L g, s) _ Q
      exact hm_st hR (hq)
    · rw [if_neg c10] at hq
      show R 179 13 [(0, .ref rr), (1, .int p1), (2, .int p2)] [] (N, hm_sh L g, s) _ Q
      refine hm_st hR (?_)
      show R 179 14 [(0, .ref rr), (1, .int p1), (2, .int p2)] [.ref rr] (N, hm_sh L g, s) _ Q
      refine hm_rwf hR hrk hra hr2 hrl (by rfl) ?_
      show R 179 17 [(0, .ref rr), (1, .int p1), (2, .int p2)] [.ref aa] (N, hm_sh L g, s) _ Q
      refine hm_st hR (hm_st hR (?_))
      show R 179 19 [(0, .ref rr), (1, .int p1), (2, .int p2)] [.int p2, .int p1, .ref aa] (N, hm_sh L g, s) _ Q
      refine hm_ast hR hak han ha2 hal (by rfl) (hm_vin c1 c10 hnn) ?_
      show R 179 20 [(0, .ref rr), (1, .int p1), (2, .int p2)] [] (N, hm_sh L g, (hm_w1 s aa (p1).toNatClampNeg p2)) _ Q
      exact hm_st hR (hq)
set_option maxRecDepth 20000 in
theorem fp_87 {R : hm_R} (hR : hm_Cm R) {N L : Nat} {g : Nat → hm_Sh} {s : hm_St} {b : hm_B} {Q : hm_Q} (hN : 67 ≤ N) (hq : Q (.inr (some (.int (T_87 s)))) (N, hm_sh L g, s)) : R 87 0 (lv_args 0 [.ref 3]) [] (N, hm_sh L g, s) b Q := by
  unfold T_87 at hq
  show R 87 0 [(0, .ref 3)] [] (N, hm_sh L g, s) _ Q
  refine hm_st hR (hm_st hR ⟨rfl, hm_le rfl, (hm_ltM (M := 67) hN rfl), hm_st hR (hm_st hR ⟨rfl, hm_le rfl, (hm_ltM (M := 67) hN rfl), hm_st hR (?_)⟩)⟩)
  exact hm_st hR ⟨fun z => absurd z (by decide), hq⟩
set_option maxRecDepth 20000 in
theorem fp_89 {R : hm_R} (hR : hm_Cm R) {N L : Nat} {g : Nat → hm_Sh} {s : hm_St} {b : hm_B} {Q : hm_Q} (hN : 67 ≤ N) {p1 : Int32} {p2 : Int32} (hq : Q (.inr (some (.int (T_89 s p1 p2)))) (N, hm_sh L g, s)) : R 89 0 (lv_args 0 [.ref 3, .int p1, .int p2]) [] (N, hm_sh L g, s) b Q := by
  unfold T_89 at hq
  show R 89 0 [(0, .ref 3), (1, .int p1), (2, .int p2)] [] (N, hm_sh L g, s) _ Q
  refine hm_st hR (hm_st hR ⟨rfl, hm_le rfl, (hm_ltM (M := 67) hN rfl), hm_st hR (hm_st hR (hm_st hR (hm_st hR (hm_st hR (?_)))))⟩)
  refine hm_st hR ⟨hm_le rfl, rfl, (hm_le rfl), (hm_ltM (M := 67) hN rfl), hm_le rfl, hm_le rfl, (0, 0), Nat.zero_le _, Nat.zero_le _, ?_⟩
  refine fp_178 hR hN (rr := 10) (aa := 11) (nn := 6144) rfl rfl (hm_le rfl) (hm_ltM (M := 67) hN rfl) rfl rfl (hm_le rfl) (hm_ltM (M := 67) hN rfl) (by decide) ?_
  show R 89 14 [(0, .ref 3), (1, .int p1), (2, .int p2)] [.int (T_178 s 11 6144 ((p1 * 1024) + p2))] (N, hm_sh L g, s) _ Q
  refine hm_st hR (hm_st hR ⟨rfl, hm_le rfl, (hm_ltM (M := 67) hN rfl), hm_st hR (hm_st hR (hm_st hR (?_)))⟩)
  exact hm_st hR ⟨fun z => absurd z (by decide), hq⟩
set_option maxRecDepth 20000 in
theorem fp_90 {R : hm_R} (hR : hm_Cm R) {N L : Nat} {g : Nat → hm_Sh} {s : hm_St} {b : hm_B} {Q : hm_Q} (hN : 67 ≤ N) {p1 : Int32} {p2 : Int32} (hq : Q (.inr (some (.int (T_90 s p1 p2)))) (N, hm_sh L g, s)) : R 90 0 (lv_args 0 [.ref 3, .int p1, .int p2]) [] (N, hm_sh L g, s) b Q := by
  unfold T_90 at hq
  show R 90 0 [(0, .ref 3), (1, .int p1), (2, .int p2)] [] (N, hm_sh L g, s) _ Q
  refine hm_st hR (hm_st hR ⟨rfl, hm_le rfl, (hm_ltM (M := 67) hN rfl), hm_st hR (hm_st hR (hm_st hR (hm_st hR (hm_st hR (?_)))))⟩)
  refine hm_st hR ⟨hm_le rfl, rfl, (hm_le rfl), (hm_ltM (M := 67) hN rfl), hm_le rfl, hm_le rfl, (0, 0), Nat.zero_le _, Nat.zero_le _, ?_⟩
  refine fp_178 hR hN (rr := 10) (aa := 11) (nn := 6144) rfl rfl (hm_le rfl) (hm_ltM (M := 67) hN rfl) rfl rfl (hm_le rfl) (hm_ltM (M := 67) hN rfl) (by decide) ?_
  show R 90 14 [(0, .ref 3), (1, .int p1), (2, .int p2)] [.int (T_178 s 11 6144 ((p1 * 1024) + p2))] (N, hm_sh L g, s) _ Q
  refine hm_st hR (hm_st hR ⟨rfl, hm_le rfl, (hm_ltM (M := 67) hN rfl), hm_st hR (?_)⟩)
  exact hm_st hR ⟨fun z => absurd z (by decide), hq⟩
set_option maxRecDepth 20000 in
theorem fp_98 {R : hm_R} (hR : hm_Cm R) {N L : Nat} {g : Nat → hm_Sh} {s : hm_St} {b : hm_B} {Q : hm_Q} (hN : 67 ≤ N) {p1 : Int32} {p2 : Int32} {p3 : Int32} (hq : Q (.inr (some (.int (T_98 s p1 p2 p3)))) (N, hm_sh L g, s)) : R 98 0 (lv_args 0 [.ref 3, .int p1, .int p2, .int p3]) [] (N, hm_sh L g, s) b Q := by
  unfold T_98 at hq
  show R 98 0 [(0, .ref 3), (1, .int p1), (2, .int p2), (3, .int p3)] [] (N, hm_sh L g, s) _ Q
  refine hm_st hR (hm_st hR (hm_st hR (?_)))
  refine hm_st hR ⟨hm_le rfl, rfl, (hm_le rfl), (hm_ltM (M := 67) hN rfl), hm_le rfl, hm_le rfl, (0, 0), Nat.zero_le _, Nat.zero_le _, ?_⟩
  refine fp_89 hR hN ?_
  show R 98 6 [(0, .ref 3), (1, .int p1), (2, .int p2), (3, .int p3)] [.int (T_89 s p1 p2)] (N, hm_sh L g, s) _ Q
  refine hm_st hR (hm_st hR (hm_st hR (?_)))
  refine hm_st hR ⟨hm_le rfl, rfl, (hm_le rfl), (hm_ltM (M := 67) hN rfl), hm_le rfl, hm_le rfl, (0, 0), Nat.zero_le _, Nat.zero_le _, ?_⟩
  refine fp_89 hR hN ?_
  show R 98 12 [(0, .ref 3), (1, .int p1), (2, .int p2), (3, .int p3)] [.int (T_89 s p1 p3), .int (T_89 s p1 p2)] (N, hm_sh L g, s) _ Q
  refine hm_st hR (hm_st hR ⟨hm_le rfl, ?_⟩)
  show R 98 16 [(0, .ref 3), (1, .int p1), (2, .int p2), (3, .int p3)] [.int (hm_abs ((T_89 s p1 p2) - (T_89 s p1 p3)))] (N, hm_sh L g, s) _ Q
  refine hm_st hR (hm_st hR (hm_st hR (hm_st hR (?_))))
  refine hm_st hR ⟨hm_le rfl, rfl, (hm_le rfl), (hm_ltM (M := 67) hN rfl), hm_le rfl, hm_le rfl, (0, 0), Nat.zero_le _, Nat.zero_le _, ?_⟩
  refine fp_90 hR hN ?_
  show R 98 24 [(4, .int (hm_abs ((T_89 s p1 p2) - (T_89 s p1 p3)))), (0, .ref 3), (1, .int p1), (2, .int p2), (3, .int p3)] [.int (T_90 s p1 p2)] (N, hm_sh L g, s) _ Q
  refine hm_st hR (hm_st hR (hm_st hR (?_)))
  refine hm_st hR ⟨hm_le rfl, rfl, (hm_le rfl), (hm_ltM (M := 67) hN rfl), hm_le rfl, hm_le rfl, (0, 0), Nat.zero_le _, Nat.zero_le _, ?_⟩
  refine fp_90 hR hN ?_
  show R 98 30 [(4, .int (hm_abs ((T_89 s p1 p2) - (T_89 s p1 p3)))), (0, .ref 3), (1, .int p1), (2, .int p2), (3, .int p3)] [.int (T_90 s p1 p3), .int (T_90 s p1 p2)] (N, hm_sh L g, s) _ Q
  refine hm_st hR (hm_st hR ⟨hm_le rfl, ?_⟩)
  show R 98 34 [(4, .int (hm_abs ((T_89 s p1 p2) - (T_89 s p1 p3)))), (0, .ref 3), (1, .int p1), (2, .int p2), (3, .int p3)] [.int (hm_abs ((T_90 s p1 p2) - (T_90 s p1 p3)))] (N, hm_sh L g, s) _ Q
  refine hm_st hR (hm_st hR (hm_st hR (hm_st hR (hm_st hR (?_)))))
  show R 98 42 [(5, .int (hm_abs ((T_90 s p1 p2) - (T_90 s p1 p3)))), (4, .int (hm_abs ((T_89 s p1 p2) - (T_89 s p1 p3)))), (0, .ref 3), (1, .int p1), (2, .int p2), (3, .int p3)] [.int 1, .int ((hm_abs ((T_89 s p1 p2) - (T_89 s p1 p3))) + (hm_abs ((T_90 s p1 p2) - (T_90 s p1 p3))))] (N, hm_sh L g, s) _ Q
  suffices G : ∀ w : Int32, w = (if ((hm_abs ((T_89 s p1 p2) - (T_89 s p1 p3))) + (hm_abs ((T_90 s p1 p2) - (T_90 s p1 p3)))) = 1 then (1 : Int32) else 0) → R 98 50 [(5, .int (hm_abs ((T_90 s p1 p2) - (T_90 s p1 p3)))), (4, .int (hm_abs ((T_89 s p1 p2) - (T_89 s p1 p3)))), (0, .ref 3), (1, .int p1), (2, .int p2), (3, .int p3)] [.int w] (N, hm_sh L g, s) (b.1 - 0 - 0 - 0 - 0, b.2 - 0 - 0 - 0 - 0) Q by
    show R 98 42 [(5, .int (hm_abs ((T_90 s p1 p2) - (T_90 s p1 p3)))), (4, .int (hm_abs ((T_89 s p1 p2) - (T_89 s p1 p3)))), (0, .ref 3), (1, .int p1), (2, .int p2), (3, .int p3)] [.int 1, .int ((hm_abs ((T_89 s p1 p2) - (T_89 s p1 p3))) + (hm_abs ((T_90 s p1 p2) - (T_90 s p1 p3))))] (N, hm_sh L g, s) _ Q
    refine hm_st hR ⟨fun c => ?_, fun c => ?_⟩
    · exact hm_st hR (G _ (if_neg c).symm)
    · exact hm_st hR (hm_st hR (G _ (if_pos c).symm))
  intro w hw
  subst hw
  show R 98 50 [(5, .int (hm_abs ((T_90 s p1 p2) - (T_90 s p1 p3)))), (4, .int (hm_abs ((T_89 s p1 p2) - (T_89 s p1 p3)))), (0, .ref 3), (1, .int p1), (2, .int p2), (3, .int p3)] [.int (if ((hm_abs ((T_89 s p1 p2) - (T_89 s p1 p3))) + (hm_abs ((T_90 s p1 p2) - (T_90 s p1 p3)))) = 1 then (1 : Int32) else 0)] (N, hm_sh L g, s) _ Q
  exact hm_st hR ⟨fun _ => (by split <;> first | exact Or.inl rfl | exact Or.inr rfl), hq⟩
set_option maxRecDepth 20000 in
theorem flp_97_4 {R : hm_R} (hR : hm_Cm R) {N L : Nat} {g : Nat → hm_Sh} {b : hm_B} {Q : hm_Q} (hN : 67 ≤ N) : ∀ (n : Nat) (s : hm_St) (v1 : Int32) (v2 : Int32) (v3 : Int32), hm_df (T_87 s) (v3 + 1) < n → (hq : Q (.inr (some (.int (T_97_4 n s v1 v2 v3)))) (N, hm_sh L g, s)) → R 97 4 [(3, .int v3), (2, .int v2), (0, .ref 3), (1, .int v1)] [] (N, hm_sh L g, s) b Q := by
  intro n
  induction n with
  | zero => intro s v1 v2 v3 hm _; exact absurd hm (Nat.not_lt_zero _)
  | succ n ih =>
    intro s v1 v2 v3 hm hq
    unfold T_97_4 at hq
    refine hm_st hR (hm_st hR (hm_st hR (hm_st hR (?_))))
    refine hm_st hR ⟨hm_le rfl, rfl, (hm_le rfl), (hm_ltM (M := 67) hN rfl), hm_le rfl, hm_le rfl, (0, 0), Nat.zero_le _, Nat.zero_le _, ?_⟩
    refine fp_87 hR hN ?_
    show R 97 11 [(3, .int v3), (2, .int v2), (0, .ref 3), (1, .int v1)] [.int (T_87 s), .int (v3 + 1)] (N, hm_sh L g, s) _ Q
    show R 97 11 [(3, .int v3), (2, .int v2), (0, .ref 3), (1, .int v1)] [.int (T_87 s), .int (v3 + 1)] (N, hm_sh L g, s) _ Q
    refine hm_st hR ⟨fun c11 => ?_, fun c11 => ?_⟩
    · rw [if_pos c11] at hq
      show R 97 35 [(3, .int v3), (2, .int v2), (0, .ref 3), (1, .int v1)] [] (N, hm_sh L g, s) _ Q
      refine hm_st hR (?_)
      exact hm_st hR ⟨fun z => absurd z (by decide), hq⟩
    · rw [if_neg c11] at hq
      show R 97 14 [(3, .int v3), (2, .int v2), (0, .ref 3), (1, .int v1)] [] (N, hm_sh L g, s) _ Q
      refine hm_st hR (hm_st hR (hm_st hR (hm_st hR (hm_st hR (hm_st hR (?_))))))
      refine hm_st hR ⟨hm_le rfl, rfl, (hm_le rfl), (hm_ltM (M := 67) hN rfl), hm_le rfl, hm_le rfl, (0, 0), Nat.zero_le _, Nat.zero_le _, ?_⟩
      refine fp_98 hR hN ?_
      show R 97 23 [(3, .int v3), (2, .int v2), (0, .ref 3), (1, .int v1)] [.int (T_98 s v1 v3 (v3 + 1))] (N, hm_sh L g, s) _ Q
      show R 97 23 [(3, .int v3), (2, .int v2), (0, .ref 3), (1, .int v1)] [.int (T_98 s v1 v3 (v3 + 1))] (N, hm_sh L g, s) _ Q
      refine hm_st hR ⟨fun c23 => ?_, fun c23 => ?_⟩
      · rw [if_neg c23] at hq
        show R 97 29 [(3, .int v3), (2, .int v2), (0, .ref 3), (1, .int v1)] [] (N, hm_sh L g, s) _ Q
        refine hm_st hR (hm_st hR (?_))
        show R 97 4 [(3, .int (v3 + 1)), (2, .int v2), (0, .ref 3), (1, .int v1)] [] (N, hm_sh L g, s) _ Q
        exact hm_lvS hR (by intro q hq; simp only [List.mem_cons, List.not_mem_nil, or_false] at hq ⊢; rcases hq with rfl | rfl | rfl | rfl <;> simp) (ih s v1 v2 (v3 + 1) (hm_dcx c11 hm) hq)
      · rw [if_pos c23] at hq
        show R 97 26 [(3, .int v3), (2, .int v2), (0, .ref 3), (1, .int v1)] [] (N, hm_sh L g, s) _ Q
        refine hm_st hR (hm_st hR (hm_st hR (?_)))
        show R 97 4 [(3, .int (v3 + 1)), (2, .int (v2 + 1)), (0, .ref 3), (1, .int v1)] [] (N, hm_sh L g, s) _ Q
        exact hm_lvS hR (by intro q hq; simp only [List.mem_cons, List.not_mem_nil, or_false] at hq ⊢; rcases hq with rfl | rfl | rfl | rfl <;> simp) (ih s v1 (v2 + 1) (v3 + 1) (hm_dcx c11 hm) hq)
set_option maxRecDepth 20000 in
theorem fp_97 {R : hm_R} (hR : hm_Cm R) {N L : Nat} {g : Nat → hm_Sh} {s : hm_St} {b : hm_B} {Q : hm_Q} (hN : 67 ≤ N) {p1 : Int32} (hq : Q (.inr (some (.int (T_97 s p1)))) (N, hm_sh L g, s)) : R 97 0 (lv_args 0 [.ref 3, .int p1]) [] (N, hm_sh L g, s) b Q := by
  unfold T_97 at hq
  show R 97 0 [(0, .ref 3), (1, .int p1)] [] (N, hm_sh L g, s) _ Q
  refine hm_st hR (hm_st hR (hm_st hR (hm_st hR (?_))))
  show R 97 4 [(3, .int 0), (2, .int 0), (0, .ref 3), (1, .int p1)] [] (N, hm_sh L g, s) _ Q
  exact flp_97_4 hR hN _ _ _ _ _ (Nat.lt_succ_self _) hq
set_option maxRecDepth 20000 in
theorem fp_88 {R : hm_R} (hR : hm_Cm R) {N L : Nat} {g : Nat → hm_Sh} {s : hm_St} {b : hm_B} {Q : hm_Q} (hN : 67 ≤ N) {p1 : Int32} {p2 : Int32} {p3 : Int32} (hq : Q (.inr (some (.int (T_88 s p1 p2 p3)))) (N, hm_sh L g, s)) : R 88 0 (lv_args 0 [.ref 3, .int p1, .int p2, .int p3]) [] (N, hm_sh L g, s) b Q := by
  unfold T_88 at hq
  show R 88 0 [(0, .ref 3), (1, .int p1), (2, .int p2), (3, .int p3)] [] (N, hm_sh L g, s) _ Q
  refine hm_st hR (hm_st hR ⟨rfl, hm_le rfl, (hm_ltM (M := 67) hN rfl), hm_st hR (hm_st hR (hm_st hR (hm_st hR (hm_st hR (hm_st hR ⟨rfl, hm_le rfl, (hm_ltM (M := 67) hN rfl), hm_st hR (hm_st hR (hm_st hR (hm_st hR (?_))))⟩)))))⟩)
  refine hm_st hR ⟨hm_le rfl, rfl, (hm_le rfl), (hm_ltM (M := 67) hN rfl), hm_le rfl, hm_le rfl, (0, 0), Nat.zero_le _, Nat.zero_le _, ?_⟩
  refine fp_178 hR hN (rr := 8) (aa := 9) (nn := 6144) rfl rfl (hm_le rfl) (hm_ltM (M := 67) hN rfl) rfl rfl (hm_le rfl) (hm_ltM (M := 67) hN rfl) (by decide) ?_
  show R 88 21 [(0, .ref 3), (1, .int p1), (2, .int p2), (3, .int p3)] [.int (T_178 s 9 6144 (((p1 * 1024) + (p3 * (s 3 6))) + p2))] (N, hm_sh L g, s) _ Q
  exact hm_st hR ⟨fun z => absurd z (by decide), hq⟩
set_option maxRecDepth 20000 in
theorem flp_99_19 {R : hm_R} (hR : hm_Cm R) {N L : Nat} {g : Nat → hm_Sh} {b : hm_B} {Q : hm_Q} (hN : 67 ≤ N) {O : hm_St → Int32 → Int32 → Int32 → Int32 → hm_St} {nO : Nat} (hO : ∀ (s : hm_St) (v1 : Int32) (v2 : Int32) (v3 : Int32) (v4 : Int32), hm_df (s 3 6) v4 < nO → (Q (.inr none) (N, hm_sh L g, (O s v1 v2 v3 v4))) → R 99 7 [(4, .int v4), (3, .int v3), (2, .int v2), (0, .ref 3), (1, .int v1)] [] (N, hm_sh L g, s) b Q) : ∀ (n : Nat) (s : hm_St) (v1 : Int32) (v2 : Int32) (v3 : Int32) (v4 : Int32) (v5 : Int32), hm_df (s 3 6) v5 < n → (hPO : hm_df (s 3 6) (v4 + 1) < nO) → (hq : Q (.inr none) (N, hm_sh L g, (T_99_19 O n s v1 v2 v3 v4 v5))) → R 99 19 [(5, .int v5), (4, .int v4), (3, .int v3), (2, .int v2), (0, .ref 3), (1, .int v1)] [] (N, hm_sh L g, s) b Q := by
  intro n
  induction n with
  | zero => intro s v1 v2 v3 v4 v5 hm hPO _; exact absurd hm (Nat.not_lt_zero _)
  | succ n ih =>
    intro s v1 v2 v3 v4 v5 hm hPO hq
    unfold T_99_19 at hq
    refine hm_st hR (hm_st hR (hm_st hR ⟨rfl, hm_le rfl, (hm_ltM (M := 67) hN rfl), ?_⟩))
    show R 99 25 [(5, .int v5), (4, .int v4), (3, .int v3), (2, .int v2), (0, .ref 3), (1, .int v1)] [.int (s 3 6), .int v5] (N, hm_sh L g, s) _ Q
    refine hm_st hR ⟨fun c25 => ?_, fun c25 => ?_⟩
    · rw [if_pos c25] at hq
      show R 99 136 [(5, .int v5), (4, .int v4), (3, .int v3), (2, .int v2), (0, .ref 3), (1, .int v1)] [] (N, hm_sh L g, s) _ Q
      refine hm_st hR (hm_st hR (?_))
      show R 99 7 [(4, .int (v4 + 1)), (5, .int v5), (3, .int v3), (2, .int v2), (0, .ref 3), (1, .int v1)] [] (N, hm_sh L g, s) _ Q
      exact hm_lvS hR (by intro q hq; simp only [List.mem_cons, List.not_mem_nil, or_false] at hq ⊢; rcases hq with rfl | rfl | rfl | rfl | rfl <;> simp) (hO s v1 v2 v3 (v4 + 1) hPO hq)
    · rw [if_neg c25] at hq
      show R 99 28 [(5, .int v5), (4, .int v4), (3, .int v3), (2, .int v2), (0, .ref 3), (1, .int v1)] [] (N, hm_sh L g, s) _ Q
      refine hm_st hR (hm_st hR (hm_st hR (hm_st hR (hm_st hR ⟨rfl, hm_le rfl, (hm_ltM (M := 67) hN rfl), ?_⟩))))
      show R 99 36 [(5, .int v5), (4, .int v4), (3, .int v3), (2, .int v2), (0, .ref 3), (1, .int v1)] [.int (s 3 6), .int (v5 + 1)] (N, hm_sh L g, s) _ Q
      refine hm_st hR ⟨fun c36 => ?_, fun c36 => ?_⟩
      · rw [if_pos c36] at hq
        show R 99 66 [(5, .int v5), (4, .int v4), (3, .int v3), (2, .int v2), (0, .ref 3), (1, .int v1)] [] (N, hm_sh L g, s) _ Q
        refine hm_st hR (hm_st hR (hm_st hR (hm_st hR (hm_st hR (hm_st hR (hm_st hR ⟨rfl, hm_le rfl, (hm_ltM (M := 67) hN rfl), ?_⟩))))))
        show R 99 77 [(6, .int 0), (5, .int v5), (4, .int v4), (3, .int v3), (2, .int v2), (0, .ref 3), (1, .int v1)] [.int (s 3 6), .int (v4 + 1)] (N, hm_sh L g, s) _ Q
        refine hm_st hR ⟨fun c77 => ?_, fun c77 => ?_⟩
        · rw [if_pos c77] at hq
          show R 99 107 [(6, .int 0), (5, .int v5), (4, .int v4), (3, .int v3), (2, .int v2), (0, .ref 3), (1, .int v1)] [] (N, hm_sh L g, s) _ Q
          refine hm_st hR (hm_st hR (hm_st hR (hm_st hR (hm_st hR (hm_st hR ⟨hm_le rfl, ?_⟩)))))
          show R 99 118 [(7, .int 0), (6, .int 0), (5, .int v5), (4, .int v4), (3, .int v3), (2, .int v2), (0, .ref 3), (1, .int v1)] [.int (hm_max 0 0), .int v2] (N, hm_sh L g, s) _ Q
          refine hm_st hR ⟨hm_le rfl, ?_⟩
          show R 99 121 [(7, .int 0), (6, .int 0), (5, .int v5), (4, .int v4), (3, .int v3), (2, .int v2), (0, .ref 3), (1, .int v1)] [.int (hm_max v2 (hm_max 0 0))] (N, hm_sh L g, s) _ Q
          refine hm_st hR (hm_st hR (hm_st hR (hm_st hR (hm_st hR (hm_st hR (hm_st hR (hm_st hR (hm_st hR (?_)))))))))
          show R 99 19 [(5, .int (v5 + 1)), (3, .int (v3 + (0 + 0))), (2, .int (hm_max v2 (hm_max 0 0))), (7, .int 0), (6, .int 0), (4, .int v4), (0, .ref 3), (1, .int v1)] [] (N, hm_sh L g, s) _ Q
          exact hm_lvS hR (by intro q hq; simp only [List.mem_cons, List.not_mem_nil, or_false] at hq ⊢; rcases hq with rfl | rfl | rfl | rfl | rfl | rfl <;> simp) (ih s v1 (hm_max v2 (hm_max 0 0)) (v3 + (0 + 0)) v4 (v5 + 1) (hm_dcx c25 hm) hPO hq)
        · rw [if_neg c77] at hq
          show R 99 80 [(6, .int 0), (5, .int v5), (4, .int v4), (3, .int v3), (2, .int v2), (0, .ref 3), (1, .int v1)] [] (N, hm_sh L g, s) _ Q
          refine hm_st hR (hm_st hR (hm_st hR (hm_st hR (?_))))
          refine hm_st hR ⟨hm_le rfl, rfl, (hm_le rfl), (hm_ltM (M := 67) hN rfl), hm_le rfl, hm_le rfl, (0, 0), Nat.zero_le _, Nat.zero_le _, ?_⟩
          refine fp_88 hR hN ?_
          show R 99 89 [(6, .int 0), (5, .int v5), (4, .int v4), (3, .int v3), (2, .int v2), (0, .ref 3), (1, .int v1)] [.int (T_88 s v1 v5 v4)] (N, hm_sh L g, s) _ Q
          refine hm_st hR (hm_st hR (hm_st hR (hm_st hR (hm_st hR (hm_st hR (?_))))))
          refine hm_st hR ⟨hm_le rfl, rfl, (hm_le rfl), (hm_ltM (M := 67) hN rfl), hm_le rfl, hm_le rfl, (0, 0), Nat.zero_le _, Nat.zero_le _, ?_⟩
          refine fp_88 hR hN ?_
          show R 99 100 [(6, .int 0), (5, .int v5), (4, .int v4), (3, .int v3), (2, .int v2), (0, .ref 3), (1, .int v1)] [.int (T_88 s v1 v5 (v4 + 1)), .int (T_88 s v1 v5 v4)] (N, hm_sh L g, s) _ Q
          refine hm_st hR (hm_st hR ⟨hm_le rfl, ?_⟩)
          show R 99 104 [(6, .int 0), (5, .int v5), (4, .int v4), (3, .int v3), (2, .int v2), (0, .ref 3), (1, .int v1)] [.int (hm_abs ((T_88 s v1 v5 v4) - (T_88 s v1 v5 (v4 + 1))))] (N, hm_sh L g, s) _ Q
          refine hm_st hR (hm_st hR (hm_st hR (hm_st hR (hm_st hR (hm_st hR ⟨hm_le rfl, ?_⟩)))))
          show R 99 118 [(7, .int (hm_abs ((T_88 s v1 v5 v4) - (T_88 s v1 v5 (v4 + 1))))), (6, .int 0), (5, .int v5), (4, .int v4), (3, .int v3), (2, .int v2), (0, .ref 3), (1, .int v1)] [.int (hm_max 0 (hm_abs ((T_88 s v1 v5 v4) - (T_88 s v1 v5 (v4 + 1))))), .int v2] (N, hm_sh L g, s) _ Q
          refine hm_st hR ⟨hm_le rfl, ?_⟩
          show R 99 121 [(7, .int (hm_abs ((T_88 s v1 v5 v4) - (T_88 s v1 v5 (v4 + 1))))), (6, .int 0), (5, .int v5), (4, .int v4), (3, .int v3), (2, .int v2), (0, .ref 3), (1, .int v1)] [.int (hm_max v2 (hm_max 0 (hm_abs ((T_88 s v1 v5 v4) - (T_88 s v1 v5 (v4 + 1))))))] (N, hm_sh L g, s) _ Q
          refine hm_st hR (hm_st hR (hm_st hR (hm_st hR (hm_st hR (hm_st hR (hm_st hR (hm_st hR (hm_st hR (?_)))))))))
          show R 99 19 [(5, .int (v5 + 1)), (3, .int (v3 + (0 + (hm_abs ((T_88 s v1 v5 v4) - (T_88 s v1 v5 (v4 + 1))))))), (2, .int (hm_max v2 (hm_max 0 (hm_abs ((T_88 s v1 v5 v4) - (T_88 s v1 v5 (v4 + 1))))))), (7, .int (hm_abs ((T_88 s v1 v5 v4) - (T_88 s v1 v5 (v4 + 1))))), (6, .int 0), (4, .int v4), (0, .ref 3), (1, .int v1)] [] (N, hm_sh L g, s) _ Q
          exact hm_lvS hR (by intro q hq; simp only [List.mem_cons, List.not_mem_nil, or_false] at hq ⊢; rcases hq with rfl | rfl | rfl | rfl | rfl | rfl <;> simp) (ih s v1 (hm_max v2 (hm_max 0 (hm_abs ((T_88 s v1 v5 v4) - (T_88 s v1 v5 (v4 + 1)))))) (v3 + (0 + (hm_abs ((T_88 s v1 v5 v4) - (T_88 s v1 v5 (v4 + 1)))))) v4 (v5 + 1) (hm_dcx c25 hm) hPO hq)
      · rw [if_neg c36] at hq
        show R 99 39 [(5, .int v5), (4, .int v4), (3, .int v3), (2, .int v2), (0, .ref 3), (1, .int v1)] [] (N, hm_sh L g, s) _ Q
        refine hm_st hR (hm_st hR (hm_st hR (hm_st hR (?_))))
        refine hm_st hR ⟨hm_le rfl, rfl, (hm_le rfl), (hm_ltM (M := 67) hN rfl), hm_le rfl, hm_le rfl, (0, 0), Nat.zero_le _, Nat.zero_le _, ?_⟩
        refine fp_88 hR hN ?_
        show R 99 48 [(5, .int v5), (4, .int v4), (3, .int v3), (2, .int v2), (0, .ref 3), (1, .int v1)] [.int (T_88 s v1 v5 v4)] (N, hm_sh L g, s) _ Q
        refine hm_st hR (hm_st hR (hm_st hR (hm_st hR (hm_st hR (hm_st hR (?_))))))
        refine hm_st hR ⟨hm_le rfl, rfl, (hm_le rfl), (hm_ltM (M := 67) hN rfl), hm_le rfl, hm_le rfl, (0, 0), Nat.zero_le _, Nat.zero_le _, ?_⟩
        refine fp_88 hR hN ?_
        show R 99 59 [(5, .int v5), (4, .int v4), (3, .int v3), (2, .int v2), (0, .ref 3), (1, .int v1)] [.int (T_88 s v1 (v5 + 1) v4), .int (T_88 s v1 v5 v4)] (N, hm_sh L g, s) _ Q
        refine hm_st hR (hm_st hR ⟨hm_le rfl, ?_⟩)
        show R 99 63 [(5, .int v5), (4, .int v4), (3, .int v3), (2, .int v2), (0, .ref 3), (1, .int v1)] [.int (hm_abs ((T_88 s v1 v5 v4) - (T_88 s v1 (v5 + 1) v4)))] (N, hm_sh L g, s) _ Q
        refine hm_st hR (hm_st hR (hm_st hR (hm_st hR (hm_st hR (hm_st hR (hm_st hR ⟨rfl, hm_le rfl, (hm_ltM (M := 67) hN rfl), ?_⟩))))))
        show R 99 77 [(6, .int (hm_abs ((T_88 s v1 v5 v4) - (T_88 s v1 (v5 + 1) v4)))), (5, .int v5), (4, .int v4), (3, .int v3), (2, .int v2), (0, .ref 3), (1, .int v1)] [.int (s 3 6), .int (v4 + 1)] (N, hm_sh L g, s) _ Q
        refine hm_st hR ⟨fun c77 => ?_, fun c77 => ?_⟩
        · rw [if_pos c77] at hq
          show R 99 107 [(6, .int (hm_abs ((T_88 s v1 v5 v4) - (T_88 s v1 (v5 + 1) v4)))), (5, .int v5), (4, .int v4), (3, .int v3), (2, .int v2), (0, .ref 3), (1, .int v1)] [] (N, hm_sh L g, s) _ Q
          refine hm_st hR (hm_st hR (hm_st hR (hm_st hR (hm_st hR (hm_st hR ⟨hm_le rfl, ?_⟩)))))
          show R 99 118 [(7, .int 0), (6, .int (hm_abs ((T_88 s v1 v5 v4) - (T_88 s v1 (v5 + 1) v4)))), (5, .int v5), (4, .int v4), (3, .int v3), (2, .int v2), (0, .ref 3), (1, .int v1)] [.int (hm_max (hm_abs ((T_88 s v1 v5 v4) - (T_88 s v1 (v5 + 1) v4))) 0), .int v2] (N, hm_sh L g, s) _ Q
          refine hm_st hR ⟨hm_le rfl, ?_⟩
          show R 99 121 [(7, .int 0), (6, .int (hm_abs ((T_88 s v1 v5 v4) - (T_88 s v1 (v5 + 1) v4)))), (5, .int v5), (4, .int v4), (3, .int v3), (2, .int v2), (0, .ref 3), (1, .int v1)] [.int (hm_max v2 (hm_max (hm_abs ((T_88 s v1 v5 v4) - (T_88 s v1 (v5 + 1) v4))) 0))] (N, hm_sh L g, s) _ Q
          refine hm_st hR (hm_st hR (hm_st hR (hm_st hR (hm_st hR (hm_st hR (hm_st hR (hm_st hR (hm_st hR (?_)))))))))
          show R 99 19 [(5, .int (v5 + 1)), (3, .int (v3 + ((hm_abs ((T_88 s v1 v5 v4) - (T_88 s v1 (v5 + 1) v4))) + 0))), (2, .int (hm_max v2 (hm_max (hm_abs ((T_88 s v1 v5 v4) - (T_88 s v1 (v5 + 1) v4))) 0))), (7, .int 0), (6, .int (hm_abs ((T_88 s v1 v5 v4) - (T_88 s v1 (v5 + 1) v4)))), (4, .int v4), (0, .ref 3), (1, .int v1)] [] (N, hm_sh L g, s) _ Q
          exact hm_lvS hR (by intro q hq; simp only [List.mem_cons, List.not_mem_nil, or_false] at hq ⊢; rcases hq with rfl | rfl | rfl | rfl | rfl | rfl <;> simp) (ih s v1 (hm_max v2 (hm_max (hm_abs ((T_88 s v1 v5 v4) - (T_88 s v1 (v5 + 1) v4))) 0)) (v3 + ((hm_abs ((T_88 s v1 v5 v4) - (T_88 s v1 (v5 + 1) v4))) + 0)) v4 (v5 + 1) (hm_dcx c25 hm) hPO hq)
        · rw [if_neg c77] at hq
          show R 99 80 [(6, .int (hm_abs ((T_88 s v1 v5 v4) - (T_88 s v1 (v5 + 1) v4)))), (5, .int v5), (4, .int v4), (3, .int v3), (2, .int v2), (0, .ref 3), (1, .int v1)] [] (N, hm_sh L g, s) _ Q
          refine hm_st hR (hm_st hR (hm_st hR (hm_st hR (?_))))
          refine hm_st hR ⟨hm_le rfl, rfl, (hm_le rfl), (hm_ltM (M := 67) hN rfl), hm_le rfl, hm_le rfl, (0, 0), Nat.zero_le _, Nat.zero_le _, ?_⟩
          refine fp_88 hR hN ?_
          show R 99 89 [(6, .int (hm_abs ((T_88 s v1 v5 v4) - (T_88 s v1 (v5 + 1) v4)))), (5, .int v5), (4, .int v4), (3, .int v3), (2, .int v2), (0, .ref 3), (1, .int v1)] [.int (T_88 s v1 v5 v4)] (N, hm_sh L g, s) _ Q
          refine hm_st hR (hm_st hR (hm_st hR (hm_st hR (hm_st hR (hm_st hR (?_))))))
          refine hm_st hR ⟨hm_le rfl, rfl, (hm_le rfl), (hm_ltM (M := 67) hN rfl), hm_le rfl, hm_le rfl, (0, 0), Nat.zero_le _, Nat.zero_le _, ?_⟩
          refine fp_88 hR hN ?_
          show R 99 100 [(6, .int (hm_abs ((T_88 s v1 v5 v4) - (T_88 s v1 (v5 + 1) v4)))), (5, .int v5), (4, .int v4), (3, .int v3), (2, .int v2), (0, .ref 3), (1, .int v1)] [.int (T_88 s v1 v5 (v4 + 1)), .int (T_88 s v1 v5 v4)] (N, hm_sh L g, s) _ Q
          refine hm_st hR (hm_st hR ⟨hm_le rfl, ?_⟩)
          show R 99 104 [(6, .int (hm_abs ((T_88 s v1 v5 v4) - (T_88 s v1 (v5 + 1) v4)))), (5, .int v5), (4, .int v4), (3, .int v3), (2, .int v2), (0, .ref 3), (1, .int v1)] [.int (hm_abs ((T_88 s v1 v5 v4) - (T_88 s v1 v5 (v4 + 1))))] (N, hm_sh L g, s) _ Q
          refine hm_st hR (hm_st hR (hm_st hR (hm_st hR (hm_st hR (hm_st hR ⟨hm_le rfl, ?_⟩)))))
          show R 99 118 [(7, .int (hm_abs ((T_88 s v1 v5 v4) - (T_88 s v1 v5 (v4 + 1))))), (6, .int (hm_abs ((T_88 s v1 v5 v4) - (T_88 s v1 (v5 + 1) v4)))), (5, .int v5), (4, .int v4), (3, .int v3), (2, .int v2), (0, .ref 3), (1, .int v1)] [.int (hm_max (hm_abs ((T_88 s v1 v5 v4) - (T_88 s v1 (v5 + 1) v4))) (hm_abs ((T_88 s v1 v5 v4) - (T_88 s v1 v5 (v4 + 1))))), .int v2] (N, hm_sh L g, s) _ Q
          refine hm_st hR ⟨hm_le rfl, ?_⟩
          show R 99 121 [(7, .int (hm_abs ((T_88 s v1 v5 v4) - (T_88 s v1 v5 (v4 + 1))))), (6, .int (hm_abs ((T_88 s v1 v5 v4) - (T_88 s v1 (v5 + 1) v4)))), (5, .int v5), (4, .int v4), (3, .int v3), (2, .int v2), (0, .ref 3), (1, .int v1)] [.int (hm_max v2 (hm_max (hm_abs ((T_88 s v1 v5 v4) - (T_88 s v1 (v5 + 1) v4))) (hm_abs ((T_88 s v1 v5 v4) - (T_88 s v1 v5 (v4 + 1))))))] (N, hm_sh L g, s) _ Q
          refine hm_st hR (hm_st hR (hm_st hR (hm_st hR (hm_st hR (hm_st hR (hm_st hR (hm_st hR (hm_st hR (?_)))))))))
          show R 99 19 [(5, .int (v5 + 1)), (3, .int (v3 + ((hm_abs ((T_88 s v1 v5 v4) - (T_88 s v1 (v5 + 1) v4))) + (hm_abs ((T_88 s v1 v5 v4) - (T_88 s v1 v5 (v4 + 1))))))), (2, .int (hm_max v2 (hm_max (hm_abs ((T_88 s v1 v5 v4) - (T_88 s v1 (v5 + 1) v4))) (hm_abs ((T_88 s v1 v5 v4) - (T_88 s v1 v5 (v4 + 1))))))), (7, .int (hm_abs ((T_88 s v1 v5 v4) - (T_88 s v1 v5 (v4 + 1))))), (6, .int (hm_abs ((T_88 s v1 v5 v4) - (T_88 s v1 (v5 + 1) v4)))), (4, .int v4), (0, .ref 3), (1, .int v1)] [] (N, hm_sh L g, s) _ Q
          exact hm_lvS hR (by intro q hq; simp only [List.mem_cons, List.not_mem_nil, or_false] at hq ⊢; rcases hq with rfl | rfl | rfl | rfl | rfl | rfl <;> simp) (ih s v1 (hm_max v2 (hm_max (hm_abs ((T_88 s v1 v5 v4) - (T_88 s v1 (v5 + 1) v4))) (hm_abs ((T_88 s v1 v5 v4) - (T_88 s v1 v5 (v4 + 1)))))) (v3 + ((hm_abs ((T_88 s v1 v5 v4) - (T_88 s v1 (v5 + 1) v4))) + (hm_abs ((T_88 s v1 v5 v4) - (T_88 s v1 v5 (v4 + 1)))))) v4 (v5 + 1) (hm_dcx c25 hm) hPO hq)
set_option maxRecDepth 20000 in
theorem flp_99_7 {R : hm_R} (hR : hm_Cm R) {N L : Nat} {g : Nat → hm_Sh} {b : hm_B} {Q : hm_Q} (hN : 67 ≤ N) : ∀ (n : Nat) (s : hm_St) (v1 : Int32) (v2 : Int32) (v3 : Int32) (v4 : Int32), hm_df (s 3 6) v4 < n → (hq : Q (.inr none) (N, hm_sh L g, (T_99_7 n s v1 v2 v3 v4))) → R 99 7 [(4, .int v4), (3, .int v3), (2, .int v2), (0, .ref 3), (1, .int v1)] [] (N, hm_sh L g, s) b Q := by
  intro n
  induction n with
  | zero => intro s v1 v2 v3 v4 hm _; exact absurd hm (Nat.not_lt_zero _)
  | succ n ih =>
    intro s v1 v2 v3 v4 hm hq
    unfold T_99_7 at hq
    refine hm_st hR (hm_st hR (hm_st hR ⟨rfl, hm_le rfl, (hm_ltM (M := 67) hN rfl), ?_⟩))
    show R 99 13 [(4, .int v4), (3, .int v3), (2, .int v2), (0, .ref 3), (1, .int v1)] [.int (s 3 6), .int v4] (N, hm_sh L g, s) _ Q
    refine hm_st hR ⟨fun c13 => ?_, fun c13 => ?_⟩
    · rw [if_pos c13] at hq
      show R 99 142 [(4, .int v4), (3, .int v3), (2, .int v2), (0, .ref 3), (1, .int v1)] [] (N, hm_sh L g, s) _ Q
      refine hm_st hR (hm_st hR ⟨rfl, hm_le rfl, (hm_ltM (M := 67) hN rfl), hm_st hR (hm_st hR (hm_st hR (hm_st hR (hm_st hR (hm_st hR (?_))))))⟩)
      refine hm_st hR ⟨hm_le rfl, rfl, (hm_le rfl), (hm_ltM (M := 67) hN rfl), hm_le rfl, hm_le rfl, (0, 0), Nat.zero_le _, Nat.zero_le _, ?_⟩
      refine fp_179 hR hN (rr := 12) (aa := 13) (nn := 24) rfl rfl (hm_le rfl) (hm_ltM (M := 67) hN rfl) rfl rfl (hm_le rfl) (hm_ltM (M := 67) hN rfl) (by decide) ?_
      show R 99 155 [(4, .int v4), (3, .int v3), (2, .int v2), (0, .ref 3), (1, .int v1)] [] (N, hm_sh L g, (T_179 s 13 24 ((v1 * 4) + 1) v2)) _ Q
      refine hm_st hR (hm_st hR ⟨rfl, hm_le rfl, (hm_ltM (M := 67) hN rfl), hm_st hR (hm_st hR (hm_st hR (hm_st hR (hm_st hR (hm_st hR (?_))))))⟩)
      refine hm_st hR ⟨hm_le rfl, rfl, (hm_le rfl), (hm_ltM (M := 67) hN rfl), hm_le rfl, hm_le rfl, (0, 0), Nat.zero_le _, Nat.zero_le _, ?_⟩
      refine fp_179 hR hN (rr := 12) (aa := 13) (nn := 24) rfl rfl (hm_le rfl) (hm_ltM (M := 67) hN rfl) rfl rfl (hm_le rfl) (hm_ltM (M := 67) hN rfl) (by decide) ?_
      show R 99 168 [(4, .int v4), (3, .int v3), (2, .int v2), (0, .ref 3), (1, .int v1)] [] (N, hm_sh L g, (T_179 (T_179 s 13 24 ((v1 * 4) + 1) v2) 13 24 ((v1 * 4) + 2) v3)) _ Q
      exact hm_st hR (hq)
    · rw [if_neg c13] at hq
      show R 99 16 [(4, .int v4), (3, .int v3), (2, .int v2), (0, .ref 3), (1, .int v1)] [] (N, hm_sh L g, s) _ Q
      refine hm_st hR (hm_st hR (?_))
      show R 99 19 [(5, .int 0), (4, .int v4), (3, .int v3), (2, .int v2), (0, .ref 3), (1, .int v1)] [] (N, hm_sh L g, s) _ Q
      exact flp_99_19 hR hN (O := (fun s v1 v2 v3 v4 => T_99_7 n s v1 v2 v3 v4)) (nO := n) (fun s v1 v2 v3 v4 hm hq => ih s v1 v2 v3 v4 hm hq) _ _ _ _ _ _ _ (Nat.lt_succ_self _) (hm_dcx c13 hm) hq
set_option maxRecDepth 20000 in
theorem fp_99 {R : hm_R} (hR : hm_Cm R) {N L : Nat} {g : Nat → hm_Sh} {s : hm_St} {b : hm_B} {Q : hm_Q} (hN : 67 ≤ N) {p1 : Int32} (hq : Q (.inr none) (N, hm_sh L g, (T_99 s p1))) : R 99 0 (lv_args 0 [.ref 3, .int p1]) [] (N, hm_sh L g, s) b Q := by
  unfold T_99 at hq
  show R 99 0 [(0, .ref 3), (1, .int p1)] [] (N, hm_sh L g, s) _ Q
  refine hm_st hR (hm_st hR (hm_st hR (hm_st hR (hm_st hR (hm_st hR (?_))))))
  show R 99 7 [(4, .int 0), (3, .int 0), (2, .int 0), (0, .ref 3), (1, .int p1)] [] (N, hm_sh L g, s) _ Q
  exact flp_99_7 hR hN _ _ _ _ _ _ (Nat.lt_succ_self _) hq
set_option maxRecDepth 20000 in
theorem flp_94_19 {R : hm_R} (hR : hm_Cm R) {N L : Nat} {g : Nat → hm_Sh} {b : hm_B} {Q : hm_Q} (hN : 67 ≤ N) {d : Int32} {O : hm_St → Int32 → Int32 → Int32 → hm_St} {nO : Nat} (hO : ∀ (s : hm_St) (v1 : Int32) (v2 : Int32) (v3 : Int32), hm_df d v3 < nO → (s 3 6 = d) → (Q (.inr none) (N, hm_sh L g, (O s v1 v2 v3))) → R 94 8 [(3, .int v3), (2, .int v2), (0, .ref 3), (1, .int v1)] [] (N, hm_sh L g, s) b Q) : ∀ (n : Nat) (s : hm_St) (v1 : Int32) (v2 : Int32) (v3 : Int32) (v4 : Int32), hm_df d v4 < n → (hPO : hm_df d (v3 + 1) < nO) → (hinv : s 3 6 = d) → (hq : Q (.inr none) (N, hm_sh L g, (T_94_19 O n s v1 v2 v3 v4))) → R 94 19 [(4, .int v4), (3, .int v3), (2, .int v2), (0, .ref 3), (1, .int v1)] [] (N, hm_sh L g, s) b Q := by
  intro n
  induction n with
  | zero => intro s v1 v2 v3 v4 hm hPO hinv _; exact absurd hm (Nat.not_lt_zero _)
  | succ n ih =>
    intro s v1 v2 v3 v4 hm hPO hinv hq
    unfold T_94_19 at hq
    refine hm_st hR (hm_st hR (hm_st hR ⟨rfl, hm_le rfl, (hm_ltM (M := 67) hN rfl), ?_⟩))
    show R 94 25 [(4, .int v4), (3, .int v3), (2, .int v2), (0, .ref 3), (1, .int v1)] [.int (s 3 6), .int v4] (N, hm_sh L g, s) _ Q
    refine hm_st hR ⟨fun c25 => ?_, fun c25 => ?_⟩
    · rw [if_pos c25] at hq
      show R 94 84 [(4, .int v4), (3, .int v3), (2, .int v2), (0, .ref 3), (1, .int v1)] [] (N, hm_sh L g, s) _ Q
      refine hm_st hR (hm_st hR (?_))
      show R 94 8 [(3, .int (v3 + 1)), (4, .int v4), (2, .int v2), (0, .ref 3), (1, .int v1)] [] (N, hm_sh L g, s) _ Q
      exact hm_lvS hR (by intro q hq; simp only [List.mem_cons, List.not_mem_nil, or_false] at hq ⊢; rcases hq with rfl | rfl | rfl | rfl <;> simp) (hO s v1 v2 (v3 + 1) hPO hinv hq)
    · rw [if_neg c25] at hq
      show R 94 28 [(4, .int v4), (3, .int v3), (2, .int v2), (0, .ref 3), (1, .int v1)] [] (N, hm_sh L g, s) _ Q
      refine hm_st hR (hm_st hR (hm_st hR (hm_st hR (?_))))
      refine hm_st hR ⟨hm_le rfl, rfl, (hm_le rfl), (hm_ltM (M := 67) hN rfl), hm_le rfl, hm_le rfl, (0, 0), Nat.zero_le _, Nat.zero_le _, ?_⟩
      refine fp_95 hR hN ?_
      show R 94 36 [(4, .int v4), (3, .int v3), (2, .int v2), (0, .ref 3), (1, .int v1)] [.int (T_95 s v1 v4 v3)] (N, hm_sh L g, s) _ Q
      refine hm_st hR (hm_st hR (hm_st hR ⟨rfl, hm_le rfl, (hm_ltM (M := 67) hN rfl), hm_st hR (hm_st hR (hm_st hR (hm_st hR ⟨rfl, hm_le rfl, (hm_ltM (M := 67) hN rfl), hm_st hR (hm_st hR (hm_st hR (hm_st hR (hm_st hR (?_)))))⟩)))⟩))
      refine hm_st hR ⟨hm_le rfl, rfl, (hm_le rfl), (hm_ltM (M := 67) hN rfl), hm_le rfl, hm_le rfl, (0, 0), Nat.zero_le _, Nat.zero_le _, ?_⟩
      refine fp_179 hR hN (rr := 8) (aa := 9) (nn := 6144) rfl rfl (hm_le rfl) (hm_ltM (M := 67) hN rfl) rfl rfl (hm_le rfl) (hm_ltM (M := 67) hN rfl) (by decide) ?_
      show R 94 58 [(5, .int (T_95 s v1 v4 v3)), (4, .int v4), (3, .int v3), (2, .int v2), (0, .ref 3), (1, .int v1)] [] (N, hm_sh L g, (T_179 s 9 6144 ((v2 + (v3 * (s 3 6))) + v4) (T_95 s v1 v4 v3))) _ Q
      refine hm_st hR (hm_st hR ⟨rfl, hm_le rfl, (hm_ltM (M := 67) hN rfl), hm_st hR (hm_st hR (hm_st hR (hm_st hR (hm_st hR (hm_st hR ⟨rfl, hm_le rfl, (hm_ltM (M := 67) hN rfl), hm_st hR (hm_st hR (hm_st hR (?_)))⟩)))))⟩)
      refine hm_st hR ⟨hm_le rfl, rfl, (hm_le rfl), (hm_ltM (M := 67) hN rfl), hm_le rfl, hm_le rfl, (0, 0), Nat.zero_le _, Nat.zero_le _, ?_⟩
      refine fp_179 hR hN (rr := 10) (aa := 11) (nn := 6144) rfl rfl (hm_le rfl) (hm_ltM (M := 67) hN rfl) rfl rfl (hm_le rfl) (hm_ltM (M := 67) hN rfl) (by decide) ?_
      show R 94 78 [(5, .int (T_95 s v1 v4 v3)), (4, .int v4), (3, .int v3), (2, .int v2), (0, .ref 3), (1, .int v1)] [] (N, hm_sh L g, (T_179 (T_179 s 9 6144 ((v2 + (v3 * (s 3 6))) + v4) (T_95 s v1 v4 v3)) 11 6144 (v2 + (T_95 s v1 v4 v3)) ((v3 * ((T_179 s 9 6144 ((v2 + (v3 * (s 3 6))) + v4) (T_95 s v1 v4 v3)) 3 6)) + v4))) _ Q
      refine hm_st hR (hm_st hR (?_))
      show R 94 19 [(4, .int (v4 + 1)), (5, .int (T_95 s v1 v4 v3)), (3, .int v3), (2, .int v2), (0, .ref 3), (1, .int v1)] [] (N, hm_sh L g, (T_179 (T_179 s 9 6144 ((v2 + (v3 * (s 3 6))) + v4) (T_95 s v1 v4 v3)) 11 6144 (v2 + (T_95 s v1 v4 v3)) ((v3 * ((T_179 s 9 6144 ((v2 + (v3 * (s 3 6))) + v4) (T_95 s v1 v4 v3)) 3 6)) + v4))) _ Q
      exact hm_lvS hR (by intro q hq; simp only [List.mem_cons, List.not_mem_nil, or_false] at hq ⊢; rcases hq with rfl | rfl | rfl | rfl | rfl <;> simp) (ih (T_179 (T_179 s 9 6144 ((v2 + (v3 * (s 3 6))) + v4) (T_95 s v1 v4 v3)) 11 6144 (v2 + (T_95 s v1 v4 v3)) ((v3 * ((T_179 s 9 6144 ((v2 + (v3 * (s 3 6))) + v4) (T_95 s v1 v4 v3)) 3 6)) + v4)) v1 v2 v3 (v4 + 1) (hm_dcg hinv c25 hm) hPO (by simp only [N_179 (show (3 : Nat) ≠ 9 by decide), N_179 (show (3 : Nat) ≠ 11 by decide)]; exact hinv) hq)
set_option maxRecDepth 20000 in
theorem flp_94_8 {R : hm_R} (hR : hm_Cm R) {N L : Nat} {g : Nat → hm_Sh} {b : hm_B} {Q : hm_Q} (hN : 67 ≤ N) {d : Int32} : ∀ (n : Nat) (s : hm_St) (v1 : Int32) (v2 : Int32) (v3 : Int32), hm_df d v3 < n → (hinv : s 3 6 = d) → (hq : Q (.inr none) (N, hm_sh L g, (T_94_8 n s v1 v2 v3))) → R 94 8 [(3, .int v3), (2, .int v2), (0, .ref 3), (1, .int v1)] [] (N, hm_sh L g, s) b Q := by
  intro n
  induction n with
  | zero => intro s v1 v2 v3 hm hinv _; exact absurd hm (Nat.not_lt_zero _)
  | succ n ih =>
    intro s v1 v2 v3 hm hinv hq
    unfold T_94_8 at hq
    refine hm_st hR (hm_st hR (hm_st hR ⟨rfl, hm_le rfl, (hm_ltM (M := 67) hN rfl), ?_⟩))
    show R 94 13 [(3, .int v3), (2, .int v2), (0, .ref 3), (1, .int v1)] [.int (s 3 6), .int v3] (N, hm_sh L g, s) _ Q
    refine hm_st hR ⟨fun c13 => ?_, fun c13 => ?_⟩
    · rw [if_pos c13] at hq
      show R 94 90 [(3, .int v3), (2, .int v2), (0, .ref 3), (1, .int v1)] [] (N, hm_sh L g, s) _ Q
      refine hm_st hR (hm_st hR ⟨rfl, hm_le rfl, (hm_ltM (M := 67) hN rfl), hm_st hR (hm_st hR (hm_st hR (hm_st hR (hm_st hR (?_)))))⟩)
      refine hm_st hR ⟨hm_le rfl, rfl, (hm_le rfl), (hm_ltM (M := 67) hN rfl), hm_le rfl, hm_le rfl, (0, 0), Nat.zero_le _, Nat.zero_le _, ?_⟩
      refine fp_97 hR hN ?_
      show R 94 102 [(3, .int v3), (2, .int v2), (0, .ref 3), (1, .int v1)] [.int (T_97 s v1), .int (v1 * 4), .ref 12] (N, hm_sh L g, s) _ Q
      refine hm_st hR ⟨hm_le rfl, rfl, (hm_le rfl), (hm_ltM (M := 67) hN rfl), hm_le rfl, hm_le rfl, (0, 0), Nat.zero_le _, Nat.zero_le _, ?_⟩
      refine fp_179 hR hN (rr := 12) (aa := 13) (nn := 24) rfl rfl (hm_le rfl) (hm_ltM (M := 67) hN rfl) rfl rfl (hm_le rfl) (hm_ltM (M := 67) hN rfl) (by decide) ?_
      show R 94 105 [(3, .int v3), (2, .int v2), (0, .ref 3), (1, .int v1)] [] (N, hm_sh L g, (T_179 s 13 24 (v1 * 4) (T_97 s v1))) _ Q
      refine hm_st hR (hm_st hR (?_))
      refine hm_st hR ⟨hm_le rfl, rfl, (hm_le rfl), (hm_ltM (M := 67) hN rfl), hm_le rfl, hm_le rfl, (0, 0), Nat.zero_le _, Nat.zero_le _, ?_⟩
      refine fp_99 hR hN ?_
      show R 94 110 [(3, .int v3), (2, .int v2), (0, .ref 3), (1, .int v1)] [] (N, hm_sh L g, (T_99 (T_179 s 13 24 (v1 * 4) (T_97 s v1)) v1)) _ Q
      refine hm_st hR (hm_st hR ⟨rfl, hm_le rfl, (hm_ltM (M := 67) hN rfl), hm_st hR (hm_st hR (hm_st hR (hm_st hR (hm_st hR (hm_st hR (hm_st hR (hm_st hR (hm_st hR (?_)))))))))⟩)
      refine hm_st hR ⟨hm_le rfl, rfl, (hm_le rfl), (hm_ltM (M := 67) hN rfl), hm_le rfl, hm_le rfl, (0, 0), Nat.zero_le _, Nat.zero_le _, ?_⟩
      refine fp_87 hR hN ?_
      show R 94 126 [(3, .int v3), (2, .int v2), (0, .ref 3), (1, .int v1)] [.int (T_87 (T_99 (T_179 s 13 24 (v1 * 4) (T_97 s v1)) v1)), .int 0, .int v1, .ref 3, .int ((v1 * 4) + 3), .ref 12] (N, hm_sh L g, (T_99 (T_179 s 13 24 (v1 * 4) (T_97 s v1)) v1)) _ Q
      refine hm_st hR (hm_st hR (?_))
      refine hm_st hR ⟨hm_le rfl, rfl, (hm_le rfl), (hm_ltM (M := 67) hN rfl), hm_le rfl, hm_le rfl, (0, 0), Nat.zero_le _, Nat.zero_le _, ?_⟩
      refine fp_98 hR hN ?_
      show R 94 131 [(3, .int v3), (2, .int v2), (0, .ref 3), (1, .int v1)] [.int (T_98 (T_99 (T_179 s 13 24 (v1 * 4) (T_97 s v1)) v1) v1 0 ((T_87 (T_99 (T_179 s 13 24 (v1 * 4) (T_97 s v1)) v1)) - 1)), .int ((v1 * 4) + 3), .ref 12] (N, hm_sh L g, (T_99 (T_179 s 13 24 (v1 * 4) (T_97 s v1)) v1)) _ Q
      show R 94 131 [(3, .int v3), (2, .int v2), (0, .ref 3), (1, .int v1)] [.int (T_98 (T_99 (T_179 s 13 24 (v1 * 4) (T_97 s v1)) v1) v1 0 ((T_87 (T_99 (T_179 s 13 24 (v1 * 4) (T_97 s v1)) v1)) - 1)), .int ((v1 * 4) + 3), .ref 12] (N, hm_sh L g, (T_99 (T_179 s 13 24 (v1 * 4) (T_97 s v1)) v1)) _ Q
      suffices G : ∀ w : Int32, w = (if (T_98 (T_99 (T_179 s 13 24 (v1 * 4) (T_97 s v1)) v1) v1 0 ((T_87 (T_99 (T_179 s 13 24 (v1 * 4) (T_97 s v1)) v1)) - 1)) = 0 then (0 : Int32) else 1) → R 94 139 [(3, .int v3), (2, .int v2), (0, .ref 3), (1, .int v1)] [.int w, .int ((v1 * 4) + 3), .ref 12] (N, hm_sh L g, (T_99 (T_179 s 13 24 (v1 * 4) (T_97 s v1)) v1)) (b.1 - 0 - 0 - 0 - 0 - 0, b.2 - 0 - 0 - 0 - 0 - 0) Q by
        show R 94 131 [(3, .int v3), (2, .int v2), (0, .ref 3), (1, .int v1)] [.int (T_98 (T_99 (T_179 s 13 24 (v1 * 4) (T_97 s v1)) v1) v1 0 ((T_87 (T_99 (T_179 s 13 24 (v1 * 4) (T_97 s v1)) v1)) - 1)), .int ((v1 * 4) + 3), .ref 12] (N, hm_sh L g, (T_99 (T_179 s 13 24 (v1 * 4) (T_97 s v1)) v1)) _ Q
        refine hm_st hR ⟨fun c => ?_, fun c => ?_⟩
        · exact hm_st hR (G _ (if_pos c).symm)
        · exact hm_st hR (hm_st hR (G _ (if_neg c).symm))
      intro w hw
      subst hw
      show R 94 139 [(3, .int v3), (2, .int v2), (0, .ref 3), (1, .int v1)] [.int (if (T_98 (T_99 (T_179 s 13 24 (v1 * 4) (T_97 s v1)) v1) v1 0 ((T_87 (T_99 (T_179 s 13 24 (v1 * 4) (T_97 s v1)) v1)) - 1)) = 0 then (0 : Int32) else 1), .int ((v1 * 4) + 3), .ref 12] (N, hm_sh L g, (T_99 (T_179 s 13 24 (v1 * 4) (T_97 s v1)) v1)) _ Q
      refine hm_st hR ⟨hm_le rfl, rfl, (hm_le rfl), (hm_ltM (M := 67) hN rfl), hm_le rfl, hm_le rfl, (0, 0), Nat.zero_le _, Nat.zero_le _, ?_⟩
      refine fp_179 hR hN (rr := 12) (aa := 13) (nn := 24) rfl rfl (hm_le rfl) (hm_ltM (M := 67) hN rfl) rfl rfl (hm_le rfl) (hm_ltM (M := 67) hN rfl) (by decide) ?_
      show R 94 142 [(3, .int v3), (2, .int v2), (0, .ref 3), (1, .int v1)] [] (N, hm_sh L g, (T_179 (T_99 (T_179 s 13 24 (v1 * 4) (T_97 s v1)) v1) 13 24 ((v1 * 4) + 3) (if (T_98 (T_99 (T_179 s 13 24 (v1 * 4) (T_97 s v1)) v1) v1 0 ((T_87 (T_99 (T_179 s 13 24 (v1 * 4) (T_97 s v1)) v1)) - 1)) = 0 then (0 : Int32) else 1))) _ Q
      exact hm_st hR (hq)
    · rw [if_neg c13] at hq
      show R 94 16 [(3, .int v3), (2, .int v2), (0, .ref 3), (1, .int v1)] [] (N, hm_sh L g, s) _ Q
      refine hm_st hR (hm_st hR (?_))
      show R 94 19 [(4, .int 0), (3, .int v3), (2, .int v2), (0, .ref 3), (1, .int v1)] [] (N, hm_sh L g, s) _ Q
      exact flp_94_19 hR hN (d := d) (O := (fun s v1 v2 v3 => T_94_8 n s v1 v2 v3)) (nO := n) (fun s v1 v2 v3 hm hi hq => ih s v1 v2 v3 hm hi hq) _ _ _ _ _ _ (by rw [hinv]; exact Nat.lt_succ_self _) (hm_dcg hinv c13 hm) hinv hq
set_option maxRecDepth 20000 in
theorem fp_94 {R : hm_R} (hR : hm_Cm R) {N L : Nat} {g : Nat → hm_Sh} {s : hm_St} {b : hm_B} {Q : hm_Q} (hN : 67 ≤ N) {p1 : Int32} (hq : Q (.inr none) (N, hm_sh L g, (T_94 s p1))) : R 94 0 (lv_args 0 [.ref 3, .int p1]) [] (N, hm_sh L g, s) b Q := by
  unfold T_94 at hq
  show R 94 0 [(0, .ref 3), (1, .int p1)] [] (N, hm_sh L g, s) _ Q
  refine hm_st hR (hm_st hR (hm_st hR (hm_st hR (hm_st hR (hm_st hR (?_))))))
  show R 94 8 [(3, .int 0), (2, .int (p1 * 1024)), (0, .ref 3), (1, .int p1)] [] (N, hm_sh L g, s) _ Q
  exact flp_94_8 hR hN _ _ _ _ _ (Nat.lt_succ_self _) rfl hq
set_option maxRecDepth 20000 in
theorem flp_92_23 {R : hm_R} (hR : hm_Cm R) {N L : Nat} {g : Nat → hm_Sh} {b : hm_B} {Q : hm_Q} (hN : 67 ≤ N) : ∀ (n : Nat) (s : hm_St) (v1 : Int32) (v2 : Int32), hm_df 6 v2 < n → (hq : Q (.inr none) (N, hm_sh L g, (T_92_23 n s v1 v2))) → R 92 23 [(2, .int v2), (0, .ref 3), (1, .int v1)] [] (N, hm_sh L g, s) b Q := by
  intro n
  induction n with
  | zero => intro s v1 v2 hm _; exact absurd hm (Nat.not_lt_zero _)
  | succ n ih =>
    intro s v1 v2 hm hq
    unfold T_92_23 at hq
    refine hm_st hR (hm_st hR (?_))
    show R 92 26 [(2, .int v2), (0, .ref 3), (1, .int v1)] [.int 6, .int v2] (N, hm_sh L g, s) _ Q
    refine hm_st hR ⟨fun c26 => ?_, fun c26 => ?_⟩
    · rw [if_pos c26] at hq
      show R 92 40 [(2, .int v2), (0, .ref 3), (1, .int v1)] [] (N, hm_sh L g, s) _ Q
      exact hm_st hR (hq)
    · rw [if_neg c26] at hq
      show R 92 29 [(2, .int v2), (0, .ref 3), (1, .int v1)] [] (N, hm_sh L g, s) _ Q
      refine hm_st hR (hm_st hR (?_))
      refine hm_st hR ⟨hm_le rfl, rfl, (hm_le rfl), (hm_ltM (M := 67) hN rfl), hm_le rfl, hm_le rfl, (0, 0), Nat.zero_le _, Nat.zero_le _, ?_⟩
      refine fp_94 hR hN ?_
      show R 92 34 [(2, .int v2), (0, .ref 3), (1, .int v1)] [] (N, hm_sh L g, (T_94 s v2)) _ Q
      refine hm_st hR (hm_st hR (?_))
      show R 92 23 [(2, .int (v2 + 1)), (0, .ref 3), (1, .int v1)] [] (N, hm_sh L g, (T_94 s v2)) _ Q
      exact hm_lvS hR (by intro q hq; simp only [List.mem_cons, List.not_mem_nil, or_false] at hq ⊢; rcases hq with rfl | rfl | rfl <;> simp) (ih (T_94 s v2) v1 (v2 + 1) (hm_dcx c26 hm) hq)
set_option maxRecDepth 20000 in
theorem fp_92 {R : hm_R} (hR : hm_Cm R) {N L : Nat} {g : Nat → hm_Sh} {s : hm_St} {b : hm_B} {Q : hm_Q} (hN : 67 ≤ N) {p1 : Int32} (hq : Q (.inr none) (N, hm_sh L g, (T_92 s p1))) : R 92 0 (lv_args 0 [.ref 3, .int p1]) [] (N, hm_sh L g, s) b Q := by
  unfold T_92 at hq
  show R 92 0 [(0, .ref 3), (1, .int p1)] [] (N, hm_sh L g, s) _ Q
  refine hm_st hR (hm_st hR (hm_st hR ⟨rfl, hm_le rfl, (hm_ltM (M := 67) hN rfl), ?_⟩))
  show R 92 5 [(0, .ref 3), (1, .int p1)] [.int (s 3 5), .int p1] (N, hm_sh L g, s) _ Q
  refine hm_st hR ⟨fun c5 => ?_, fun c5 => ?_⟩
  · rw [if_neg c5] at hq
    show R 92 9 [(0, .ref 3), (1, .int p1)] [] (N, hm_sh L g, s) _ Q
    refine hm_st hR (hm_st hR (hm_st hR ⟨rfl, rfl, hm_le rfl, (hm_ltM (M := 67) hN rfl), ?_⟩))
    show R 92 14 [(0, .ref 3), (1, .int p1)] [] (N, hm_sh L g, (hm_w1 s 3 5 p1)) _ Q
    refine hm_st hR (hm_st hR (hm_st hR (hm_st hR (hm_st hR ⟨rfl, rfl, hm_le rfl, (hm_ltM (M := 67) hN rfl), ?_⟩))))
    show R 92 21 [(0, .ref 3), (1, .int p1)] [] (N, hm_sh L g, (hm_w1 (hm_w1 s 3 5 p1) 3 6 (1 <<< ((p1 : Int32) &&& 31)))) _ Q
    refine hm_st hR (hm_st hR (?_))
    show R 92 23 [(2, .int 0), (0, .ref 3), (1, .int p1)] [] (N, hm_sh L g, (hm_w1 (hm_w1 s 3 5 p1) 3 6 (1 <<< ((p1 : Int32) &&& 31)))) _ Q
    exact flp_92_23 hR hN _ _ _ _ (Nat.lt_succ_self _) hq
  · rw [if_pos c5] at hq
    show R 92 8 [(0, .ref 3), (1, .int p1)] [] (N, hm_sh L g, s) _ Q
    exact hm_st hR (hq)
set_option maxRecDepth 20000 in
theorem fp_156 {R : hm_R} (hR : hm_Cm R) {N L : Nat} {g : Nat → hm_Sh} {s : hm_St} {b : hm_B} {Q : hm_Q} (hN : 67 ≤ N) (hq : Q (.inr none) (N, hm_sh L g, (T_156 s))) : R 156 0 (lv_args 0 [.ref 14]) [] (N, hm_sh L g, s) b Q := by
  unfold T_156 at hq
  show R 156 0 [(0, .ref 14)] [] (N, hm_sh L g, s) _ Q
  refine hm_st hR (hm_st hR (hm_st hR ⟨rfl, rfl, hm_le rfl, (hm_ltM (M := 67) hN rfl), ?_⟩))
  show R 156 5 [(0, .ref 14)] [] (N, hm_sh L g, (hm_w1 s 14 5 0)) _ Q
  refine hm_st hR (hm_st hR (hm_st hR ⟨rfl, rfl, hm_le rfl, (hm_ltM (M := 67) hN rfl), ?_⟩))
  show R 156 10 [(0, .ref 14)] [] (N, hm_sh L g, (hm_w1 (hm_w1 s 14 5 0) 14 6 0)) _ Q
  exact hm_st hR (hq)
set_option maxRecDepth 20000 in
theorem fp_111 {R : hm_R} (hR : hm_Cm R) {N L : Nat} {g : Nat → hm_Sh} {s : hm_St} {b : hm_B} {Q : hm_Q} (hN : 67 ≤ N) (hq : Q (.inr none) (N, hm_sh L g, (T_111 s))) : R 111 0 (lv_args 0 [.ref 25]) [] (N, hm_sh L g, s) b Q := by
  unfold T_111 at hq
  show R 111 0 [(0, .ref 25)] [] (N, hm_sh L g, s) _ Q
  refine hm_st hR (hm_st hR (hm_st hR ⟨rfl, rfl, hm_le rfl, (hm_ltM (M := 67) hN rfl), ?_⟩))
  show R 111 5 [(0, .ref 25)] [] (N, hm_sh L g, (hm_w1 s 25 8 0)) _ Q
  refine hm_st hR (hm_st hR (hm_st hR ⟨rfl, rfl, hm_le rfl, (hm_ltM (M := 67) hN rfl), ?_⟩))
  show R 111 10 [(0, .ref 25)] [] (N, hm_sh L g, (hm_w1 (hm_w1 s 25 8 0) 25 9 0)) _ Q
  exact hm_st hR (hq)
set_option maxRecDepth 20000 in
theorem flp_181_2 {R : hm_R} (hR : hm_Cm R) {N L : Nat} {g : Nat → hm_Sh} {b : hm_B} {Q : hm_Q} (hN : 67 ≤ N) {rr aa nn : Nat} (hrk : (hm_sh L g rr).1 = 8) (hra : (hm_sh L g rr).2.2 0 = some aa) (hr2 : 2 ≤ rr) (hrl : rr < N) (hak : (hm_sh L g aa).1 = 1000) (han : (hm_sh L g aa).2.1 = nn) (ha2 : 2 ≤ aa) (hal : aa < N) (hnn : nn < 2 ^ 31) : ∀ (n : Nat) (s : hm_St) (v1 : Int32) (v2 : Int32), hm_df (Int32.ofNat nn) v2 < n → (hinv : 0 ≤ v2) → (hq : Q (.inr none) (N, hm_sh L g, (T_181_2 aa nn n s v1 v2))) → R 181 2 [(2, .int v2), (0, .ref rr), (1, .int v1)] [] (N, hm_sh L g, s) b Q := by
  intro n
  induction n with
  | zero => intro s v1 v2 hm hinv _; exact absurd hm (Nat.not_lt_zero _)
  | succ n ih =>
    intro s v1 v2 hm hinv hq
    unfold T_181_2 at hq
    refine hm_st hR (hm_st hR (?_))
    show R 181 4 [(2, .int v2), (0, .ref rr), (1, .int v1)] [.ref rr, .int v2] (N, hm_sh L g, s) _ Q
    refine hm_rwf hR hrk hra hr2 hrl (by rfl) ?_
    show R 181 7 [(2, .int v2), (0, .ref rr), (1, .int v1)] [.ref aa, .int v2] (N, hm_sh L g, s) _ Q
    show R 181 7 [(2, .int v2), (0, .ref rr), (1, .int v1)] [.ref aa, .int v2] (N, hm_sh L g, s) _ Q
    refine hm_aln hR hak han hal (by rfl) ?_
    show R 181 8 [(2, .int v2), (0, .ref rr), (1, .int v1)] [.int (Int32.ofNat nn), .int v2] (N, hm_sh L g, s) _ Q
    show R 181 8 [(2, .int v2), (0, .ref rr), (1, .int v1)] [.int (Int32.ofNat nn), .int v2] (N, hm_sh L g, s) _ Q
    refine hm_st hR ⟨fun c8 => ?_, fun c8 => ?_⟩
    · rw [if_pos c8] at hq
      show R 181 24 [(2, .int v2), (0, .ref rr), (1, .int v1)] [] (N, hm_sh L g, s) _ Q
      exact hm_st hR (hq)
    · rw [if_neg c8] at hq
      show R 181 11 [(2, .int v2), (0, .ref rr), (1, .int v1)] [] (N, hm_sh L g, s) _ Q
      refine hm_st hR (?_)
      show R 181 12 [(2, .int v2), (0, .ref rr), (1, .int v1)] [.ref rr] (N, hm_sh L g, s) _ Q
      refine hm_rwf hR hrk hra hr2 hrl (by rfl) ?_
      show R 181 15 [(2, .int v2), (0, .ref rr), (1, .int v1)] [.ref aa] (N, hm_sh L g, s) _ Q
      refine hm_st hR (hm_st hR (?_))
      show R 181 17 [(2, .int v2), (0, .ref rr), (1, .int v1)] [.int v1, .int v2, .ref aa] (N, hm_sh L g, s) _ Q
      refine hm_ast hR hak han ha2 hal (by rfl) (hm_vin (hm_nl hinv) c8 hnn) ?_
      show R 181 18 [(2, .int v2), (0, .ref rr), (1, .int v1)] [] (N, hm_sh L g, (hm_w1 s aa (v2).toNatClampNeg v1)) _ Q
      refine hm_st hR (hm_st hR (?_))
      show R 181 2 [(2, .int (v2 + 1)), (0, .ref rr), (1, .int v1)] [] (N, hm_sh L g, (hm_w1 s aa (v2).toNatClampNeg v1)) _ Q
      exact hm_lvS hR (by intro q hq; simp only [List.mem_cons, List.not_mem_nil, or_false] at hq ⊢; rcases hq with rfl | rfl | rfl <;> simp) (ih (hm_w1 s aa (v2).toNatClampNeg v1) v1 (v2 + 1) (hm_dcx c8 hm) (hm_inc0 hinv c8) hq)
set_option maxRecDepth 20000 in
theorem fp_181 {R : hm_R} (hR : hm_Cm R) {N L : Nat} {g : Nat → hm_Sh} {s : hm_St} {b : hm_B} {Q : hm_Q} (hN : 67 ≤ N) {rr aa nn : Nat} (hrk : (hm_sh L g rr).1 = 8) (hra : (hm_sh L g rr).2.2 0 = some aa) (hr2 : 2 ≤ rr) (hrl : rr < N) (hak : (hm_sh L g aa).1 = 1000) (han : (hm_sh L g aa).2.1 = nn) (ha2 : 2 ≤ aa) (hal : aa < N) (hnn : nn < 2 ^ 31) {p1 : Int32} (hq : Q (.inr none) (N, hm_sh L g, (T_181 s aa nn p1))) : R 181 0 (lv_args 0 [.ref rr, .int p1]) [] (N, hm_sh L g, s) b Q := by
  unfold T_181 at hq
  show R 181 0 [(0, .ref rr), (1, .int p1)] [] (N, hm_sh L g, s) _ Q
  refine hm_st hR (hm_st hR (?_))
  show R 181 2 [(2, .int 0), (0, .ref rr), (1, .int p1)] [] (N, hm_sh L g, s) _ Q
  exact flp_181_2 hR hN hrk hra hr2 hrl hak han ha2 hal hnn _ _ _ _ (Nat.lt_succ_self _) (by decide) hq
set_option maxRecDepth 20000 in
theorem fp_132 {R : hm_R} (hR : hm_Cm R) {N L : Nat} {g : Nat → hm_Sh} {s : hm_St} {b : hm_B} {Q : hm_Q} (hN : 67 ≤ N) {p1 : Int32} {p2 : Int32} (hq : Q (.inr none) (N, hm_sh L g, (T_132 s p1 p2))) : R 132 0 (lv_args 0 [.ref 42, .int p1, .int p2]) [] (N, hm_sh L g, s) b Q := by
  unfold T_132 at hq
  show R 132 0 [(0, .ref 42), (1, .int p1), (2, .int p2)] [] (N, hm_sh L g, s) _ Q
  refine hm_st hR (hm_st hR (hm_st hR (hm_st hR (hm_st hR (hm_st hR (hm_st hR ⟨rfl, rfl, hm_le rfl, (hm_ltM (M := 67) hN rfl), ?_⟩))))))
  show R 132 9 [(0, .ref 42), (1, .int p1), (2, .int p2)] [] (N, hm_sh L g, (hm_w1 s 42 2 (1 <<< (((2 * p1) : Int32) &&& 31)))) _ Q
  refine hm_st hR (hm_st hR (hm_st hR ⟨rfl, rfl, hm_le rfl, (hm_ltM (M := 67) hN rfl), ?_⟩))
  show R 132 14 [(0, .ref 42), (1, .int p1), (2, .int p2)] [] (N, hm_sh L g, (hm_w1 (hm_w1 s 42 2 (1 <<< (((2 * p1) : Int32) &&& 31))) 42 3 p2)) _ Q
  refine hm_st hR (hm_st hR ⟨rfl, hm_le rfl, (hm_ltM (M := 67) hN rfl), hm_st hR (?_)⟩)
  refine hm_st hR ⟨hm_le rfl, rfl, (hm_le rfl), (hm_ltM (M := 67) hN rfl), hm_le rfl, hm_le rfl, (0, 0), Nat.zero_le _, Nat.zero_le _, ?_⟩
  refine fp_181 hR hN (rr := 43) (aa := 44) (nn := 1024) rfl rfl (hm_le rfl) (hm_ltM (M := 67) hN rfl) rfl rfl (hm_le rfl) (hm_ltM (M := 67) hN rfl) (by decide) ?_
  show R 132 22 [(0, .ref 42), (1, .int p1), (2, .int p2)] [] (N, hm_sh L g, (T_181 (hm_w1 (hm_w1 s 42 2 (1 <<< (((2 * p1) : Int32) &&& 31))) 42 3 p2) 44 1024 (-1))) _ Q
  refine hm_st hR (hm_st hR ⟨rfl, hm_le rfl, (hm_ltM (M := 67) hN rfl), hm_st hR (hm_st hR (?_))⟩)
  refine hm_st hR ⟨hm_le rfl, rfl, (hm_le rfl), (hm_ltM (M := 67) hN rfl), hm_le rfl, hm_le rfl, (0, 0), Nat.zero_le _, Nat.zero_le _, ?_⟩
  refine fp_179 hR hN (rr := 45) (aa := 46) (nn := 1025) rfl rfl (hm_le rfl) (hm_ltM (M := 67) hN rfl) rfl rfl (hm_le rfl) (hm_ltM (M := 67) hN rfl) (by decide) ?_
  show R 132 31 [(0, .ref 42), (1, .int p1), (2, .int p2)] [] (N, hm_sh L g, (T_179 (T_181 (hm_w1 (hm_w1 s 42 2 (1 <<< (((2 * p1) : Int32) &&& 31))) 42 3 p2) 44 1024 (-1)) 46 1025 0 0)) _ Q
  refine hm_st hR (hm_st hR ⟨rfl, hm_le rfl, (hm_ltM (M := 67) hN rfl), hm_st hR (hm_st hR (hm_st hR ⟨rfl, hm_le rfl, (hm_ltM (M := 67) hN rfl), ?_⟩))⟩)
  refine hm_st hR ⟨hm_le rfl, rfl, (hm_le rfl), (hm_ltM (M := 67) hN rfl), hm_le rfl, hm_le rfl, (0, 0), Nat.zero_le _, Nat.zero_le _, ?_⟩
  refine fp_179 hR hN (rr := 45) (aa := 46) (nn := 1025) rfl rfl (hm_le rfl) (hm_ltM (M := 67) hN rfl) rfl rfl (hm_le rfl) (hm_ltM (M := 67) hN rfl) (by decide) ?_
  show R 132 43 [(0, .ref 42), (1, .int p1), (2, .int p2)] [] (N, hm_sh L g, (T_179 (T_179 (T_181 (hm_w1 (hm_w1 s 42 2 (1 <<< (((2 * p1) : Int32) &&& 31))) 42 3 p2) 44 1024 (-1)) 46 1025 0 0) 46 1025 1 ((T_179 (T_181 (hm_w1 (hm_w1 s 42 2 (1 <<< (((2 * p1) : Int32) &&& 31))) 42 3 p2) 44 1024 (-1)) 46 1025 0 0) 42 2))) _ Q
  refine hm_st hR (hm_st hR (hm_st hR ⟨rfl, rfl, hm_le rfl, (hm_ltM (M := 67) hN rfl), ?_⟩))
  show R 132 48 [(0, .ref 42), (1, .int p1), (2, .int p2)] [] (N, hm_sh L g, (hm_w1 (T_179 (T_179 (T_181 (hm_w1 (hm_w1 s 42 2 (1 <<< (((2 * p1) : Int32) &&& 31))) 42 3 p2) 44 1024 (-1)) 46 1025 0 0) 46 1025 1 ((T_179 (T_181 (hm_w1 (hm_w1 s 42 2 (1 <<< (((2 * p1) : Int32) &&& 31))) 42 3 p2) 44 1024 (-1)) 46 1025 0 0) 42 2)) 42 4 1)) _ Q
  refine hm_st hR (hm_st hR (hm_st hR ⟨rfl, rfl, hm_le rfl, (hm_ltM (M := 67) hN rfl), ?_⟩))
  show R 132 53 [(0, .ref 42), (1, .int p1), (2, .int p2)] [] (N, hm_sh L g, (hm_w1 (hm_w1 (T_179 (T_179 (T_181 (hm_w1 (hm_w1 s 42 2 (1 <<< (((2 * p1) : Int32) &&& 31))) 42 3 p2) 44 1024 (-1)) 46 1025 0 0) 46 1025 1 ((T_179 (T_181 (hm_w1 (hm_w1 s 42 2 (1 <<< (((2 * p1) : Int32) &&& 31))) 42 3 p2) 44 1024 (-1)) 46 1025 0 0) 42 2)) 42 4 1) 42 5 0)) _ Q
  refine hm_st hR (hm_st hR (hm_st hR ⟨rfl, rfl, hm_le rfl, (hm_ltM (M := 67) hN rfl), ?_⟩))
  show R 132 58 [(0, .ref 42), (1, .int p1), (2, .int p2)] [] (N, hm_sh L g, (hm_w1 (hm_w1 (hm_w1 (T_179 (T_179 (T_181 (hm_w1 (hm_w1 s 42 2 (1 <<< (((2 * p1) : Int32) &&& 31))) 42 3 p2) 44 1024 (-1)) 46 1025 0 0) 46 1025 1 ((T_179 (T_181 (hm_w1 (hm_w1 s 42 2 (1 <<< (((2 * p1) : Int32) &&& 31))) 42 3 p2) 44 1024 (-1)) 46 1025 0 0) 42 2)) 42 4 1) 42 5 0) 42 6 0)) _ Q
  exact hm_st hR (hq)
set_option maxRecDepth 20000 in
theorem fp_69 {R : hm_R} (hR : hm_Cm R) {N L : Nat} {g : Nat → hm_Sh} {s : hm_St} {b : hm_B} {Q : hm_Q} (hN : 67 ≤ N) {p1 : Int32} (hq : Q (.inr none) (N, hm_sh L g, (T_69 s p1))) : R 69 0 (lv_args 0 [.ref 47, .int p1]) [] (N, hm_sh L g, s) b Q := by
  unfold T_69 at hq
  show R 69 0 [(0, .ref 47), (1, .int p1)] [] (N, hm_sh L g, s) _ Q
  refine hm_st hR (hm_st hR (hm_st hR ⟨rfl, rfl, hm_le rfl, (hm_ltM (M := 67) hN rfl), ?_⟩))
  show R 69 5 [(0, .ref 47), (1, .int p1)] [] (N, hm_sh L g, (hm_w1 s 47 1 p1)) _ Q
  refine hm_st hR (hm_st hR ⟨rfl, hm_le rfl, (hm_ltM (M := 67) hN rfl), hm_st hR (?_)⟩)
  refine hm_st hR ⟨hm_le rfl, rfl, (hm_le rfl), (hm_ltM (M := 67) hN rfl), hm_le rfl, hm_le rfl, (0, 0), Nat.zero_le _, Nat.zero_le _, ?_⟩
  refine fp_181 hR hN (rr := 48) (aa := 49) (nn := 1365) rfl rfl (hm_le rfl) (hm_ltM (M := 67) hN rfl) rfl rfl (hm_le rfl) (hm_ltM (M := 67) hN rfl) (by decide) ?_
  show R 69 13 [(0, .ref 47), (1, .int p1)] [] (N, hm_sh L g, (T_181 (hm_w1 s 47 1 p1) 49 1365 0)) _ Q
  exact hm_st hR (hq)
set_option maxRecDepth 20000 in
theorem fp_185 {R : hm_R} (hR : hm_Cm R) {N L : Nat} {g : Nat → hm_Sh} {s : hm_St} {b : hm_B} {Q : hm_Q} (hN : 67 ≤ N) (hq : Q (.inr none) (N, hm_sh L g, (T_185 s))) : R 185 0 (lv_args 0 [.ref 50]) [] (N, hm_sh L g, s) b Q := by
  unfold T_185 at hq
  show R 185 0 [(0, .ref 50)] [] (N, hm_sh L g, s) _ Q
  refine hm_st hR (hm_st hR (hm_st hR ⟨rfl, rfl, hm_le rfl, (hm_ltM (M := 67) hN rfl), ?_⟩))
  show R 185 5 [(0, .ref 50)] [] (N, hm_sh L g, (hm_w1 s 50 4 0)) _ Q
  exact hm_st hR (hq)
set_option maxRecDepth 20000 in
theorem fp_4 {R : hm_R} (hR : hm_Cm R) {N L : Nat} {g : Nat → hm_Sh} {s : hm_St} {b : hm_B} {Q : hm_Q} (hN : 67 ≤ N) (hb1 : 1 ≤ b.1) (hb2 : 6 ≤ b.2) {p1 : Int32} {p2 : Int32} {p3 : Int32} (h1 : ¬ T_34 s p1 1 5 = 0) (h2 : ¬ T_35 s p2 = 0) (h3 : ¬ T_34 s p3 2 8 = 0) (hq : hm_qx Q L (fun v => some (.int v)) (T_4 N g s p1 p2 p3)) : R 4 0 (lv_args 0 [.ref 2, .int p1, .int p2, .int p3]) [] (N, hm_sh L g, s) b Q := by
  unfold T_4 at hq
  show R 4 0 [(0, .ref 2), (1, .int p1), (2, .int p2), (3, .int p3)] [] (N, hm_sh L g, s) _ Q
  refine hm_st hR (hm_st hR (hm_st hR (?_)))
  refine hm_st hR ⟨hm_le rfl, hm_le rfl, hm_le rfl, (0, 0), Nat.zero_le _, Nat.zero_le _, ?_⟩
  refine fp_34 hR hN ?_
  show R 4 6 [(0, .ref 2), (1, .int p1), (2, .int p2), (3, .int p3)] [.int (T_34 s p1 1 5)] (N, hm_sh L g, s) _ Q
  show R 4 6 [(0, .ref 2), (1, .int p1), (2, .int p2), (3, .int p3)] [.int (T_34 s p1 1 5)] (N, hm_sh L g, s) _ Q
  refine hm_st hR ⟨fun c6 => ?_, fun c6 => ?_⟩
  · rw [if_pos c6] at hq
    show R 4 30 [(0, .ref 2), (1, .int p1), (2, .int p2), (3, .int p3)] [] (N, hm_sh L g, s) _ Q
    refine hm_st hR (?_)
    show R 4 31 [(0, .ref 2), (1, .int p1), (2, .int p2), (3, .int p3)] [.int 0] (N, hm_sh L g, s) _ Q
    exact absurd c6 h1
  · rw [if_neg c6] at hq
    show R 4 9 [(0, .ref 2), (1, .int p1), (2, .int p2), (3, .int p3)] [] (N, hm_sh L g, s) _ Q
    refine hm_st hR (?_)
    refine hm_st hR ⟨hm_le rfl, hm_le rfl, hm_le rfl, (0, 0), Nat.zero_le _, Nat.zero_le _, ?_⟩
    refine fp_35 hR hN ?_
    show R 4 13 [(0, .ref 2), (1, .int p1), (2, .int p2), (3, .int p3)] [.int (T_35 s p2)] (N, hm_sh L g, s) _ Q
    show R 4 13 [(0, .ref 2), (1, .int p1), (2, .int p2), (3, .int p3)] [.int (T_35 s p2)] (N, hm_sh L g, s) _ Q
    refine hm_st hR ⟨fun c13 => ?_, fun c13 => ?_⟩
    · rw [if_pos c13] at hq
      show R 4 30 [(0, .ref 2), (1, .int p1), (2, .int p2), (3, .int p3)] [] (N, hm_sh L g, s) _ Q
      refine hm_st hR (?_)
      show R 4 31 [(0, .ref 2), (1, .int p1), (2, .int p2), (3, .int p3)] [.int 0] (N, hm_sh L g, s) _ Q
      exact absurd c13 h2
    · rw [if_neg c13] at hq
      show R 4 16 [(0, .ref 2), (1, .int p1), (2, .int p2), (3, .int p3)] [] (N, hm_sh L g, s) _ Q
      refine hm_st hR (hm_st hR (hm_st hR (?_)))
      refine hm_st hR ⟨hm_le rfl, hm_le rfl, hm_le rfl, (0, 0), Nat.zero_le _, Nat.zero_le _, ?_⟩
      refine fp_34 hR hN ?_
      show R 4 23 [(0, .ref 2), (1, .int p1), (2, .int p2), (3, .int p3)] [.int (T_34 s p3 2 8)] (N, hm_sh L g, s) _ Q
      show R 4 23 [(0, .ref 2), (1, .int p1), (2, .int p2), (3, .int p3)] [.int (T_34 s p3 2 8)] (N, hm_sh L g, s) _ Q
      suffices G : ∀ w : Int32, w = (if (T_34 s p3 2 8) = 0 then (0 : Int32) else 1) → R 4 31 [(0, .ref 2), (1, .int p1), (2, .int p2), (3, .int p3)] [.int w] (N, hm_sh L g, s) (b.1 - 0 - 0 - 0, b.2 - 0 - 0 - 0) Q by
        show R 4 23 [(0, .ref 2), (1, .int p1), (2, .int p2), (3, .int p3)] [.int (T_34 s p3 2 8)] (N, hm_sh L g, s) _ Q
        refine hm_st hR ⟨fun c => ?_, fun c => ?_⟩
        · exact hm_st hR (G _ (if_pos c).symm)
        · exact hm_st hR (hm_st hR (G _ (if_neg c).symm))
      intro w hw
      subst hw
      show R 4 31 [(0, .ref 2), (1, .int p1), (2, .int p2), (3, .int p3)] [.int (if (T_34 s p3 2 8) = 0 then (0 : Int32) else 1)] (N, hm_sh L g, s) _ Q
      show R 4 31 [(0, .ref 2), (1, .int p1), (2, .int p2), (3, .int p3)] [.int (if (T_34 s p3 2 8) = 0 then (0 : Int32) else 1)] (N, hm_sh L g, s) _ Q
      by_cases c31 : ((if (T_34 s p3 2 8) = 0 then (0 : Int32) else 1) : Int32) = 0
      · rw [if_pos c31] at hq
        exact absurd c31 (by rw [if_neg h3]; decide)
      · rw [if_neg c31] at hq
        refine hm_st hR ⟨hm_le rfl, hm_le rfl, hm_le rfl, (0, 0), Nat.zero_le _, Nat.zero_le _, hm_needP31 hR c31 ?_⟩
        show R 4 34 [(0, .ref 2), (1, .int p1), (2, .int p2), (3, .int p3)] [] (N, hm_sh L g, s) _ Q
        refine hm_st hR (hm_st hR (hm_st hR ⟨rfl, rfl, hm_le rfl, (hm_ltM (M := 67) hN rfl), ?_⟩))
        show R 4 39 [(0, .ref 2), (1, .int p1), (2, .int p2), (3, .int p3)] [] (N, hm_sh L g, (hm_w1 s 2 8 p2)) _ Q
        refine hm_st hR (hm_st hR ⟨rfl, hm_le rfl, (hm_ltM (M := 67) hN rfl), hm_st hR (?_)⟩)
        refine hm_st hR ⟨hm_le rfl, rfl, (hm_le rfl), (hm_ltM (M := 67) hN rfl), hm_le rfl, hm_le rfl, (0, 0), Nat.zero_le _, Nat.zero_le _, ?_⟩
        refine fp_92 hR hN ?_
        show R 4 47 [(0, .ref 2), (1, .int p1), (2, .int p2), (3, .int p3)] [] (N, hm_sh L g, (T_92 (hm_w1 s 2 8 p2) p1)) _ Q
        refine hm_st hR (hm_st hR ⟨rfl, hm_le rfl, (hm_ltM (M := 67) hN rfl), ?_⟩)
        refine hm_st hR ⟨hm_le rfl, rfl, (hm_le rfl), (hm_ltM (M := 67) hN rfl), hm_le rfl, hm_le rfl, (0, 0), Nat.zero_le _, Nat.zero_le _, ?_⟩
        refine fp_156 hR hN ?_
        show R 4 54 [(0, .ref 2), (1, .int p1), (2, .int p2), (3, .int p3)] [] (N, hm_sh L g, (T_156 (T_92 (hm_w1 s 2 8 p2) p1))) _ Q
        refine hm_st hR (hm_st hR ⟨rfl, hm_le rfl, (hm_ltM (M := 67) hN rfl), ?_⟩)
        refine hm_st hR ⟨hm_le rfl, rfl, (hm_le rfl), (hm_ltM (M := 67) hN rfl), hm_le rfl, hm_le rfl, (0, 0), Nat.zero_le _, Nat.zero_le _, ?_⟩
        refine fp_111 hR hN ?_
        show R 4 61 [(0, .ref 2), (1, .int p1), (2, .int p2), (3, .int p3)] [] (N, hm_sh L g, (T_111 (T_156 (T_92 (hm_w1 s 2 8 p2) p1)))) _ Q
        refine hm_st hR (hm_st hR ⟨rfl, hm_le rfl, (hm_ltM (M := 67) hN rfl), hm_st hR (hm_st hR (?_))⟩)
        refine hm_st hR ⟨hm_le rfl, rfl, (hm_le rfl), (hm_ltM (M := 67) hN rfl), hm_le rfl, hm_le rfl, (0, 0), Nat.zero_le _, Nat.zero_le _, ?_⟩
        refine fp_132 hR hN ?_
        show R 4 70 [(0, .ref 2), (1, .int p1), (2, .int p2), (3, .int p3)] [] (N, hm_sh L g, (T_132 (T_111 (T_156 (T_92 (hm_w1 s 2 8 p2) p1))) p1 p3)) _ Q
        refine hm_st hR (hm_st hR ⟨rfl, hm_le rfl, (hm_ltM (M := 67) hN rfl), hm_st hR (?_)⟩)
        refine hm_st hR ⟨hm_le rfl, rfl, (hm_le rfl), (hm_ltM (M := 67) hN rfl), hm_le rfl, hm_le rfl, (0, 0), Nat.zero_le _, Nat.zero_le _, ?_⟩
        refine fp_69 hR hN ?_
        show R 4 78 [(0, .ref 2), (1, .int p1), (2, .int p2), (3, .int p3)] [] (N, hm_sh L g, (T_69 (T_132 (T_111 (T_156 (T_92 (hm_w1 s 2 8 p2) p1))) p1 p3) p1)) _ Q
        refine hm_st hR (hm_st hR ⟨rfl, hm_le rfl, (hm_ltM (M := 67) hN rfl), ?_⟩)
        refine hm_st hR ⟨hm_le rfl, rfl, (hm_le rfl), (hm_ltM (M := 67) hN rfl), hm_le rfl, hm_le rfl, (0, 0), Nat.zero_le _, Nat.zero_le _, ?_⟩
        refine fp_185 hR hN ?_
        show R 4 85 [(0, .ref 2), (1, .int p1), (2, .int p2), (3, .int p3)] [] (N, hm_sh L g, (T_185 (T_69 (T_132 (T_111 (T_156 (T_92 (hm_w1 s 2 8 p2) p1))) p1 p3) p1))) _ Q
        refine hm_st hR (hm_st hR (hm_st hR ⟨rfl, rfl, hm_le rfl, (hm_ltM (M := 67) hN rfl), ?_⟩))
        show R 4 90 [(0, .ref 2), (1, .int p1), (2, .int p2), (3, .int p3)] [] (N, hm_sh L g, (hm_w1 (T_185 (T_69 (T_132 (T_111 (T_156 (T_92 (hm_w1 s 2 8 p2) p1))) p1 p3) p1)) 2 9 1)) _ Q
        refine hm_st hR (hm_st hR (hm_st hR ⟨rfl, rfl, hm_le rfl, (hm_ltM (M := 67) hN rfl), ?_⟩))
        show R 4 95 [(0, .ref 2), (1, .int p1), (2, .int p2), (3, .int p3)] [] (N, hm_sh L g, (hm_w1 (hm_w1 (T_185 (T_69 (T_132 (T_111 (T_156 (T_92 (hm_w1 s 2 8 p2) p1))) p1 p3) p1)) 2 9 1) 2 10 0)) _ Q
        refine hm_st hR (hm_st hR (hm_st hR ⟨rfl, rfl, hm_le rfl, (hm_ltM (M := 67) hN rfl), ?_⟩))
        show R 4 100 [(0, .ref 2), (1, .int p1), (2, .int p2), (3, .int p3)] [] (N, hm_sh L g, (hm_w1 (hm_w1 (hm_w1 (T_185 (T_69 (T_132 (T_111 (T_156 (T_92 (hm_w1 s 2 8 p2) p1))) p1 p3) p1)) 2 9 1) 2 10 0) 2 11 0)) _ Q
        refine hm_st hR (hm_st hR (hm_st hR ⟨rfl, rfl, hm_le rfl, (hm_ltM (M := 67) hN rfl), ?_⟩))
        show R 4 105 [(0, .ref 2), (1, .int p1), (2, .int p2), (3, .int p3)] [] (N, hm_sh L g, (hm_w1 (hm_w1 (hm_w1 (hm_w1 (T_185 (T_69 (T_132 (T_111 (T_156 (T_92 (hm_w1 s 2 8 p2) p1))) p1 p3) p1)) 2 9 1) 2 10 0) 2 11 0) 2 12 0)) _ Q
        refine hm_st hR (hm_st hR ⟨rfl, hm_le rfl, (hm_ltM (M := 67) hN rfl), ?_⟩)
        refine hm_st hR ⟨hm_le rfl, rfl, (hm_le rfl), (hm_ltM (M := 67) hN rfl), hm_le rfl, hm_le rfl, (0, 0), Nat.zero_le _, Nat.zero_le _, ?_⟩
        refine fp_87 hR hN ?_
        show R 4 112 [(0, .ref 2), (1, .int p1), (2, .int p2), (3, .int p3)] [.int (T_87 (hm_w1 (hm_w1 (hm_w1 (hm_w1 (T_185 (T_69 (T_132 (T_111 (T_156 (T_92 (hm_w1 s 2 8 p2) p1))) p1 p3) p1)) 2 9 1) 2 10 0) 2 11 0) 2 12 0))] (N, hm_sh L g, (hm_w1 (hm_w1 (hm_w1 (hm_w1 (T_185 (T_69 (T_132 (T_111 (T_156 (T_92 (hm_w1 s 2 8 p2) p1))) p1 p3) p1)) 2 9 1) 2 10 0) 2 11 0) 2 12 0)) _ Q
        exact hm_st hR ⟨fun z => absurd z (by decide), hm_qx0 hq⟩
