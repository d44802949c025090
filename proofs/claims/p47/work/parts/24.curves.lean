/-! Curves' constructor behind its rows. -/
def T_84_73 : Nat → hm_St → Int32 → Int32 → hm_St
  | 0, s, _, _ => s
  | n + 1, s, v1, v2 => (if (Int32.ofNat 16) ≤ v2 then (T_92 s v1) else (T_84_73 n (T_93 s (2 + (v2 / 4)) (v2 - v2 / 4 * 4) (s 0 (v2).toNatClampNeg)) v1 (v2 + 1)))
/-- CurvekeyHouse$Curves.<init>(I)V -/
def T_84 (s : hm_St) (p1 : Int32) : hm_St := (T_84_73 (hm_df (Int32.ofNat 16) 0 + 1) s p1 0)
set_option maxRecDepth 20000 in
theorem clp_84_73 {R : hm_R} (hR : hm_Cm R) {N L : Nat} {hc : hm_Sh} {g : Nat → hm_Sh} {b : hm_B} {Q : hm_Q} (hN : 14 ≤ N) : ∀ (n : Nat) (s : hm_St) (v1 : Int32) (v2 : Int32), hm_df (Int32.ofNat 16) v2 < n → (hinv : 0 ≤ v2) → (hq : Q (.inr none) (N, hm_shh hc L g, (T_84_73 n s v1 v2))) → R 84 73 [(2, .int v2), (0, .ref 3), (1, .int v1)] [] (N, hm_shh hc L g, s) b Q := by
  intro n
  induction n with
  | zero => intro s v1 v2 hm hinv _; exact absurd hm (Nat.not_lt_zero _)
  | succ n ih =>
    intro s v1 v2 hm hinv hq
    unfold T_84_73 at hq
    refine hm_st hR (hm_st hR (hm_st hR ⟨rfl, (hm_ltM (M := 14) hN rfl), ?_⟩))
    show R 84 78 [(2, .int v2), (0, .ref 3), (1, .int v1)] [.int (Int32.ofNat 16), .int v2] (N, hm_shh hc L g, s) _ Q
    refine hm_st hR ⟨fun c78 => ?_, fun c78 => ?_⟩
    · rw [if_pos c78] at hq
      show R 84 104 [(2, .int v2), (0, .ref 3), (1, .int v1)] [] (N, hm_shh hc L g, s) _ Q
      refine hm_st hR (hm_st hR (?_))
      refine hm_st hR ⟨hm_le rfl, rfl, (hm_le rfl), (hm_ltM (M := 14) hN rfl), hm_le rfl, hm_le rfl, (0, 0), Nat.zero_le _, Nat.zero_le _, ?_⟩
      refine cp_92 hR hN ?_
      show R 84 109 [(2, .int v2), (0, .ref 3), (1, .int v1)] [] (N, hm_shh hc L g, (T_92 s v1)) _ Q
      exact hm_st hR (hq)
    · rw [if_neg c78] at hq
      show R 84 81 [(2, .int v2), (0, .ref 3), (1, .int v1)] [] (N, hm_shh hc L g, s) _ Q
      refine hm_st hR (hm_st hR (hm_st hR (hm_st hR (hm_st hR ⟨(by decide), hm_st hR (hm_st hR (hm_st hR (hm_st hR ⟨(by decide), hm_st hR (hm_st hR (hm_st hR ⟨rfl, (hm_ltM (M := 14) hN rfl), (hm_vin (nn := 16) (hm_nl hinv) c78), ?_⟩))⟩)))⟩))))
      refine hm_st hR ⟨hm_le rfl, rfl, (hm_le rfl), (hm_ltM (M := 14) hN rfl), hm_le rfl, hm_le rfl, (0, 0), Nat.zero_le _, Nat.zero_le _, ?_⟩
      refine cp_93 hR hN ?_
      show R 84 98 [(2, .int v2), (0, .ref 3), (1, .int v1)] [] (N, hm_shh hc L g, (T_93 s (2 + (v2 / 4)) (v2 - v2 / 4 * 4) (s 0 (v2).toNatClampNeg))) _ Q
      refine hm_st hR (hm_st hR (?_))
      show R 84 73 [(2, .int (v2 + 1)), (0, .ref 3), (1, .int v1)] [] (N, hm_shh hc L g, (T_93 s (2 + (v2 / 4)) (v2 - v2 / 4 * 4) (s 0 (v2).toNatClampNeg))) _ Q
      exact hm_lvS hR (by intro q hq; simp only [List.mem_cons, List.not_mem_nil, or_false] at hq ⊢; rcases hq with rfl | rfl | rfl <;> simp) (ih (T_93 s (2 + (v2 / 4)) (v2 - v2 / 4 * 4) (s 0 (v2).toNatClampNeg)) v1 (v2 + 1) (hm_dcx c78 hm) (hm_inc0 hinv c78) hq)
set_option maxRecDepth 20000 in
theorem cp_84 {R : hm_R} (hR : hm_Cm R) {N L : Nat} {hc : hm_Sh} {g : Nat → hm_Sh} {s : hm_St} {b : hm_B} {Q : hm_Q} (hN : 14 ≤ N) {p1 : Int32} (hq : Q (.inr none) (N, hm_shh hc L g, (T_84 s p1))) : R 84 71 [(0, .ref 3), (1, .int p1)] [] (N, hm_shh hc L g, s) b Q := by
  unfold T_84 at hq
  show R 84 71 [(0, .ref 3), (1, .int p1)] [] (N, hm_shh hc L g, s) _ Q
  refine hm_st hR (hm_st hR (?_))
  show R 84 73 [(2, .int 0), (0, .ref 3), (1, .int p1)] [] (N, hm_shh hc L g, s) _ Q
  exact clp_84_73 hR hN _ _ _ _ (Nat.lt_succ_self _) (by decide) hq
set_option maxRecDepth 20000 in
theorem ci_84 {R : hm_R} (hR : hm_Ce R) {sh : Nat → hm_Sh} {hc : hm_Sh} {L : Nat} {g : Nat → hm_Sh} {s : hm_St} {b : hm_B} {Q : hm_Q} {p1 : Int32} (hs : ∀ i, i < 3 → sh i = hm_shh hc L g i) (hme : sh 3 = (2, 0, fun _ => none)) (hb1 : 10 ≤ b.1) (hb2 : 12349 ≤ b.2)
    (hq : Q (.inr none) (14, hm_shh hc L g, T_84 (hm_ns (hm_ns (hm_ns (hm_ns (hm_ns s 4) 6) 8) 10) 12) p1)) : R 84 0 (lv_args 0 [.ref 3, .int p1]) [] (4, sh, s) b Q := by
  refine cr_84 hR.1 (by rw [hme]) (hm_le rfl) (Nat.lt_succ_self _) hb1 hb2 ?_
  refine hR.2 _ _ _ _ _ _ (hm_shh hc L g) _ _ _ _ (fun i hi => ⟨ag_84 hs hme i hi, rfl⟩) ?_
  exact cp_84 hR.1 (hm_le rfl) hq
