/-! The law. -/
def im_LW (s : hm_St) (o c cap H V a : Nat) : Prop := (∃ P M, im_TI s o c cap P H V M) ∧ a ≤ V ∧ a ≤ 199 ∧ ∀ v, v ≤ a → s 67 v = nI (fb_ct (im_lv s 0 0 (nI (2 ^ o)) 1 (nI v)) H)
section ImLa
variable {R : hm_R} {r s t : hm_St} {o c cap P H V M N Ln a tu A : Nat} {g : Nat → hm_Sh} {b : hm_B} {Q : hm_Q} {x : Int32}
theorem im_lvc {x0 y0 w h v : Int32} (e : ∀ b j, b < 59 → t b j = s b j) : im_lv t x0 y0 w h v = im_lv s x0 y0 w h v := by
  funext i
  unfold im_lv
  rw [e 31 i (by decide), e 33 i (by decide), e 27 i (by decide), e 29 i (by decide)]
theorem im_LWs (h : im_LW s o c cap H V a) (hS : im_SM s t A) : im_LW t o c cap H V a := by
  obtain ⟨⟨P, M, hT⟩, h1, h2, h3⟩ := h
  refine ⟨⟨P, M, im_SMTI hS hT⟩, h1, h2, fun v hv => ?_⟩
  rw [hS.1 67 v (Or.inr rfl), im_lvc fun b j hb => hS.1 b j (Or.inl hb)]
  exact h3 v hv
theorem im_TI59 (hT : im_TI s o c cap P H V M) (e : ∀ b j, b < 59 → t b j = s b j) : im_TI t o c cap P H V M := by
  refine im_TIc hT (fun b j hb => e b j ?_) (e _ _ (by decide)) (e _ _ (by decide))
  revert hb
  simp only [List.mem_cons, List.not_mem_nil, or_false]
  omega
theorem lw_c (hR : hm_Cm R) (ho1 : 1 ≤ o) (ho : o ≤ 4) (hc : c < 6) (h : im_LW s o c cap H V a) (hN : 68 ≤ N) (hb1 : 2 ≤ b.1) (hb2 : 10 ≤ b.2) (K : ∀ (N : Nat) (g : Nat → hm_Sh) (s : hm_St) (b2 : hm_B), 68 ≤ N → im_LW s o c cap H V a → b.1 ≤ b2.1 + 2 → b.2 ≤ b2.2 + 10 → R 194 65 [(6, .int (nI (tu + 1))), (5, .int (nI a)), (4, .ref 67), (3, .int (nI (2 ^ o))), (2, .int (nI o)), (1, .ref 2), (0, .ref 1)] [] (N, hm_sh Ln g, s) b2 Q) : R 194 168 [(7, .int x), (6, .int (nI tu)), (5, .int (nI a)), (4, .ref 67), (3, .int (nI (2 ^ o))), (2, .int (nI o)), (1, .ref 2), (0, .ref 1)] [] (N, hm_sh Ln g, s) b Q := by
  have ho6 : o < 6 := by omega
  obtain ⟨⟨P, M, hT⟩, h1, h2, h3⟩ := h
  refine hm_st hR (hm_st hR (hm_st hR (hm_st hR (hm_st hR (hm_st hR (?_))))))
  show R 194 176 [(7, .int x), (6, .int (nI tu)), (5, .int (nI a)), (4, .ref 67), (3, .int (nI (2 ^ o))), (2, .int (nI o)), (1, .ref 2), (0, .ref 1)] [.int ((nI a) + 1), .int (x >>> (3 &&& 31))] (N, hm_sh Ln g, s) _ Q
  rw [nI_1]
  refine hm_st hR ⟨hm_le rfl, hm_le rfl, hm_le rfl, (0, 0), Nat.zero_le _, Nat.zero_le _, ?_⟩
  refine lw_192 hR (m := (a + 1)) (⟨by omega, by omega⟩) fun wh hwh => ?_
  show R 194 179 [(7, .int x), (6, .int (nI tu)), (5, .int (nI a)), (4, .ref 67), (3, .int (nI (2 ^ o))), (2, .int (nI o)), (1, .ref 2), (0, .ref 1)] [.int (nI wh)] (N, hm_sh Ln g, s) _ Q
  refine hm_st hR (hm_st hR (hm_st hR (hm_st hR (hm_st hR (hm_st hR (hm_st hR (?_)))))))
  show R 194 188 [(8, .int (nI wh)), (7, .int x), (6, .int (nI tu)), (5, .int (nI a)), (4, .ref 67), (3, .int (nI (2 ^ o))), (2, .int (nI o)), (1, .ref 2), (0, .ref 1)] [.int (nI wh), .int 1, .int (nI (2 ^ o)), .int 0, .int 0, .ref 2] (N, hm_sh Ln g, s) _ Q
  refine hm_st hR ⟨hm_le rfl, rfl, hm_le rfl, hm_ltN hN rfl, hm_le rfl, hm_le rfl, (2, 10), by show 2 ≤ b.1 - 0; omega, by show 10 ≤ b.2 - 0; omega, ?_⟩
  refine sp_13 hR hN (hm_le rfl) (hm_le rfl) ?_
  refine im_AKq (im_a13 (A := 0) hT im_SMr ho6 hN (show wh ≤ V by omega)) fun N2 g2 s2 hN2 hS2 => ?_
  show R 194 191 [(8, .int (nI wh)), (7, .int x), (6, .int (nI tu)), (5, .int (nI a)), (4, .ref 67), (3, .int (nI (2 ^ o))), (2, .int (nI o)), (1, .ref 2), (0, .ref 1)] [.int (nI (fb_ct (im_lv s 0 0 (nI (2 ^ o)) 1 (nI wh)) H))] (N2, hm_sh Ln g2, s2) _ Q
  refine hm_st hR (hm_st hR (?_))
  show R 194 195 [(8, .int (nI wh)), (7, .int x), (6, .int (nI tu)), (5, .int (nI a)), (4, .ref 67), (3, .int (nI (2 ^ o))), (2, .int (nI o)), (1, .ref 2), (0, .ref 1)] [.int (nI wh), .ref 67, .int (nI (fb_ct (im_lv s 0 0 (nI (2 ^ o)) 1 (nI wh)) H))] (N2, hm_sh Ln g2, s2) _ Q
  refine hm_ald hR (aa := 67) (nn := 200) rfl rfl (by omega) (by rfl) (hm_vin (nI_pos (by omega)) (nI_ge (b := 200) (by omega) (by decide))) ?_
  show R 194 196 [(8, .int (nI wh)), (7, .int x), (6, .int (nI tu)), (5, .int (nI a)), (4, .ref 67), (3, .int (nI (2 ^ o))), (2, .int (nI o)), (1, .ref 2), (0, .ref 1)] [.int (s2 67 (nI wh).toNatClampNeg), .int (nI (fb_ct (im_lv s 0 0 (nI (2 ^ o)) 1 (nI wh)) H))] (N2, hm_sh Ln g2, s2) _ Q
  rw [nI_clamp (show wh < 2 ^ 31 by omega), hS2.1 67 wh (Or.inr rfl), h3 wh (by omega)]
  refine hm_st hR ⟨fun _ => ?_, fun cc => absurd (rfl) cc⟩
  show R 194 201 [(8, .int (nI wh)), (7, .int x), (6, .int (nI tu)), (5, .int (nI a)), (4, .ref 67), (3, .int (nI (2 ^ o))), (2, .int (nI o)), (1, .ref 2), (0, .ref 1)] [] (N2, hm_sh Ln g2, s2) _ Q
  refine hm_st hR (hm_st hR (?_))
  show R 194 65 [(6, .int ((nI tu) + 1)), (8, .int (nI wh)), (7, .int x), (5, .int (nI a)), (4, .ref 67), (3, .int (nI (2 ^ o))), (2, .int (nI o)), (1, .ref 2), (0, .ref 1)] [] (N2, hm_sh Ln g2, s2) _ Q
  rw [nI_1]
  refine hm_lvS hR (lv' := [(6, .int (nI (tu + 1))), (5, .int (nI a)), (4, .ref 67), (3, .int (nI (2 ^ o))), (2, .int (nI o)), (1, .ref 2), (0, .ref 1)]) (by intro q hq; simp only [List.mem_cons, List.not_mem_nil, or_false] at hq ⊢; rcases hq with rfl | rfl | rfl | rfl | rfl | rfl | rfl <;> simp) ?_
  exact K N2 g2 s2 _ hN2 (im_LWs ⟨⟨P, M, hT⟩, h1, h2, h3⟩ hS2) (by show b.1 ≤ b.1 - 0 - 2 + 2; omega) (by show b.2 ≤ b.2 - 0 - 10 + 10; omega)
theorem lw_b (hR : hm_Cm R) (ho1 : 1 ≤ o) (ho : o ≤ 4) (hc : c < 6) (h : im_LW s o c cap H V a) (hN : 68 ≤ N) (htu : tu < 60) (hb1 : 2502 ≤ b.1) (hb2 : 16010 ≤ b.2) (K : ∀ (N : Nat) (g : Nat → hm_Sh) (s : hm_St) (b2 : hm_B), 68 ≤ N → im_LW s o c cap H V a → b.1 ≤ b2.1 + 2502 → b.2 ≤ b2.2 + 16010 → R 194 65 [(6, .int (nI (tu + 1))), (5, .int (nI a)), (4, .ref 67), (3, .int (nI (2 ^ o))), (2, .int (nI o)), (1, .ref 2), (0, .ref 1)] [] (N, hm_sh Ln g, s) b2 Q) : R 194 145 [(7, .int x), (6, .int (nI tu)), (5, .int (nI a)), (4, .ref 67), (3, .int (nI (2 ^ o))), (2, .int (nI o)), (1, .ref 2), (0, .ref 1)] [] (N, hm_sh Ln g, s) b Q := by
  have ho6 : o < 6 := by omega
  refine hm_st hR (hm_st hR (?_))
  show R 194 149 [(7, .int x), (6, .int (nI tu)), (5, .int (nI a)), (4, .ref 67), (3, .int (nI (2 ^ o))), (2, .int (nI o)), (1, .ref 2), (0, .ref 1)] [.int (nI 7), .int (nI tu)] (N, hm_sh Ln g, s) _ Q
  refine hm_st hR ⟨by decide, ?_⟩
  show R 194 150 [(7, .int x), (6, .int (nI tu)), (5, .int (nI a)), (4, .ref 67), (3, .int (nI (2 ^ o))), (2, .int (nI o)), (1, .ref 2), (0, .ref 1)] [.int (nI tu - nI tu / nI 7 * nI 7)] (N, hm_sh Ln g, s) _ Q
  rw [show nI tu - nI tu / nI 7 * nI 7 = nI (tu % 7) from pk_rem (by omega) (by omega) (by omega)]
  refine hm_st hR (?_)
  show R 194 152 [(7, .int x), (6, .int (nI tu)), (5, .int (nI a)), (4, .ref 67), (3, .int (nI (2 ^ o))), (2, .int (nI o)), (1, .ref 2), (0, .ref 1)] [.int (nI 6), .int (nI (tu % 7))] (N, hm_sh Ln g, s) _ Q
  by_cases z : tu % 7 = 6
  · rw [z]
    refine hm_st hR ⟨fun cc => absurd cc (fun z => z rfl), fun _ => ?_⟩
    show R 194 155 [(7, .int x), (6, .int (nI tu)), (5, .int (nI a)), (4, .ref 67), (3, .int (nI (2 ^ o))), (2, .int (nI o)), (1, .ref 2), (0, .ref 1)] [] (N, hm_sh Ln g, s) _ Q
    refine hm_st hR (hm_st hR (hm_st hR (hm_st hR (?_))))
    show R 194 160 [(7, .int x), (6, .int (nI tu)), (5, .int (nI a)), (4, .ref 67), (3, .int (nI (2 ^ o))), (2, .int (nI o)), (1, .ref 2), (0, .ref 1)] [.int (nI (2 ^ o)), .int (nI o), .int x, .ref 2] (N, hm_sh Ln g, s) _ Q
    obtain ⟨⟨P, M, hT⟩, h1, h2, h3⟩ := h
    refine hm_st hR ⟨hm_le rfl, hm_le rfl, hm_le rfl, (2500, 16000), by show 2500 ≤ b.1; omega, by show 16000 ≤ b.2; omega, ?_⟩
    refine aw_all hR hT im_SMr ho1 ho hc hN (Nat.le_refl _) (Nat.le_refl _) fun N2 g2 s2 hN2 hS2 => ?_
    show R 194 163 [(7, .int x), (6, .int (nI tu)), (5, .int (nI a)), (4, .ref 67), (3, .int (nI (2 ^ o))), (2, .int (nI o)), (1, .ref 2), (0, .ref 1)] [.int 1] (N2, hm_sh Ln g2, s2) _ Q
    refine hm_st hR ⟨fun _ => ?_, fun cc => absurd cc (by decide)⟩
    show R 194 168 [(7, .int x), (6, .int (nI tu)), (5, .int (nI a)), (4, .ref 67), (3, .int (nI (2 ^ o))), (2, .int (nI o)), (1, .ref 2), (0, .ref 1)] [] (N2, hm_sh Ln g2, s2) _ Q
    refine lw_c hR ho1 ho hc (im_LWs ⟨⟨P, M, hT⟩, h1, h2, h3⟩ hS2) hN2 (by show 2 ≤ b.1 - 2500; omega) (by show 10 ≤ b.2 - 16000; omega) fun N g s b2 h4 h5 h6 h7 => K N g s b2 h4 h5 ?_ ?_
    · have h8 : b.1 - 2500 ≤ b2.1 + 2 := h6
      omega
    · have h8 : b.2 - 16000 ≤ b2.2 + 10 := h7
      omega
  · refine hm_st hR ⟨fun _ => ?_, fun cc => absurd cc (fun y => z ((nI_eq (by omega) (by omega)).mp y))⟩
    show R 194 168 [(7, .int x), (6, .int (nI tu)), (5, .int (nI a)), (4, .ref 67), (3, .int (nI (2 ^ o))), (2, .int (nI o)), (1, .ref 2), (0, .ref 1)] [] (N, hm_sh Ln g, s) _ Q
    exact lw_c hR ho1 ho hc h hN (by omega) (by omega) fun N g s b2 h4 h5 h6 h7 => K N g s b2 h4 h5 (by omega) (by omega)
theorem lw_w (hR : hm_Cm R) (ho1 : 1 ≤ o) (ho : o ≤ 4) (hc : c < 6) : ∀ (n a : Nat) (N : Nat) (g : Nat → hm_Sh) (s : hm_St) (b : hm_B), a + n = 199 → im_LW s o c cap H V a → 68 ≤ N → 3 * n + 1 ≤ b.1 → 16 * n + 6 ≤ b.2 → (∀ (a2 : Nat) (N : Nat) (g : Nat → hm_Sh) (s : hm_St) (b2 : hm_B), 68 ≤ N → im_LW s o c cap H V a2 → b.1 ≤ b2.1 + (3 * n + 1) → b.2 ≤ b2.2 + (16 * n + 6) → R 194 145 [(7, .int x), (6, .int (nI tu)), (5, .int (nI a2)), (4, .ref 67), (3, .int (nI (2 ^ o))), (2, .int (nI o)), (1, .ref 2), (0, .ref 1)] [] (N, hm_sh Ln g, s) b2 Q) → R 194 105 [(7, .int x), (6, .int (nI tu)), (5, .int (nI a)), (4, .ref 67), (3, .int (nI (2 ^ o))), (2, .int (nI o)), (1, .ref 2), (0, .ref 1)] [] (N, hm_sh Ln g, s) b Q := by
  have ho6 : o < 6 := by omega
  intro n
  induction n with
  | zero =>
    intro a N g s b ha h hN hb1 hb2 K
    have hV : V < 1000000 := by
      obtain ⟨⟨P, M, hT⟩, _⟩ := h
      exact hT.1.2.2.2.2.2.2.1.2.2.2.1
    obtain ⟨⟨P, M, hT⟩, h1, h2, h3⟩ := h
    refine hm_st hR (hm_st hR (hm_st hR (?_)))
    show R 194 110 [(7, .int x), (6, .int (nI tu)), (5, .int (nI a)), (4, .ref 67), (3, .int (nI (2 ^ o))), (2, .int (nI o)), (1, .ref 2), (0, .ref 1)] [.int 7, .ref 2, .int (nI a)] (N, hm_sh Ln g, s) _ Q
    refine hm_st hR ⟨hm_le rfl, rfl, hm_le rfl, hm_ltN hN rfl, hm_le rfl, hm_le rfl, (1, 6), by show 1 ≤ b.1; omega, by show 6 ≤ b.2; omega, ?_⟩
    refine sp_11 hR hN (by show 1 ≤ 1; omega) (by show 6 ≤ 6; omega) ?_
    refine im_AKq (im_a11 (A := 0) hT im_SMr hN).2.2.1 fun N2 g2 s2 hN2 hS2 => ?_
    show R 194 113 [(7, .int x), (6, .int (nI tu)), (5, .int (nI a)), (4, .ref 67), (3, .int (nI (2 ^ o))), (2, .int (nI o)), (1, .ref 2), (0, .ref 1)] [.int (nI V), .int (nI a)] (N2, hm_sh Ln g2, s2) _ Q
    have hW2 : im_LW s2 o c cap H V a := im_LWs ⟨⟨P, M, hT⟩, h1, h2, h3⟩ hS2
    refine hm_st hR ⟨fun _ => ?_, fun _ => ?_⟩
    · show R 194 145 [(7, .int x), (6, .int (nI tu)), (5, .int (nI a)), (4, .ref 67), (3, .int (nI (2 ^ o))), (2, .int (nI o)), (1, .ref 2), (0, .ref 1)] [] (N2, hm_sh Ln g2, s2) _ Q
      exact K a N2 g2 s2 _ hN2 hW2 (by show b.1 ≤ b.1 - 1 + (3 * 0 + 1); omega) (by show b.2 ≤ b.2 - 6 + (16 * 0 + 6); omega)
    · show R 194 116 [(7, .int x), (6, .int (nI tu)), (5, .int (nI a)), (4, .ref 67), (3, .int (nI (2 ^ o))), (2, .int (nI o)), (1, .ref 2), (0, .ref 1)] [] (N2, hm_sh Ln g2, s2) _ Q
      refine hm_st hR (hm_st hR (?_))
      show R 194 121 [(7, .int x), (6, .int (nI tu)), (5, .int (nI a)), (4, .ref 67), (3, .int (nI (2 ^ o))), (2, .int (nI o)), (1, .ref 2), (0, .ref 1)] [.int (nI 199), .int (nI a)] (N2, hm_sh Ln g2, s2) _ Q
      refine hm_st hR ⟨fun _ => ?_, fun cc => absurd (nI_le (by omega) (by omega)) cc⟩
      show R 194 145 [(7, .int x), (6, .int (nI tu)), (5, .int (nI a)), (4, .ref 67), (3, .int (nI (2 ^ o))), (2, .int (nI o)), (1, .ref 2), (0, .ref 1)] [] (N2, hm_sh Ln g2, s2) _ Q
      exact K a N2 g2 s2 _ hN2 hW2 (by show b.1 ≤ b.1 - 1 + (3 * 0 + 1); omega) (by show b.2 ≤ b.2 - 6 + (16 * 0 + 6); omega)
  | succ n ih =>
    intro a N g s b ha h hN hb1 hb2 K
    have hV : V < 1000000 := by
      obtain ⟨⟨P, M, hT⟩, _⟩ := h
      exact hT.1.2.2.2.2.2.2.1.2.2.2.1
    obtain ⟨⟨P, M, hT⟩, h1, h2, h3⟩ := h
    refine hm_st hR (hm_st hR (hm_st hR (?_)))
    show R 194 110 [(7, .int x), (6, .int (nI tu)), (5, .int (nI a)), (4, .ref 67), (3, .int (nI (2 ^ o))), (2, .int (nI o)), (1, .ref 2), (0, .ref 1)] [.int 7, .ref 2, .int (nI a)] (N, hm_sh Ln g, s) _ Q
    refine hm_st hR ⟨hm_le rfl, rfl, hm_le rfl, hm_ltN hN rfl, hm_le rfl, hm_le rfl, (1, 6), by show 1 ≤ b.1; omega, by show 6 ≤ b.2; omega, ?_⟩
    refine sp_11 hR hN (by show 1 ≤ 1; omega) (by show 6 ≤ 6; omega) ?_
    refine im_AKq (im_a11 (A := 0) hT im_SMr hN).2.2.1 fun N2 g2 s2 hN2 hS2 => ?_
    show R 194 113 [(7, .int x), (6, .int (nI tu)), (5, .int (nI a)), (4, .ref 67), (3, .int (nI (2 ^ o))), (2, .int (nI o)), (1, .ref 2), (0, .ref 1)] [.int (nI V), .int (nI a)] (N2, hm_sh Ln g2, s2) _ Q
    have hW2 : im_LW s2 o c cap H V a := im_LWs ⟨⟨P, M, hT⟩, h1, h2, h3⟩ hS2
    refine hm_st hR ⟨fun _ => ?_, fun cV => ?_⟩
    · show R 194 145 [(7, .int x), (6, .int (nI tu)), (5, .int (nI a)), (4, .ref 67), (3, .int (nI (2 ^ o))), (2, .int (nI o)), (1, .ref 2), (0, .ref 1)] [] (N2, hm_sh Ln g2, s2) _ Q
      exact K a N2 g2 s2 _ hN2 hW2 (by show b.1 ≤ b.1 - 1 + (3 * (n + 1) + 1); omega) (by show b.2 ≤ b.2 - 6 + (16 * (n + 1) + 6); omega)
    · have haV : a < V := by
        rcases Nat.lt_or_ge a V with y | y
        · exact y
        · exact absurd (nI_le y (by omega)) cV
      show R 194 116 [(7, .int x), (6, .int (nI tu)), (5, .int (nI a)), (4, .ref 67), (3, .int (nI (2 ^ o))), (2, .int (nI o)), (1, .ref 2), (0, .ref 1)] [] (N2, hm_sh Ln g2, s2) _ Q
      refine hm_st hR (hm_st hR (?_))
      show R 194 121 [(7, .int x), (6, .int (nI tu)), (5, .int (nI a)), (4, .ref 67), (3, .int (nI (2 ^ o))), (2, .int (nI o)), (1, .ref 2), (0, .ref 1)] [.int (nI 199), .int (nI a)] (N2, hm_sh Ln g2, s2) _ Q
      refine hm_st hR ⟨fun cc => absurd cc (nI_ge (by omega) (by omega)), fun _ => ?_⟩
      show R 194 124 [(7, .int x), (6, .int (nI tu)), (5, .int (nI a)), (4, .ref 67), (3, .int (nI (2 ^ o))), (2, .int (nI o)), (1, .ref 2), (0, .ref 1)] [] (N2, hm_sh Ln g2, s2) _ Q
      refine hm_st hR (?_)
      show R 194 127 [(5, .int ((nI a) + 1)), (7, .int x), (6, .int (nI tu)), (4, .ref 67), (3, .int (nI (2 ^ o))), (2, .int (nI o)), (1, .ref 2), (0, .ref 1)] [] (N2, hm_sh Ln g2, s2) _ Q
      rw [nI_1]
      show R 194 127 [(5, .int (nI (a + 1))), (7, .int x), (6, .int (nI tu)), (4, .ref 67), (3, .int (nI (2 ^ o))), (2, .int (nI o)), (1, .ref 2), (0, .ref 1)] [] (N2, hm_sh Ln g2, s2) _ Q
      refine hm_st hR (hm_st hR (hm_st hR (hm_st hR (hm_st hR (hm_st hR (hm_st hR (hm_st hR (?_))))))))
      show R 194 138 [(5, .int (nI (a + 1))), (7, .int x), (6, .int (nI tu)), (4, .ref 67), (3, .int (nI (2 ^ o))), (2, .int (nI o)), (1, .ref 2), (0, .ref 1)] [.int (nI (a + 1)), .int 1, .int (nI (2 ^ o)), .int 0, .int 0, .ref 2, .int (nI (a + 1)), .ref 67] (N2, hm_sh Ln g2, s2) _ Q
      obtain ⟨⟨P2, M2, hT2⟩, k1, k2, k3⟩ := hW2
      refine hm_st hR ⟨hm_le rfl, rfl, hm_le rfl, hm_ltN hN2 rfl, hm_le rfl, hm_le rfl, (2, 10), by show 2 ≤ b.1 - 1; omega, by show 10 ≤ b.2 - 6; omega, ?_⟩
      refine sp_13 hR hN2 (hm_le rfl) (hm_le rfl) ?_
      refine im_AKq (im_a13 (A := 0) hT2 im_SMr ho6 hN2 (show a + 1 ≤ V by omega)) fun N3 g3 s3 hN3 hS3 => ?_
      show R 194 141 [(5, .int (nI (a + 1))), (7, .int x), (6, .int (nI tu)), (4, .ref 67), (3, .int (nI (2 ^ o))), (2, .int (nI o)), (1, .ref 2), (0, .ref 1)] [.int (nI (fb_ct (im_lv s2 0 0 (nI (2 ^ o)) 1 (nI (a + 1))) H)), .int (nI (a + 1)), .ref 67] (N3, hm_sh Ln g3, s3) _ Q
      refine hm_ast hR (aa := 67) (nn := 200) rfl rfl (by decide) (by omega) (by rfl) (hm_vin (nI_pos (by omega)) (nI_ge (b := 200) (by omega) (by decide))) ?_
      show R 194 142 [(5, .int (nI (a + 1))), (7, .int x), (6, .int (nI tu)), (4, .ref 67), (3, .int (nI (2 ^ o))), (2, .int (nI o)), (1, .ref 2), (0, .ref 1)] [] (N3, hm_sh Ln g3, hm_w1 s3 67 (nI (a + 1)).toNatClampNeg (nI (fb_ct (im_lv s2 0 0 (nI (2 ^ o)) 1 (nI (a + 1))) H))) _ Q
      rw [nI_clamp (show a + 1 < 2 ^ 31 by omega)]
      refine hm_st hR (?_)
      show R 194 105 [(5, .int (nI (a + 1))), (7, .int x), (6, .int (nI tu)), (4, .ref 67), (3, .int (nI (2 ^ o))), (2, .int (nI o)), (1, .ref 2), (0, .ref 1)] [] (N3, hm_sh Ln g3, hm_w1 s3 67 (a + 1) (nI (fb_ct (im_lv s2 0 0 (nI (2 ^ o)) 1 (nI (a + 1))) H))) _ Q
      have e59 : ∀ b j, b < 59 → hm_w1 s3 67 (a + 1) (nI (fb_ct (im_lv s2 0 0 (nI (2 ^ o)) 1 (nI (a + 1))) H)) b j = s2 b j := fun b j hb => by
        rw [hm_w1n (by omega)]
        exact hS3.1 b j (Or.inl hb)
      have hW4 : im_LW (hm_w1 s3 67 (a + 1) (nI (fb_ct (im_lv s2 0 0 (nI (2 ^ o)) 1 (nI (a + 1))) H))) o c cap H V (a + 1) := by
        refine ⟨⟨P2, M2, im_TI59 hT2 e59⟩, by omega, by omega, fun v hv => ?_⟩
        rw [im_lvc e59, im_wif]
        by_cases y : v = a + 1
        · rw [if_pos y, y]
        · rw [if_neg y, hS3.1 67 v (Or.inr rfl)]
          exact k3 v (by omega)
      refine hm_lvS hR (lv' := [(7, .int x), (6, .int (nI tu)), (5, .int (nI (a + 1))), (4, .ref 67), (3, .int (nI (2 ^ o))), (2, .int (nI o)), (1, .ref 2), (0, .ref 1)]) (by intro q hq; simp only [List.mem_cons, List.not_mem_nil, or_false] at hq ⊢; rcases hq with rfl | rfl | rfl | rfl | rfl | rfl | rfl | rfl <;> simp) ?_
      refine ih (a + 1) N3 g3 _ _ (by omega) hW4 hN3 (by show 3 * n + 1 ≤ b.1 - 1 - 2; omega) (by show 16 * n + 6 ≤ b.2 - 6 - 10; omega) fun a2 N g s b2 h4 h5 h6 h7 => K a2 N g s b2 h4 h5 ?_ ?_
      · have h8 : b.1 - 1 - 2 ≤ b2.1 + (3 * n + 1) := h6
        omega
      · have h8 : b.2 - 6 - 10 ≤ b2.2 + (16 * n + 6) := h7
        omega
theorem lw_l (hR : hm_Cm R) (ho1 : 1 ≤ o) (ho : o ≤ 4) (hc : c < 6) (hL : Ln < 2 ^ 31) (hQ : ∀ (N : Nat) (g : Nat → hm_Sh) (s : hm_St), Q (.inr (some (.int 1))) (N, hm_sh Ln g, s)) : ∀ (n tu a H V : Nat) (N : Nat) (g : Nat → hm_Sh) (s : hm_St) (b : hm_B), tu + n = 60 → im_LW s o c cap H V a → H ≤ 560 + 3 * tu → V ≤ 200 * tu → 68 ≤ N → 3200 * n ≤ b.1 → 20000 * n ≤ b.2 → R 194 65 [(6, .int (nI tu)), (5, .int (nI a)), (4, .ref 67), (3, .int (nI (2 ^ o))), (2, .int (nI o)), (1, .ref 2), (0, .ref 1)] [] (N, hm_sh Ln g, s) b Q := by
  have ho6 : o < 6 := by omega
  intro n
  induction n with
  | zero =>
    intro tu a H V N g s b ht h hH hV hN hb1 hb2
    have e : tu = 60 := by omega
    subst e
    refine hm_st hR (hm_st hR (?_))
    show R 194 69 [(6, .int (nI 60)), (5, .int (nI a)), (4, .ref 67), (3, .int (nI (2 ^ o))), (2, .int (nI o)), (1, .ref 2), (0, .ref 1)] [.int (nI 60), .int (nI 60)] (N, hm_sh Ln g, s) _ Q
    refine hm_st hR ⟨fun _ => ?_, fun cc => absurd (Int32.le_refl _) cc⟩
    show R 194 207 [(6, .int (nI 60)), (5, .int (nI a)), (4, .ref 67), (3, .int (nI (2 ^ o))), (2, .int (nI o)), (1, .ref 2), (0, .ref 1)] [] (N, hm_sh Ln g, s) _ Q
    refine hm_st hR (?_)
    show R 194 208 [(6, .int (nI 60)), (5, .int (nI a)), (4, .ref 67), (3, .int (nI (2 ^ o))), (2, .int (nI o)), (1, .ref 2), (0, .ref 1)] [.int 1] (N, hm_sh Ln g, s) _ Q
    exact hm_st hR ⟨fun _ => Or.inr rfl, hQ N g s⟩
  | succ n ih =>
    intro tu a H V N g s b ht h hH hV hN hb1 hb2
    refine hm_st hR (hm_st hR (?_))
    show R 194 69 [(6, .int (nI tu)), (5, .int (nI a)), (4, .ref 67), (3, .int (nI (2 ^ o))), (2, .int (nI o)), (1, .ref 2), (0, .ref 1)] [.int (nI 60), .int (nI tu)] (N, hm_sh Ln g, s) _ Q
    refine hm_st hR ⟨fun cc => absurd cc (nI_ge (by omega) (by omega)), fun _ => ?_⟩
    show R 194 72 [(6, .int (nI tu)), (5, .int (nI a)), (4, .ref 67), (3, .int (nI (2 ^ o))), (2, .int (nI o)), (1, .ref 2), (0, .ref 1)] [] (N, hm_sh Ln g, s) _ Q
    refine hm_st hR (hm_st hR (hm_st hR (?_)))
    show R 194 77 [(6, .int (nI tu)), (5, .int (nI a)), (4, .ref 67), (3, .int (nI (2 ^ o))), (2, .int (nI o)), (1, .ref 2), (0, .ref 1)] [.int (nI 16), .int (nI tu), .ref 1] (N, hm_sh Ln g, s) _ Q
    refine hm_st hR ⟨by decide, ?_⟩
    show R 194 78 [(6, .int (nI tu)), (5, .int (nI a)), (4, .ref 67), (3, .int (nI (2 ^ o))), (2, .int (nI o)), (1, .ref 2), (0, .ref 1)] [.int (nI tu - nI tu / nI 16 * nI 16), .ref 1] (N, hm_sh Ln g, s) _ Q
    rw [show nI tu - nI tu / nI 16 * nI 16 = nI (tu % 16) from pk_rem (by omega) (by omega) (by omega)]
    refine hm_st hR ⟨hm_le rfl, hm_le rfl, hm_le rfl, (0, 0), Nat.zero_le _, Nat.zero_le _, ?_⟩
    refine lw_193 hR (by omega) hL (by omega) fun x0 => ?_
    show R 194 81 [(6, .int (nI tu)), (5, .int (nI a)), (4, .ref 67), (3, .int (nI (2 ^ o))), (2, .int (nI o)), (1, .ref 2), (0, .ref 1)] [.int x0] (N, hm_sh Ln g, s) _ Q
    refine hm_st hR (hm_st hR (hm_st hR (hm_st hR (?_))))
    show R 194 87 [(6, .int (nI tu)), (5, .int (nI a)), (4, .ref 67), (3, .int (nI (2 ^ o))), (2, .int (nI o)), (1, .ref 2), (0, .ref 1)] [.int (x0 + (67 * (nI tu)))] (N, hm_sh Ln g, s) _ Q
    generalize (x0 + (67 * (nI tu))) = x
    refine hm_st hR (hm_st hR (hm_st hR (hm_st hR (hm_st hR (hm_st hR (hm_st hR (?_)))))))
    show R 194 98 [(7, .int x), (6, .int (nI tu)), (5, .int (nI a)), (4, .ref 67), (3, .int (nI (2 ^ o))), (2, .int (nI o)), (1, .ref 2), (0, .ref 1)] [.int (nI 10), .int x, .int (x >>> (2 &&& 31)), .ref 2] (N, hm_sh Ln g, s) _ Q
    refine hm_st hR ⟨hm_le rfl, hm_le rfl, hm_le rfl, (0, 0), Nat.zero_le _, Nat.zero_le _, ?_⟩
    refine lw_192 hR (m := 10) (by omega) fun wt hwt => ?_
    show R 194 101 [(7, .int x), (6, .int (nI tu)), (5, .int (nI a)), (4, .ref 67), (3, .int (nI (2 ^ o))), (2, .int (nI o)), (1, .ref 2), (0, .ref 1)] [.int (nI wt), .int (x >>> (2 &&& 31)), .ref 2] (N, hm_sh Ln g, s) _ Q
    refine hm_st hR (?_)
    show R 194 102 [(7, .int x), (6, .int (nI tu)), (5, .int (nI a)), (4, .ref 67), (3, .int (nI (2 ^ o))), (2, .int (nI o)), (1, .ref 2), (0, .ref 1)] [.int (nI (2 ^ o)), .int (nI wt), .int (x >>> (2 &&& 31)), .ref 2] (N, hm_sh Ln g, s) _ Q
    obtain ⟨⟨P, M, hT⟩, h1, h2, h3⟩ := h
    refine hm_st hR ⟨hm_le rfl, hm_le rfl, hm_le rfl, (10, 60), by show 10 ≤ b.1 - 0 - 0; omega, by show 60 ≤ b.2 - 0 - 0; omega, ?_⟩
    refine aw_act hR hT ho1 ho hc (by omega) (by omega) hN (Nat.le_refl _) (Nat.le_refl _) hwt fun N g t hN hA => ?_
    show R 194 105 [(7, .int x), (6, .int (nI tu)), (5, .int (nI a)), (4, .ref 67), (3, .int (nI (2 ^ o))), (2, .int (nI o)), (1, .ref 2), (0, .ref 1)] [] (N, hm_sh Ln g, t) _ Q
    obtain ⟨P2, H2, V2, M2, hT2, k1, k2, k3, k4, k5⟩ := hA
    have hI := hT.1.2.2.2.2.2.2.1
    have hI2 := hT2.1.2.2.2.2.2.2.1
    have hW : im_LW t o c cap H2 V2 a := ⟨⟨P2, M2, hT2⟩, by omega, h2, fun v hv => by
      rw [k5 v, h3 v hv]
      exact congrArg nI (k4 0 0 (nI (2 ^ o)) 1 v H H2 (by omega) hI.1 hI.2.2.1 hI2.1 hI2.2.2.1)⟩
    refine lw_w hR ho1 ho hc (199 - a) a N g t _ (by omega) hW hN (by show 3 * (199 - a) + 1 ≤ b.1 - 0 - 0 - 10; omega) (by show 16 * (199 - a) + 6 ≤ b.2 - 0 - 0 - 60; omega) fun a2 N g s2 b2 hN hW2 q1 q2 => ?_
    have q3 : b.1 - 0 - 0 - 10 ≤ b2.1 + (3 * (199 - a) + 1) := q1
    have q4 : b.2 - 0 - 0 - 60 ≤ b2.2 + (16 * (199 - a) + 6) := q2
    refine lw_b hR ho1 ho hc hW2 hN (by omega) (by omega) (by omega) fun N g s3 b3 hN hW3 q5 q6 => ?_
    exact ih (tu + 1) a2 H2 V2 N g s3 b3 (by omega) hW3 (by omega) (by omega) hN (by omega) (by omega)
end ImLa
