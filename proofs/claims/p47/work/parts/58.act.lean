/-! The law's asking, whole; the law's act. -/
section ImL3
variable {R : hm_R} {r s : hm_St} {o c cap P H V M N Ln : Nat} {g : Nat → hm_Sh} {b : hm_B} {Q : hm_Q}
theorem aw_all (hR : hm_Cm R) (hT : im_TI r o c cap P H V M) (hS : im_SM r s (fb_ct (im_al r) 80)) (ho1 : 1 ≤ o) (ho : o ≤ 4) (hc : c < 6) (hN : 68 ≤ N) (hb1 : 2500 ≤ b.1) (hb2 : 16000 ≤ b.2) {x : Int32}
    (hQ : ∀ (N : Nat) (g : Nat → hm_Sh) (s : hm_St), 68 ≤ N → im_SM r s (fb_ct (im_al r) 80) → Q (.inr (some (.int 1))) (N, hm_sh Ln g, s)) : R 196 0 (lv_args 0 [.ref 2, .int x, .int (nI o), .int (nI (2 ^ o))]) [] (N, hm_sh Ln g, s) b Q := by
  have ho6 : o < 6 := by omega
  have hl8 := fb_ct_le (im_al r) 80
  have hM := hT.2.2.2.2
  obtain ⟨Z, fl, hF, hC⟩ := hT.1.2.2.1
  show R 196 0 [(0, .ref 2), (1, .int x), (2, .int (nI o)), (3, .int (nI (2 ^ o)))] [] (N, hm_sh Ln g, s) _ Q
  refine aw_a hR hT hS ho1 ho hc hN (by omega) (by omega) fun kv N g s b1 hN hS a1 a2 => ?_
  refine aw_b hR hT hS ho1 ho hc hN (Nat.zero_le _) (Nat.zero_le _) fun u v w h m b2 hu hv hw hw2 hh hh2 hm1 hm5 a3 a4 => ?_
  refine aw_c hR hT hS ho1 ho hc hN (by omega) (by omega) hu hv hw hw2 hh hh2 hm1 hm5 fun N g s b3 hN hS a5 a6 => ?_
  show R 196 267 [(12, .int (nI m)), (11, .int (nI h)), (10, .int (nI w)), (9, .int (nI v)), (8, .int (nI u)), (7, .int kv), (6, .int (nI c)), (4, .long (im_dg r 68 o cap)), (0, .ref 2), (1, .int x), (2, .int (nI o)), (3, .int (nI (2 ^ o)))] [] (N, hm_sh Ln g, s) _ Q
  refine hm_st hR (hm_st hR (?_))
  show R 196 269 [(12, .int (nI m)), (11, .int (nI h)), (10, .int (nI w)), (9, .int (nI v)), (8, .int (nI u)), (7, .int kv), (6, .int (nI c)), (4, .long (im_dg r 68 o cap)), (0, .ref 2), (1, .int x), (2, .int (nI o)), (3, .int (nI (2 ^ o)))] [.int 4, .ref 2] (N, hm_sh Ln g, s) _ Q
  refine hm_st hR ⟨hm_le rfl, rfl, hm_le rfl, hm_ltN hN rfl, hm_le rfl, hm_le rfl, (1, 6), by show 1 ≤ b3.1; omega, by show 6 ≤ b3.2; omega, ?_⟩
  refine sp_11 hR hN (hm_le rfl) (hm_le rfl) ?_
  refine im_AKq (im_a11 hT hS hN).2.1 fun N g s hN hS => ?_
  show R 196 272 [(12, .int (nI m)), (11, .int (nI h)), (10, .int (nI w)), (9, .int (nI v)), (8, .int (nI u)), (7, .int kv), (6, .int (nI c)), (4, .long (im_dg r 68 o cap)), (0, .ref 2), (1, .int x), (2, .int (nI o)), (3, .int (nI (2 ^ o)))] [.int (nI (fb_ct (im_al r) 80))] (N, hm_sh Ln g, s) _ Q
  refine hm_st hR (hm_st hR (hm_st hR (?_)))
  show R 196 277 [(14, .int 0), (13, .int (nI (fb_ct (im_al r) 80))), (12, .int (nI m)), (11, .int (nI h)), (10, .int (nI w)), (9, .int (nI v)), (8, .int (nI u)), (7, .int kv), (6, .int (nI c)), (4, .long (im_dg r 68 o cap)), (0, .ref 2), (1, .int x), (2, .int (nI o)), (3, .int (nI (2 ^ o)))] [] (N, hm_sh Ln g, s) _ Q
  refine aw_e hR hT ho1 ho hc (o + 1) 0 N g s _ (by omega) hN hS (by show 256 * (o + 1) ≤ b3.1 - 1; omega) (by show 1536 * (o + 1) ≤ b3.2 - 6; omega) fun N g s b4 hN hS a7 a8 => ?_
  have a9 : b3.1 - 1 ≤ b4.1 + 256 * (o + 1) := a7
  have a10 : b3.2 - 6 ≤ b4.2 + 1536 * (o + 1) := a8
  show R 196 334 [(14, .int (nI (o + 1))), (13, .int (nI (fb_ct (im_al r) 80))), (12, .int (nI m)), (11, .int (nI h)), (10, .int (nI w)), (9, .int (nI v)), (8, .int (nI u)), (7, .int kv), (6, .int (nI c)), (4, .long (im_dg r 68 o cap)), (0, .ref 2), (1, .int x), (2, .int (nI o)), (3, .int (nI (2 ^ o)))] [] (N, hm_sh Ln g, s) _ Q
  refine hm_st hR (hm_st hR (hm_st hR (hm_st hR (?_))))
  show R 196 340 [(15, .int 0), (14, .int 0), (13, .int (nI (fb_ct (im_al r) 80))), (12, .int (nI m)), (11, .int (nI h)), (10, .int (nI w)), (9, .int (nI v)), (8, .int (nI u)), (7, .int kv), (6, .int (nI c)), (4, .long (im_dg r 68 o cap)), (0, .ref 2), (1, .int x), (2, .int (nI o)), (3, .int (nI (2 ^ o)))] [] (N, hm_sh Ln g, s) _ Q
  refine aw_f hR hT ho1 ho hc hF M 0 N g s b4 (by omega) hN hS (by omega) (by omega) fun N g s b5 hN hS a11 a12 => ?_
  show R 196 369 [(15, .int (nI M)), (14, .int (nI (fb_ct (im_al r) 80))), (13, .int (nI (fb_ct (im_al r) 80))), (12, .int (nI m)), (11, .int (nI h)), (10, .int (nI w)), (9, .int (nI v)), (8, .int (nI u)), (7, .int kv), (6, .int (nI c)), (4, .long (im_dg r 68 o cap)), (0, .ref 2), (1, .int x), (2, .int (nI o)), (3, .int (nI (2 ^ o)))] [] (N, hm_sh Ln g, s) _ Q
  refine hm_st hR (hm_st hR (hm_st hR (hm_st hR (?_))))
  show R 196 375 [(16, .int 0), (15, .int (-1)), (14, .int (nI (fb_ct (im_al r) 80))), (13, .int (nI (fb_ct (im_al r) 80))), (12, .int (nI m)), (11, .int (nI h)), (10, .int (nI w)), (9, .int (nI v)), (8, .int (nI u)), (7, .int kv), (6, .int (nI c)), (4, .long (im_dg r 68 o cap)), (0, .ref 2), (1, .int x), (2, .int (nI o)), (3, .int (nI (2 ^ o)))] [] (N, hm_sh Ln g, s) _ Q
  refine aw_g hR hT ho1 ho hc hu hv (fb_ct (im_al r) 80) 0 (-1) N g s b5 (by omega) (Or.inl ⟨rfl, rfl⟩) hN hS (by omega) (by omega) fun la N g s b6 hN hS a13 a14 => ?_
  exact aw_i hR hT ho1 ho hc hu hv hN hS (by omega) (by omega) hQ
/-- what an act leaves -/
def im_AO (s t : hm_St) (o c cap H V : Nat) : Prop := ∃ P H' V' M, im_TI t o c cap P H' V' M ∧ (H' ≤ H + 3 ∨ H' ≤ 560) ∧ V' ≤ V + 200 ∧ V ≤ V' ∧ im_VS s t V ∧ ∀ j, t 67 j = s 67 j
theorem im_GOa {t : hm_St} {a : Nat} (h : im_GO s t o c cap H V a) (ha : a ≤ 3) (h67 : ∀ j, t 67 j = s 67 j) : im_AO s t o c cap H V := by
  obtain ⟨P, H', V', M, hT, h1, h2, h3, h4⟩ := h
  exact ⟨P, H', V', M, hT, Or.inl (by omega), by omega, h3, h4, h67⟩
theorem im_GOk {t u : hm_St} {P2 H2 V2 M2 : Nat} (hT2 : im_TI t o c cap P2 H2 V2 M2) (g1 : H2 ≤ H + 0) (g2 : V2 ≤ V + 0) (g3 : V ≤ V2) (g4 : im_VS s t V) (hG : im_GO t u o c cap H2 V2 (if H2 ≤ 400 then 160 else 0)) (h67 : ∀ j, u 67 j = s 67 j) : im_AO s u o c cap H V := by
  obtain ⟨P3, H3, V3, M3, hT3, k1, k2, k3, k4⟩ := hG
  have hI := hT2.1.2.2.2.2.2.2.1
  by_cases q : H2 ≤ 400
  · rw [if_pos q] at k1 k2
    exact ⟨P3, H3, V3, M3, hT3, Or.inr (by omega), by omega, by omega, im_VSt g4 k4 g3 hI.1 hI.2.2.1, h67⟩
  · rw [if_neg q] at k1 k2
    exact ⟨P3, H3, V3, M3, hT3, Or.inl (by omega), by omega, by omega, im_VSt g4 k4 g3 hI.1 hI.2.2.1, h67⟩
theorem im_RSq {e : hm_Er Int32} {a : Nat} (h : im_RS e N g s o c cap H V a) (h67 : ∀ j, e.2.2.2.2 67 j = s 67 j) (H0 : ∀ v t, im_GO s t o c cap H V a → (∀ j, t 67 j = s 67 j) → Q (.inr (some (.int v))) (N, hm_sh Ln g, t))
    (H1 : ∀ y N2 g2 t, y = 1 ∨ y = 2 → N ≤ N2 → im_GO s t o c cap H V a → (∀ j, t 67 j = s 67 j) → Q (.inl (hm_xn y)) (N2, hm_sh Ln g2, t)) : hm_qx Q Ln (fun v => some (.int v)) e := by
  obtain ⟨k, v, N', g', t⟩ := e
  obtain ⟨hk, hN, hg, hG⟩ := h
  dsimp only at hk hN hg hG h67
  subst hN hg
  rcases hk with rfl | rfl | rfl
  · exact H0 v t hG h67
  · exact fun N2 hN2 => H1 1 N2 _ t (Or.inl rfl) hN2 hG h67
  · exact fun N2 hN2 => H1 2 N2 _ t (Or.inr rfl) hN2 hG h67
theorem im_H195 (hR : hm_Cm R) {pc y : Nat} {lv : hm_Lv} {rest : List Value} {h' : hm_Hp} (hp : 26 ≤ pc ∧ pc < 214) (hy : y = 1 ∨ y = 2) (HQ : Q (.inr none) h') : hm_K R 195 pc lv rest b Q (.inl (hm_xn y)) h' := by
  show (if 195 = 195 then _ else Q (.inl (hm_xn y)) h')
  rw [if_pos rfl]
  refine ⟨hp.1, hp.2, ?_⟩
  rcases hy with rfl | rfl
  · exact Or.inr ⟨rfl, hm_st hR HQ⟩
  · exact Or.inl ⟨rfl, hm_st hR HQ⟩
theorem im_m3 {m : Nat} : m < 7 → -3 ≤ nI m - 3 ∧ nI m - 3 ≤ 3 := by
  intro h
  revert m
  decide
theorem aw_act (hR : hm_Cm R) (hT : im_TI s o c cap P H V M) (ho1 : 1 ≤ o) (ho : o ≤ 4) (hc : c < 6) (hH : H ≤ 1000) (hV : V ≤ 900000) (hN : 68 ≤ N) (hb1 : 10 ≤ b.1) (hb2 : 60 ≤ b.2) {x : Int32} {wt : Nat} (hw : wt < 10)
    (hQ : ∀ (N : Nat) (g : Nat → hm_Sh) (t : hm_St), 68 ≤ N → im_AO s t o c cap H V → Q (.inr none) (N, hm_sh Ln g, t)) : R 195 0 (lv_args 0 [.ref 2, .int x, .int (nI wt), .int (nI (2 ^ o))]) [] (N, hm_sh Ln g, s) b Q := by
  have ho6 : o < 6 := by omega
  have pw := im_pw5 o ho6
  have hO := im_hO (A := 0) hT im_SMr ho6
  show R 195 0 [(0, .ref 2), (1, .int x), (2, .int (nI wt)), (3, .int (nI (2 ^ o)))] [] (N, hm_sh Ln g, s) _ Q
  refine hm_st hR (hm_st hR (?_))
  show R 195 3 [(0, .ref 2), (1, .int x), (2, .int (nI wt)), (3, .int (nI (2 ^ o)))] [.int (nI 8), .int x] (N, hm_sh Ln g, s) _ Q
  refine hm_st hR ⟨hm_le rfl, hm_le rfl, hm_le rfl, (0, 0), Nat.zero_le _, Nat.zero_le _, ?_⟩
  refine lw_192 hR (m := 8) (by omega) fun p hp => ?_
  show R 195 6 [(0, .ref 2), (1, .int x), (2, .int (nI wt)), (3, .int (nI (2 ^ o)))] [.int (nI p)] (N, hm_sh Ln g, s) _ Q
  refine hm_st hR (hm_st hR (hm_st hR (hm_st hR (hm_st hR (?_)))))
  show R 195 12 [(4, .int (nI p)), (0, .ref 2), (1, .int x), (2, .int (nI wt)), (3, .int (nI (2 ^ o)))] [.int (nI (2 ^ o)), .int (x >>> (2 &&& 31))] (N, hm_sh Ln g, s) _ Q
  refine hm_st hR ⟨hm_le rfl, hm_le rfl, hm_le rfl, (0, 0), Nat.zero_le _, Nat.zero_le _, ?_⟩
  refine lw_192 hR (m := 2 ^ o) (⟨pw.2.2.2, by omega⟩) fun u hu => ?_
  show R 195 15 [(4, .int (nI p)), (0, .ref 2), (1, .int x), (2, .int (nI wt)), (3, .int (nI (2 ^ o)))] [.int (nI u)] (N, hm_sh Ln g, s) _ Q
  refine hm_st hR (hm_st hR (hm_st hR (hm_st hR (hm_st hR (?_)))))
  show R 195 21 [(5, .int (nI u)), (4, .int (nI p)), (0, .ref 2), (1, .int x), (2, .int (nI wt)), (3, .int (nI (2 ^ o)))] [.int (nI (2 ^ o)), .int (x >>> (4 &&& 31))] (N, hm_sh Ln g, s) _ Q
  refine hm_st hR ⟨hm_le rfl, hm_le rfl, hm_le rfl, (0, 0), Nat.zero_le _, Nat.zero_le _, ?_⟩
  refine lw_192 hR (m := 2 ^ o) (⟨pw.2.2.2, by omega⟩) fun v hv => ?_
  show R 195 24 [(5, .int (nI u)), (4, .int (nI p)), (0, .ref 2), (1, .int x), (2, .int (nI wt)), (3, .int (nI (2 ^ o)))] [.int (nI v)] (N, hm_sh Ln g, s) _ Q
  refine hm_st hR (hm_st hR (?_))
  show R 195 27 [(6, .int (nI v)), (5, .int (nI u)), (4, .int (nI p)), (0, .ref 2), (1, .int x), (2, .int (nI wt)), (3, .int (nI (2 ^ o)))] [.int (nI wt)] (N, hm_sh Ln g, s) _ Q
  have hfin : ∀ (N : Nat) (g : Nat → hm_Sh) (t : hm_St) (pc : Nat) (lv : hm_Lv) (rest : List Value) (b : hm_B) (y : Nat), 26 ≤ pc ∧ pc < 214 → y = 1 ∨ y = 2 → 68 ≤ N → im_AO s t o c cap H V → hm_K R 195 pc lv rest b Q (.inl (hm_xn y)) (N, hm_sh Ln g, t) := fun N g t pc lv rest b y hp hy hN hA => im_H195 hR hp hy (hQ N g t hN hA)
  rcases (show wt = 0 ∨ wt = 1 ∨ wt = 2 ∨ wt = 3 ∨ wt = 4 ∨ wt = 5 ∨ wt = 6 ∨ wt = 7 ∨ wt = 8 ∨ wt = 9 by omega) with rfl | rfl | rfl | rfl | rfl | rfl | rfl | rfl | rfl | rfl
  · refine hm_tsS hR 76 (by rfl) (by decide) ?_
    show R 195 76 [(6, .int (nI v)), (5, .int (nI u)), (4, .int (nI p)), (0, .ref 2), (1, .int x), (2, .int (nI 0)), (3, .int (nI (2 ^ o)))] [] (N, hm_sh Ln g, s) _ Q
    refine hm_st hR (hm_st hR (hm_st hR (?_)))
    show R 195 81 [(6, .int (nI v)), (5, .int (nI u)), (4, .int (nI p)), (0, .ref 2), (1, .int x), (2, .int (nI 0)), (3, .int (nI (2 ^ o)))] [.int (nI v), .int (nI u), .ref 2] (N, hm_sh Ln g, s) _ Q
    refine hm_st hR ⟨hm_le rfl, rfl, hm_le rfl, hm_ltN hN rfl, hm_le rfl, hm_le rfl, (1, 6), by show 1 ≤ b.1 - 0 - 0 - 0; omega, by show 6 ≤ b.2 - 0 - 0 - 0; omega, ?_⟩
    refine sp_5 hR hN (hm_le rfl) (hm_le rfl) hO ?_
    refine im_RSq (im_put hT ho6 hc hu hv (by omega) (by omega)) (fun j => N_5 (by decide) (by decide) (by decide) (by decide) (by decide) (by decide) (by decide) (by decide) (by decide) (by decide) (by decide) (by decide) (by decide) (by decide) (by decide) (by decide) (by decide) (by decide) (by decide) (by decide)) (fun z t hG h67 => ?_) (fun y N2 g2 t hy hN2 hG h67 => hfin N2 g2 t _ _ _ _ y (by decide) hy (by omega) (im_GOa hG (by omega) h67))
    show R 195 84 [(6, .int (nI v)), (5, .int (nI u)), (4, .int (nI p)), (0, .ref 2), (1, .int x), (2, .int (nI 0)), (3, .int (nI (2 ^ o)))] [.int z] (N, hm_sh Ln g, t) _ Q
    refine hm_st hR ⟨rfl, hm_st hR (hm_st hR (?_))⟩
    show R 195 223 [(6, .int (nI v)), (5, .int (nI u)), (4, .int (nI p)), (0, .ref 2), (1, .int x), (2, .int (nI 0)), (3, .int (nI (2 ^ o)))] [] (N, hm_sh Ln g, t) _ Q
    exact hm_st hR (hQ N g t hN (im_GOa hG (by omega) h67))
  · refine hm_tsS hR 76 (by rfl) (by decide) ?_
    show R 195 76 [(6, .int (nI v)), (5, .int (nI u)), (4, .int (nI p)), (0, .ref 2), (1, .int x), (2, .int (nI 1)), (3, .int (nI (2 ^ o)))] [] (N, hm_sh Ln g, s) _ Q
    refine hm_st hR (hm_st hR (hm_st hR (?_)))
    show R 195 81 [(6, .int (nI v)), (5, .int (nI u)), (4, .int (nI p)), (0, .ref 2), (1, .int x), (2, .int (nI 1)), (3, .int (nI (2 ^ o)))] [.int (nI v), .int (nI u), .ref 2] (N, hm_sh Ln g, s) _ Q
    refine hm_st hR ⟨hm_le rfl, rfl, hm_le rfl, hm_ltN hN rfl, hm_le rfl, hm_le rfl, (1, 6), by show 1 ≤ b.1 - 0 - 0 - 0; omega, by show 6 ≤ b.2 - 0 - 0 - 0; omega, ?_⟩
    refine sp_5 hR hN (hm_le rfl) (hm_le rfl) hO ?_
    refine im_RSq (im_put hT ho6 hc hu hv (by omega) (by omega)) (fun j => N_5 (by decide) (by decide) (by decide) (by decide) (by decide) (by decide) (by decide) (by decide) (by decide) (by decide) (by decide) (by decide) (by decide) (by decide) (by decide) (by decide) (by decide) (by decide) (by decide) (by decide)) (fun z t hG h67 => ?_) (fun y N2 g2 t hy hN2 hG h67 => hfin N2 g2 t _ _ _ _ y (by decide) hy (by omega) (im_GOa hG (by omega) h67))
    show R 195 84 [(6, .int (nI v)), (5, .int (nI u)), (4, .int (nI p)), (0, .ref 2), (1, .int x), (2, .int (nI 1)), (3, .int (nI (2 ^ o)))] [.int z] (N, hm_sh Ln g, t) _ Q
    refine hm_st hR ⟨rfl, hm_st hR (hm_st hR (?_))⟩
    show R 195 223 [(6, .int (nI v)), (5, .int (nI u)), (4, .int (nI p)), (0, .ref 2), (1, .int x), (2, .int (nI 1)), (3, .int (nI (2 ^ o)))] [] (N, hm_sh Ln g, t) _ Q
    exact hm_st hR (hQ N g t hN (im_GOa hG (by omega) h67))
  · refine hm_tsS hR 76 (by rfl) (by decide) ?_
    show R 195 76 [(6, .int (nI v)), (5, .int (nI u)), (4, .int (nI p)), (0, .ref 2), (1, .int x), (2, .int (nI 2)), (3, .int (nI (2 ^ o)))] [] (N, hm_sh Ln g, s) _ Q
    refine hm_st hR (hm_st hR (hm_st hR (?_)))
    show R 195 81 [(6, .int (nI v)), (5, .int (nI u)), (4, .int (nI p)), (0, .ref 2), (1, .int x), (2, .int (nI 2)), (3, .int (nI (2 ^ o)))] [.int (nI v), .int (nI u), .ref 2] (N, hm_sh Ln g, s) _ Q
    refine hm_st hR ⟨hm_le rfl, rfl, hm_le rfl, hm_ltN hN rfl, hm_le rfl, hm_le rfl, (1, 6), by show 1 ≤ b.1 - 0 - 0 - 0; omega, by show 6 ≤ b.2 - 0 - 0 - 0; omega, ?_⟩
    refine sp_5 hR hN (hm_le rfl) (hm_le rfl) hO ?_
    refine im_RSq (im_put hT ho6 hc hu hv (by omega) (by omega)) (fun j => N_5 (by decide) (by decide) (by decide) (by decide) (by decide) (by decide) (by decide) (by decide) (by decide) (by decide) (by decide) (by decide) (by decide) (by decide) (by decide) (by decide) (by decide) (by decide) (by decide) (by decide)) (fun z t hG h67 => ?_) (fun y N2 g2 t hy hN2 hG h67 => hfin N2 g2 t _ _ _ _ y (by decide) hy (by omega) (im_GOa hG (by omega) h67))
    show R 195 84 [(6, .int (nI v)), (5, .int (nI u)), (4, .int (nI p)), (0, .ref 2), (1, .int x), (2, .int (nI 2)), (3, .int (nI (2 ^ o)))] [.int z] (N, hm_sh Ln g, t) _ Q
    refine hm_st hR ⟨rfl, hm_st hR (hm_st hR (?_))⟩
    show R 195 223 [(6, .int (nI v)), (5, .int (nI u)), (4, .int (nI p)), (0, .ref 2), (1, .int x), (2, .int (nI 2)), (3, .int (nI (2 ^ o)))] [] (N, hm_sh Ln g, t) _ Q
    exact hm_st hR (hQ N g t hN (im_GOa hG (by omega) h67))
  · refine hm_tsS hR 88 (by rfl) (by decide) ?_
    show R 195 88 [(6, .int (nI v)), (5, .int (nI u)), (4, .int (nI p)), (0, .ref 2), (1, .int x), (2, .int (nI 3)), (3, .int (nI (2 ^ o)))] [] (N, hm_sh Ln g, s) _ Q
    refine hm_st hR (hm_st hR (hm_st hR (hm_st hR (?_))))
    show R 195 92 [(6, .int (nI v)), (5, .int (nI u)), (4, .int (nI p)), (0, .ref 2), (1, .int x), (2, .int (nI 3)), (3, .int (nI (2 ^ o)))] [.int (nI 3), .int x, .int 1, .ref 2] (N, hm_sh Ln g, s) _ Q
    refine hm_st hR ⟨hm_le rfl, hm_le rfl, hm_le rfl, (0, 0), Nat.zero_le _, Nat.zero_le _, ?_⟩
    refine lw_192 hR (m := 3) (by omega) fun m hm => ?_
    show R 195 95 [(6, .int (nI v)), (5, .int (nI u)), (4, .int (nI p)), (0, .ref 2), (1, .int x), (2, .int (nI 3)), (3, .int (nI (2 ^ o)))] [.int (nI m), .int 1, .ref 2] (N, hm_sh Ln g, s) _ Q
    refine hm_st hR (?_)
    show R 195 96 [(6, .int (nI v)), (5, .int (nI u)), (4, .int (nI p)), (0, .ref 2), (1, .int x), (2, .int (nI 3)), (3, .int (nI (2 ^ o)))] [.int (1 + (nI m)), .ref 2] (N, hm_sh Ln g, s) _ Q
    rw [show (1 : Int32) + nI m = nI (1 + m) from nI_add 1 m]
    refine hm_st hR (hm_st hR (hm_st hR (hm_st hR (?_))))
    show R 195 101 [(6, .int (nI v)), (5, .int (nI u)), (4, .int (nI p)), (0, .ref 2), (1, .int x), (2, .int (nI 3)), (3, .int (nI (2 ^ o)))] [.int (nI 100), .int (x >>> (3 &&& 31)), .int (nI (1 + m)), .ref 2] (N, hm_sh Ln g, s) _ Q
    refine hm_st hR ⟨hm_le rfl, hm_le rfl, hm_le rfl, (0, 0), Nat.zero_le _, Nat.zero_le _, ?_⟩
    refine lw_192 hR (m := 100) (by omega) fun sd hsd => ?_
    show R 195 104 [(6, .int (nI v)), (5, .int (nI u)), (4, .int (nI p)), (0, .ref 2), (1, .int x), (2, .int (nI 3)), (3, .int (nI (2 ^ o)))] [.int (nI sd), .int (nI (1 + m)), .ref 2] (N, hm_sh Ln g, s) _ Q
    refine hm_st hR ⟨hm_le rfl, rfl, hm_le rfl, hm_ltN hN rfl, hm_le rfl, hm_le rfl, (1, 6), by show 1 ≤ b.1 - 0 - 0 - 0 - 0 - 0; omega, by show 6 ≤ b.2 - 0 - 0 - 0 - 0 - 0; omega, ?_⟩
    refine sp_6 hR hN (hm_le rfl) (hm_le rfl) hO ?_
    refine im_RSq (im_bulk hT ho6 hc (show 1 ≤ 1 + m by omega) (by omega) (show sd ≤ 99 by omega) (by omega) (by omega)) (fun j => N_6 (by decide) (by decide) (by decide) (by decide) (by decide) (by decide) (by decide) (by decide) (by decide) (by decide) (by decide) (by decide) (by decide) (by decide) (by decide) (by decide) (by decide) (by decide) (by decide) (by decide)) (fun z t hG h67 => ?_) (fun y N2 g2 t hy hN2 hG h67 => hfin N2 g2 t _ _ _ _ y (by decide) hy (by omega) (im_GOa hG (by omega) h67))
    show R 195 107 [(6, .int (nI v)), (5, .int (nI u)), (4, .int (nI p)), (0, .ref 2), (1, .int x), (2, .int (nI 3)), (3, .int (nI (2 ^ o)))] [.int z] (N, hm_sh Ln g, t) _ Q
    refine hm_st hR ⟨rfl, hm_st hR (hm_st hR (?_))⟩
    show R 195 223 [(6, .int (nI v)), (5, .int (nI u)), (4, .int (nI p)), (0, .ref 2), (1, .int x), (2, .int (nI 3)), (3, .int (nI (2 ^ o)))] [] (N, hm_sh Ln g, t) _ Q
    exact hm_st hR (hQ N g t hN (im_GOa hG (by omega) h67))
  · refine hm_tsS hR 111 (by rfl) (by decide) ?_
    show R 195 111 [(6, .int (nI v)), (5, .int (nI u)), (4, .int (nI p)), (0, .ref 2), (1, .int x), (2, .int (nI 4)), (3, .int (nI (2 ^ o)))] [] (N, hm_sh Ln g, s) _ Q
    refine hm_st hR (hm_st hR (hm_st hR (hm_st hR (?_))))
    show R 195 118 [(6, .int (nI v)), (5, .int (nI u)), (4, .int (nI p)), (0, .ref 2), (1, .int x), (2, .int (nI 4)), (3, .int (nI (2 ^ o)))] [.int (nI v), .int (nI u), .int (nI p), .ref 2] (N, hm_sh Ln g, s) _ Q
    refine hm_st hR ⟨hm_le rfl, rfl, hm_le rfl, hm_ltN hN rfl, hm_le rfl, hm_le rfl, (1, 6), by show 1 ≤ b.1 - 0 - 0 - 0; omega, by show 6 ≤ b.2 - 0 - 0 - 0; omega, ?_⟩
    refine sp_7 hR hN (hm_le rfl) (hm_le rfl) hO ?_
    refine im_RSq (im_move hT ho6 hc (show p < 80 by omega) hu hv (by omega) (by omega)) (fun j => N_7 (by decide) (by decide) (by decide) (by decide) (by decide) (by decide) (by decide) (by decide) (by decide) (by decide) (by decide) (by decide) (by decide) (by decide)) (fun z t hG h67 => ?_) (fun y N2 g2 t hy hN2 hG h67 => hfin N2 g2 t _ _ _ _ y (by decide) hy (by omega) (im_GOa hG (by omega) h67))
    show R 195 121 [(6, .int (nI v)), (5, .int (nI u)), (4, .int (nI p)), (0, .ref 2), (1, .int x), (2, .int (nI 4)), (3, .int (nI (2 ^ o)))] [.int z] (N, hm_sh Ln g, t) _ Q
    refine hm_st hR ⟨rfl, hm_st hR (hm_st hR (?_))⟩
    show R 195 223 [(6, .int (nI v)), (5, .int (nI u)), (4, .int (nI p)), (0, .ref 2), (1, .int x), (2, .int (nI 4)), (3, .int (nI (2 ^ o)))] [] (N, hm_sh Ln g, t) _ Q
    exact hm_st hR (hQ N g t hN (im_GOa hG (by omega) h67))
  · refine hm_tsS hR 125 (by rfl) (by decide) ?_
    show R 195 125 [(6, .int (nI v)), (5, .int (nI u)), (4, .int (nI p)), (0, .ref 2), (1, .int x), (2, .int (nI 5)), (3, .int (nI (2 ^ o)))] [] (N, hm_sh Ln g, s) _ Q
    refine hm_st hR (hm_st hR (?_))
    show R 195 128 [(6, .int (nI v)), (5, .int (nI u)), (4, .int (nI p)), (0, .ref 2), (1, .int x), (2, .int (nI 5)), (3, .int (nI (2 ^ o)))] [.int (nI p), .ref 2] (N, hm_sh Ln g, s) _ Q
    refine hm_st hR ⟨hm_le rfl, rfl, hm_le rfl, hm_ltN hN rfl, hm_le rfl, hm_le rfl, (1, 6), by show 1 ≤ b.1 - 0 - 0 - 0; omega, by show 6 ≤ b.2 - 0 - 0 - 0; omega, ?_⟩
    refine sp_8 hR hN (hm_le rfl) (hm_le rfl) hO ?_
    refine im_RSq (im_remove hT ho6 hc (show p < 80 by omega) (by omega)) (fun j => N_8 (by decide) (by decide) (by decide) (by decide) (by decide) (by decide) (by decide) (by decide) (by decide)) (fun z t hG h67 => ?_) (fun y N2 g2 t hy hN2 hG h67 => hfin N2 g2 t _ _ _ _ y (by decide) hy (by omega) (im_GOa hG (by omega) h67))
    show R 195 131 [(6, .int (nI v)), (5, .int (nI u)), (4, .int (nI p)), (0, .ref 2), (1, .int x), (2, .int (nI 5)), (3, .int (nI (2 ^ o)))] [.int z] (N, hm_sh Ln g, t) _ Q
    refine hm_st hR ⟨rfl, hm_st hR (hm_st hR (?_))⟩
    show R 195 223 [(6, .int (nI v)), (5, .int (nI u)), (4, .int (nI p)), (0, .ref 2), (1, .int x), (2, .int (nI 5)), (3, .int (nI (2 ^ o)))] [] (N, hm_sh Ln g, t) _ Q
    exact hm_st hR (hQ N g t hN (im_GOa hG (by omega) h67))
  · refine hm_tsS hR 135 (by rfl) (by decide) ?_
    show R 195 135 [(6, .int (nI v)), (5, .int (nI u)), (4, .int (nI p)), (0, .ref 2), (1, .int x), (2, .int (nI 6)), (3, .int (nI (2 ^ o)))] [] (N, hm_sh Ln g, s) _ Q
    refine hm_st hR (?_)
    show R 195 136 [(6, .int (nI v)), (5, .int (nI u)), (4, .int (nI p)), (0, .ref 2), (1, .int x), (2, .int (nI 6)), (3, .int (nI (2 ^ o)))] [.ref 2] (N, hm_sh Ln g, s) _ Q
    refine hm_st hR ⟨hm_le rfl, rfl, hm_le rfl, hm_ltN hN rfl, hm_le rfl, hm_le rfl, (0, 0), by show 0 ≤ b.1 - 0 - 0 - 0; omega, by show 0 ≤ b.2 - 0 - 0 - 0; omega, ?_⟩
    refine sp_9 hR hN ?_
    show R 195 139 [(6, .int (nI v)), (5, .int (nI u)), (4, .int (nI p)), (0, .ref 2), (1, .int x), (2, .int (nI 6)), (3, .int (nI (2 ^ o)))] [.int (T_9 s).1] (N, hm_sh Ln g, (T_9 s).2) _ Q
    refine hm_st hR ⟨rfl, hm_st hR (hm_st hR (?_))⟩
    show R 195 223 [(6, .int (nI v)), (5, .int (nI u)), (4, .int (nI p)), (0, .ref 2), (1, .int x), (2, .int (nI 6)), (3, .int (nI (2 ^ o)))] [] (N, hm_sh Ln g, (T_9 s).2) _ Q
    exact hm_st hR (hQ N g _ hN (im_GOa (im_sweepI hT ho6) (by omega) (fun j => N_9 (by decide) (by decide) (by decide))))
  · refine hm_tsS hR 143 (by rfl) (by decide) ?_
    show R 195 143 [(6, .int (nI v)), (5, .int (nI u)), (4, .int (nI p)), (0, .ref 2), (1, .int x), (2, .int (nI 7)), (3, .int (nI (2 ^ o)))] [] (N, hm_sh Ln g, s) _ Q
    refine hm_st hR (hm_st hR (hm_st hR (hm_st hR (hm_st hR (hm_st hR (?_))))))
    show R 195 151 [(6, .int (nI v)), (5, .int (nI u)), (4, .int (nI p)), (0, .ref 2), (1, .int x), (2, .int (nI 7)), (3, .int (nI (2 ^ o)))] [.int (nI 7), .int (x >>> (2 &&& 31)), .int (nI p), .ref 2] (N, hm_sh Ln g, s) _ Q
    refine hm_st hR ⟨hm_le rfl, hm_le rfl, hm_le rfl, (0, 0), Nat.zero_le _, Nat.zero_le _, ?_⟩
    refine lw_192 hR (m := 7) (by omega) fun m hm => ?_
    show R 195 154 [(6, .int (nI v)), (5, .int (nI u)), (4, .int (nI p)), (0, .ref 2), (1, .int x), (2, .int (nI 7)), (3, .int (nI (2 ^ o)))] [.int (nI m), .int (nI p), .ref 2] (N, hm_sh Ln g, s) _ Q
    refine hm_st hR (hm_st hR (hm_st hR (hm_st hR (hm_st hR (hm_st hR (?_))))))
    show R 195 161 [(6, .int (nI v)), (5, .int (nI u)), (4, .int (nI p)), (0, .ref 2), (1, .int x), (2, .int (nI 7)), (3, .int (nI (2 ^ o)))] [.int (nI 7), .int (x >>> (4 &&& 31)), .int ((nI m) - 3), .int (nI p), .ref 2] (N, hm_sh Ln g, s) _ Q
    refine hm_st hR ⟨hm_le rfl, hm_le rfl, hm_le rfl, (0, 0), Nat.zero_le _, Nat.zero_le _, ?_⟩
    refine lw_192 hR (m := 7) (by omega) fun m2 hm2 => ?_
    show R 195 164 [(6, .int (nI v)), (5, .int (nI u)), (4, .int (nI p)), (0, .ref 2), (1, .int x), (2, .int (nI 7)), (3, .int (nI (2 ^ o)))] [.int (nI m2), .int ((nI m) - 3), .int (nI p), .ref 2] (N, hm_sh Ln g, s) _ Q
    refine hm_st hR (hm_st hR (?_))
    show R 195 166 [(6, .int (nI v)), (5, .int (nI u)), (4, .int (nI p)), (0, .ref 2), (1, .int x), (2, .int (nI 7)), (3, .int (nI (2 ^ o)))] [.int ((nI m2) - 3), .int ((nI m) - 3), .int (nI p), .ref 2] (N, hm_sh Ln g, s) _ Q
    refine hm_st hR ⟨hm_le rfl, rfl, hm_le rfl, hm_ltN hN rfl, hm_le rfl, hm_le rfl, (1, 6), by show 1 ≤ b.1 - 0 - 0 - 0 - 0 - 0; omega, by show 6 ≤ b.2 - 0 - 0 - 0 - 0 - 0; omega, ?_⟩
    refine sp_17 hR hN (hm_le rfl) (hm_le rfl) ?_
    refine im_RSq (im_speed hT (show p < 80 by omega) (im_m3 hm).1 (im_m3 hm).2 (im_m3 hm2).1 (im_m3 hm2).2) (fun j => N_17 (by decide) (by decide)) (fun z t hG h67 => ?_) (fun y N2 g2 t hy hN2 hG h67 => hfin N2 g2 t _ _ _ _ y (by decide) hy (by omega) (im_GOa hG (by omega) h67))
    show R 195 169 [(6, .int (nI v)), (5, .int (nI u)), (4, .int (nI p)), (0, .ref 2), (1, .int x), (2, .int (nI 7)), (3, .int (nI (2 ^ o)))] [.int z] (N, hm_sh Ln g, t) _ Q
    obtain ⟨P2, H2, V2, M2, hT2, g1, g2, g3, g4⟩ := hG
    refine hm_st hR ⟨rfl, hm_st hR (hm_st hR (hm_st hR (hm_st hR (hm_st hR (hm_st hR (?_))))))⟩
    show R 195 177 [(6, .int (nI v)), (5, .int (nI u)), (4, .int (nI p)), (0, .ref 2), (1, .int x), (2, .int (nI 7)), (3, .int (nI (2 ^ o)))] [.int (nI 2), .int (x >>> (6 &&& 31)), .int 1, .ref 2] (N, hm_sh Ln g, t) _ Q
    refine hm_st hR ⟨hm_le rfl, hm_le rfl, hm_le rfl, (0, 0), Nat.zero_le _, Nat.zero_le _, ?_⟩
    refine lw_192 hR (m := 2) (by omega) fun tk htk => ?_
    show R 195 180 [(6, .int (nI v)), (5, .int (nI u)), (4, .int (nI p)), (0, .ref 2), (1, .int x), (2, .int (nI 7)), (3, .int (nI (2 ^ o)))] [.int (nI tk), .int 1, .ref 2] (N, hm_sh Ln g, t) _ Q
    refine hm_st hR (?_)
    show R 195 181 [(6, .int (nI v)), (5, .int (nI u)), (4, .int (nI p)), (0, .ref 2), (1, .int x), (2, .int (nI 7)), (3, .int (nI (2 ^ o)))] [.int (1 + (nI tk)), .ref 2] (N, hm_sh Ln g, t) _ Q
    rw [show (1 : Int32) + nI tk = nI (1 + tk) from nI_add 1 tk]
    refine hm_st hR ⟨hm_le rfl, rfl, hm_le rfl, hm_ltN hN rfl, hm_le rfl, hm_le rfl, (1, 6), by show 1 ≤ b.1 - 0 - 0 - 0 - 0 - 0 - 1 - 0; omega, by show 6 ≤ b.2 - 0 - 0 - 0 - 0 - 0 - 6 - 0; omega, ?_⟩
    refine sp_18 hR hN (hm_le rfl) (hm_le rfl) (im_hO (A := 0) hT2 im_SMr ho6) ?_
    refine im_RSq (im_tick hT2 ho6 hc (show 1 ≤ 1 + tk by omega) (by omega) (by omega)) (fun j => N_18 (by decide) (by decide) (by decide) (by decide) (by decide) (by decide) (by decide) (by decide) (by decide) (by decide) (by decide) (by decide) (by decide) (by decide) (by decide)) (fun z u2 hG h672 => ?_) (fun y N2 g2 u2 hy hN2 hG h672 => hfin N2 g2 u2 _ _ _ _ y (by decide) hy (by omega) (im_GOk hT2 g1 (by assumption) g3 g4 hG fun j => (h672 j).trans (h67 j)))
    show R 195 184 [(6, .int (nI v)), (5, .int (nI u)), (4, .int (nI p)), (0, .ref 2), (1, .int x), (2, .int (nI 7)), (3, .int (nI (2 ^ o)))] [.int z] (N, hm_sh Ln g, u2) _ Q
    refine hm_st hR ⟨rfl, hm_st hR (hm_st hR (?_))⟩
    show R 195 223 [(6, .int (nI v)), (5, .int (nI u)), (4, .int (nI p)), (0, .ref 2), (1, .int x), (2, .int (nI 7)), (3, .int (nI (2 ^ o)))] [] (N, hm_sh Ln g, u2) _ Q
    exact hm_st hR (hQ N g u2 hN (im_GOk hT2 g1 g2 g3 g4 hG fun j => (h672 j).trans (h67 j)))
  · refine hm_tsS hR 188 (by rfl) (by decide) ?_
    show R 195 188 [(6, .int (nI v)), (5, .int (nI u)), (4, .int (nI p)), (0, .ref 2), (1, .int x), (2, .int (nI 8)), (3, .int (nI (2 ^ o)))] [] (N, hm_sh Ln g, s) _ Q
    refine hm_st hR (hm_st hR (hm_st hR (?_)))
    show R 195 191 [(6, .int (nI v)), (5, .int (nI u)), (4, .int (nI p)), (0, .ref 2), (1, .int x), (2, .int (nI 8)), (3, .int (nI (2 ^ o)))] [.int (nI 2), .int x, .ref 2] (N, hm_sh Ln g, s) _ Q
    refine hm_st hR ⟨hm_le rfl, hm_le rfl, hm_le rfl, (0, 0), Nat.zero_le _, Nat.zero_le _, ?_⟩
    refine lw_192 hR (m := 2) (by omega) fun m hm => ?_
    show R 195 194 [(6, .int (nI v)), (5, .int (nI u)), (4, .int (nI p)), (0, .ref 2), (1, .int x), (2, .int (nI 8)), (3, .int (nI (2 ^ o)))] [.int (nI m), .ref 2] (N, hm_sh Ln g, s) _ Q
    refine hm_st hR (?_)
    show R 195 195 [(6, .int (nI v)), (5, .int (nI u)), (4, .int (nI p)), (0, .ref 2), (1, .int x), (2, .int (nI 8)), (3, .int (nI (2 ^ o)))] [.int (nI 0), .int (nI m), .ref 2] (N, hm_sh Ln g, s) _ Q
    refine hm_st hR ⟨hm_le rfl, rfl, hm_le rfl, hm_ltN hN rfl, hm_le rfl, hm_le rfl, (1, 6), by show 1 ≤ b.1 - 0 - 0 - 0 - 0; omega, by show 6 ≤ b.2 - 0 - 0 - 0 - 0; omega, ?_⟩
    refine sp_26 hR hN (hm_le rfl) (hm_le rfl) ?_
    refine im_RSq (im_draw hT ho6 (show m ≤ o by omega) (im_p4l m (by omega)).1) (fun j => N_26 (by decide) (by decide) (by decide) (by decide) (by decide)) (fun z t hG h67 => ?_) (fun y N2 g2 t hy hN2 hG h67 => hfin N2 g2 t _ _ _ _ y (by decide) hy (by omega) (im_GOa hG (by omega) h67))
    show R 195 198 [(6, .int (nI v)), (5, .int (nI u)), (4, .int (nI p)), (0, .ref 2), (1, .int x), (2, .int (nI 8)), (3, .int (nI (2 ^ o)))] [.int z] (N, hm_sh Ln g, t) _ Q
    refine hm_st hR ⟨rfl, hm_st hR (hm_st hR (?_))⟩
    show R 195 223 [(6, .int (nI v)), (5, .int (nI u)), (4, .int (nI p)), (0, .ref 2), (1, .int x), (2, .int (nI 8)), (3, .int (nI (2 ^ o)))] [] (N, hm_sh Ln g, t) _ Q
    exact hm_st hR (hQ N g t hN (im_GOa hG (by omega) h67))
  · refine hm_tsS hR 202 (by rfl) (by decide) ?_
    show R 195 202 [(6, .int (nI v)), (5, .int (nI u)), (4, .int (nI p)), (0, .ref 2), (1, .int x), (2, .int (nI 9)), (3, .int (nI (2 ^ o)))] [] (N, hm_sh Ln g, s) _ Q
    refine hm_st hR (hm_st hR (hm_st hR (hm_st hR (?_))))
    show R 195 206 [(6, .int (nI v)), (5, .int (nI u)), (4, .int (nI p)), (0, .ref 2), (1, .int x), (2, .int (nI 9)), (3, .int (nI (2 ^ o)))] [.int (nI 4), .int x, .int 1, .ref 2] (N, hm_sh Ln g, s) _ Q
    refine hm_st hR ⟨hm_le rfl, hm_le rfl, hm_le rfl, (0, 0), Nat.zero_le _, Nat.zero_le _, ?_⟩
    refine lw_192 hR (m := 4) (by omega) fun m hm => ?_
    show R 195 209 [(6, .int (nI v)), (5, .int (nI u)), (4, .int (nI p)), (0, .ref 2), (1, .int x), (2, .int (nI 9)), (3, .int (nI (2 ^ o)))] [.int (nI m), .int 1, .ref 2] (N, hm_sh Ln g, s) _ Q
    refine hm_st hR (?_)
    show R 195 210 [(6, .int (nI v)), (5, .int (nI u)), (4, .int (nI p)), (0, .ref 2), (1, .int x), (2, .int (nI 9)), (3, .int (nI (2 ^ o)))] [.int (1 + (nI m)), .ref 2] (N, hm_sh Ln g, s) _ Q
    rw [show (1 : Int32) + nI m = nI (1 + m) from nI_add 1 m]
    refine hm_st hR ⟨hm_le rfl, rfl, hm_le rfl, hm_ltN hN rfl, hm_le rfl, hm_le rfl, (1, 6), by show 1 ≤ b.1 - 0 - 0 - 0 - 0; omega, by show 6 ≤ b.2 - 0 - 0 - 0 - 0; omega, ?_⟩
    refine sp_21 hR hN (hm_le rfl) (hm_le rfl) ?_
    refine im_RSq (im_share hT (show 1 ≤ 1 + m by omega) (by omega)) (fun j => N_21 (by decide)) (fun z t hG h67 => ?_) (fun y N2 g2 t hy hN2 hG h67 => hfin N2 g2 t _ _ _ _ y (by decide) hy (by omega) (im_GOa hG (by omega) h67))
    show R 195 213 [(6, .int (nI v)), (5, .int (nI u)), (4, .int (nI p)), (0, .ref 2), (1, .int x), (2, .int (nI 9)), (3, .int (nI (2 ^ o)))] [.int z] (N, hm_sh Ln g, t) _ Q
    refine hm_st hR ⟨rfl, hm_st hR (?_)⟩
    show R 195 223 [(6, .int (nI v)), (5, .int (nI u)), (4, .int (nI p)), (0, .ref 2), (1, .int x), (2, .int (nI 9)), (3, .int (nI (2 ^ o)))] [] (N, hm_sh Ln g, t) _ Q
    exact hm_st hR (hQ N g t hN (im_GOa hG (by omega) h67))
end ImL3
