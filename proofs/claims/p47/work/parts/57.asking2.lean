/-! The law's asking, second half: levels, loads, the nearest, and the rest. -/
def im_D (r : hm_St) (o l : Nat) : Nat → Nat := fun q => fb_ct (im_in r o l q (im_al r)) 80
theorem im_p44 {l : Nat} (h : l ≤ 4) : 4 ^ l ≤ 256 := Nat.pow_le_pow_right (by decide) h
theorem im_cmp (x : Int64) : lg_cmp x x = 0 := by
  unfold lg_cmp
  simp
theorem im_a15e {r s : hm_St} {o c cap P H V M N A : Nat} {g : Nat → hm_Sh} (hT : im_TI r o c cap P H V M) (hS : im_SM r s A) (ho : o < 6) (hN : 68 ≤ N) {u v p nth : Nat} (hu : u < 2 ^ o) (hv : v < 2 ^ o) (hp : p < 80) (hl : im_al r p = true) (e : im_rank r u v p = nth) : im_AK (T_15 N g s (nI u) (nI v) (nI nth)) r A (nI p) := by
  rw [← e]
  exact im_a15 hT hS ho hN hu hv hp hl
section ImL2
variable {R : hm_R} {r : hm_St} {o c cap P H V M Ln u v w h m : Nat} {Q : hm_Q} {x kv : Int32}
theorem aw_d (hR : hm_Cm R) (hT : im_TI r o c cap P H V M) (ho1 : 1 ≤ o) (ho : o ≤ 4) (hc : c < 6) {l : Nat} (hl : l ≤ o) : ∀ (n q : Nat) (N : Nat) (g : Nat → hm_Sh) (s : hm_St) (b : hm_B), q + n = 4 ^ l → 68 ≤ N → im_SM r s (fb_ct (im_al r) 80) → n ≤ b.1 → 6 * n ≤ b.2 → (∀ (N : Nat) (g : Nat → hm_Sh) (s : hm_St) (b2 : hm_B), 68 ≤ N → im_SM r s (fb_ct (im_al r) 80) → b.1 ≤ b2.1 + n → b.2 ≤ b2.2 + 6 * n → R 196 319 [(16, .int (nI (4 ^ l))), (15, .int (nI (fb_sm (im_D r o l) (4 ^ l)))), (14, .int (nI l)), (13, .int (nI (fb_ct (im_al r) 80))), (12, .int (nI m)), (11, .int (nI h)), (10, .int (nI w)), (9, .int (nI v)), (8, .int (nI u)), (7, .int kv), (6, .int (nI c)), (4, .long (im_dg r 68 o cap)), (0, .ref 2), (1, .int x), (2, .int (nI o)), (3, .int (nI (2 ^ o)))] [] (N, hm_sh Ln g, s) b2 Q) → R 196 289 [(16, .int (nI q)), (15, .int (nI (fb_sm (im_D r o l) q))), (14, .int (nI l)), (13, .int (nI (fb_ct (im_al r) 80))), (12, .int (nI m)), (11, .int (nI h)), (10, .int (nI w)), (9, .int (nI v)), (8, .int (nI u)), (7, .int kv), (6, .int (nI c)), (4, .long (im_dg r 68 o cap)), (0, .ref 2), (1, .int x), (2, .int (nI o)), (3, .int (nI (2 ^ o)))] [] (N, hm_sh Ln g, s) b Q := by
  have ho6 : o < 6 := by omega
  have pl := im_p4l l (by omega)
  intro n
  induction n with
  | zero =>
    intro q N g s b hq hN hS hb1 hb2 K
    have e : q = 4 ^ l := by omega
    subst e
    refine hm_st hR (hm_st hR (hm_st hR (hm_st hR (hm_st hR (hm_st hR (?_))))))
    show R 196 297 [(16, .int (nI (4 ^ l))), (15, .int (nI (fb_sm (im_D r o l) (4 ^ l)))), (14, .int (nI l)), (13, .int (nI (fb_ct (im_al r) 80))), (12, .int (nI m)), (11, .int (nI h)), (10, .int (nI w)), (9, .int (nI v)), (8, .int (nI u)), (7, .int kv), (6, .int (nI c)), (4, .long (im_dg r 68 o cap)), (0, .ref 2), (1, .int x), (2, .int (nI o)), (3, .int (nI (2 ^ o)))] [.int (1 <<< ((2 * (nI l)) &&& 31)), .int (nI (4 ^ l))] (N, hm_sh Ln g, s) _ Q
    rw [im_p4 l (by omega)]
    refine hm_st hR ⟨fun _ => ?_, fun cc => absurd (Int32.le_refl _) cc⟩
    show R 196 319 [(16, .int (nI (4 ^ l))), (15, .int (nI (fb_sm (im_D r o l) (4 ^ l)))), (14, .int (nI l)), (13, .int (nI (fb_ct (im_al r) 80))), (12, .int (nI m)), (11, .int (nI h)), (10, .int (nI w)), (9, .int (nI v)), (8, .int (nI u)), (7, .int kv), (6, .int (nI c)), (4, .long (im_dg r 68 o cap)), (0, .ref 2), (1, .int x), (2, .int (nI o)), (3, .int (nI (2 ^ o)))] [] (N, hm_sh Ln g, s) _ Q
    exact K N g s _ hN hS (by show b.1 ≤ b.1 + 0; omega) (by show b.2 ≤ b.2 + 6 * 0; omega)
  | succ n ih =>
    intro q N g s b hq hN hS hb1 hb2 K
    refine hm_st hR (hm_st hR (hm_st hR (hm_st hR (hm_st hR (hm_st hR (?_))))))
    show R 196 297 [(16, .int (nI q)), (15, .int (nI (fb_sm (im_D r o l) q))), (14, .int (nI l)), (13, .int (nI (fb_ct (im_al r) 80))), (12, .int (nI m)), (11, .int (nI h)), (10, .int (nI w)), (9, .int (nI v)), (8, .int (nI u)), (7, .int kv), (6, .int (nI c)), (4, .long (im_dg r 68 o cap)), (0, .ref 2), (1, .int x), (2, .int (nI o)), (3, .int (nI (2 ^ o)))] [.int (1 <<< ((2 * (nI l)) &&& 31)), .int (nI q)] (N, hm_sh Ln g, s) _ Q
    rw [im_p4 l (by omega)]
    refine hm_st hR ⟨fun cc => absurd cc (nI_ge (by omega) (by omega)), fun _ => ?_⟩
    show R 196 300 [(16, .int (nI q)), (15, .int (nI (fb_sm (im_D r o l) q))), (14, .int (nI l)), (13, .int (nI (fb_ct (im_al r) 80))), (12, .int (nI m)), (11, .int (nI h)), (10, .int (nI w)), (9, .int (nI v)), (8, .int (nI u)), (7, .int kv), (6, .int (nI c)), (4, .long (im_dg r 68 o cap)), (0, .ref 2), (1, .int x), (2, .int (nI o)), (3, .int (nI (2 ^ o)))] [] (N, hm_sh Ln g, s) _ Q
    refine hm_st hR (hm_st hR (hm_st hR (hm_st hR (?_))))
    show R 196 307 [(16, .int (nI q)), (15, .int (nI (fb_sm (im_D r o l) q))), (14, .int (nI l)), (13, .int (nI (fb_ct (im_al r) 80))), (12, .int (nI m)), (11, .int (nI h)), (10, .int (nI w)), (9, .int (nI v)), (8, .int (nI u)), (7, .int kv), (6, .int (nI c)), (4, .long (im_dg r 68 o cap)), (0, .ref 2), (1, .int x), (2, .int (nI o)), (3, .int (nI (2 ^ o)))] [.int (nI q), .int (nI l), .ref 2, .int (nI (fb_sm (im_D r o l) q))] (N, hm_sh Ln g, s) _ Q
    refine hm_st hR ⟨hm_le rfl, rfl, hm_le rfl, hm_ltN hN rfl, hm_le rfl, hm_le rfl, (1, 6), by show 1 ≤ b.1; omega, by show 6 ≤ b.2; omega, ?_⟩
    refine sp_24 hR hN (hm_le rfl) (hm_le rfl) ?_
    refine im_AKq (im_a24 hT hS ho6 hN hl (show q < 4 ^ l by omega)) fun N g s hN hS => ?_
    show R 196 310 [(16, .int (nI q)), (15, .int (nI (fb_sm (im_D r o l) q))), (14, .int (nI l)), (13, .int (nI (fb_ct (im_al r) 80))), (12, .int (nI m)), (11, .int (nI h)), (10, .int (nI w)), (9, .int (nI v)), (8, .int (nI u)), (7, .int kv), (6, .int (nI c)), (4, .long (im_dg r 68 o cap)), (0, .ref 2), (1, .int x), (2, .int (nI o)), (3, .int (nI (2 ^ o)))] [.int (nI (im_D r o l q)), .int (nI (fb_sm (im_D r o l) q))] (N, hm_sh Ln g, s) _ Q
    refine hm_st hR (?_)
    show R 196 311 [(16, .int (nI q)), (15, .int (nI (fb_sm (im_D r o l) q))), (14, .int (nI l)), (13, .int (nI (fb_ct (im_al r) 80))), (12, .int (nI m)), (11, .int (nI h)), (10, .int (nI w)), (9, .int (nI v)), (8, .int (nI u)), (7, .int kv), (6, .int (nI c)), (4, .long (im_dg r 68 o cap)), (0, .ref 2), (1, .int x), (2, .int (nI o)), (3, .int (nI (2 ^ o)))] [.int ((nI (fb_sm (im_D r o l) q)) + (nI (im_D r o l q)))] (N, hm_sh Ln g, s) _ Q
    rw [show nI (fb_sm (im_D r o l) q) + nI (im_D r o l q) = nI (fb_sm (im_D r o l) (q + 1)) from nI_add _ _]
    refine hm_st hR (hm_st hR (hm_st hR (?_)))
    show R 196 289 [(16, .int ((nI q) + 1)), (15, .int (nI (fb_sm (im_D r o l) (q + 1)))), (14, .int (nI l)), (13, .int (nI (fb_ct (im_al r) 80))), (12, .int (nI m)), (11, .int (nI h)), (10, .int (nI w)), (9, .int (nI v)), (8, .int (nI u)), (7, .int kv), (6, .int (nI c)), (4, .long (im_dg r 68 o cap)), (0, .ref 2), (1, .int x), (2, .int (nI o)), (3, .int (nI (2 ^ o)))] [] (N, hm_sh Ln g, s) _ Q
    rw [nI_1]
    refine ih (q + 1) N g s _ (by omega) hN hS (by show n ≤ b.1 - 1; omega) (by show 6 * n ≤ b.2 - 6; omega) fun N2 g2 s2 b2 h1 h2 h3 h4 => K N2 g2 s2 b2 h1 h2 ?_ ?_
    · have h5 : b.1 - 1 ≤ b2.1 + n := h3
      omega
    · have h5 : b.2 - 6 ≤ b2.2 + 6 * n := h4
      omega
theorem aw_e (hR : hm_Cm R) (hT : im_TI r o c cap P H V M) (ho1 : 1 ≤ o) (ho : o ≤ 4) (hc : c < 6) : ∀ (n l : Nat) (N : Nat) (g : Nat → hm_Sh) (s : hm_St) (b : hm_B), l + n = o + 1 → 68 ≤ N → im_SM r s (fb_ct (im_al r) 80) → 256 * n ≤ b.1 → 1536 * n ≤ b.2 → (∀ (N : Nat) (g : Nat → hm_Sh) (s : hm_St) (b2 : hm_B), 68 ≤ N → im_SM r s (fb_ct (im_al r) 80) → b.1 ≤ b2.1 + 256 * n → b.2 ≤ b2.2 + 1536 * n → R 196 334 [(14, .int (nI (o + 1))), (13, .int (nI (fb_ct (im_al r) 80))), (12, .int (nI m)), (11, .int (nI h)), (10, .int (nI w)), (9, .int (nI v)), (8, .int (nI u)), (7, .int kv), (6, .int (nI c)), (4, .long (im_dg r 68 o cap)), (0, .ref 2), (1, .int x), (2, .int (nI o)), (3, .int (nI (2 ^ o)))] [] (N, hm_sh Ln g, s) b2 Q) → R 196 277 [(14, .int (nI l)), (13, .int (nI (fb_ct (im_al r) 80))), (12, .int (nI m)), (11, .int (nI h)), (10, .int (nI w)), (9, .int (nI v)), (8, .int (nI u)), (7, .int kv), (6, .int (nI c)), (4, .long (im_dg r 68 o cap)), (0, .ref 2), (1, .int x), (2, .int (nI o)), (3, .int (nI (2 ^ o)))] [] (N, hm_sh Ln g, s) b Q := by
  have ho6 : o < 6 := by omega
  intro n
  induction n with
  | zero =>
    intro l N g s b hl hN hS hb1 hb2 K
    have e : l = o + 1 := by omega
    subst e
    refine hm_st hR (hm_st hR (?_))
    show R 196 280 [(14, .int (nI (o + 1))), (13, .int (nI (fb_ct (im_al r) 80))), (12, .int (nI m)), (11, .int (nI h)), (10, .int (nI w)), (9, .int (nI v)), (8, .int (nI u)), (7, .int kv), (6, .int (nI c)), (4, .long (im_dg r 68 o cap)), (0, .ref 2), (1, .int x), (2, .int (nI o)), (3, .int (nI (2 ^ o)))] [.int (nI o), .int (nI (o + 1))] (N, hm_sh Ln g, s) _ Q
    refine hm_st hR ⟨fun _ => ?_, fun cc => absurd (nI_lt (by omega) (by omega)) cc⟩
    show R 196 334 [(14, .int (nI (o + 1))), (13, .int (nI (fb_ct (im_al r) 80))), (12, .int (nI m)), (11, .int (nI h)), (10, .int (nI w)), (9, .int (nI v)), (8, .int (nI u)), (7, .int kv), (6, .int (nI c)), (4, .long (im_dg r 68 o cap)), (0, .ref 2), (1, .int x), (2, .int (nI o)), (3, .int (nI (2 ^ o)))] [] (N, hm_sh Ln g, s) _ Q
    exact K N g s _ hN hS (by show b.1 ≤ b.1 + 256 * 0; omega) (by show b.2 ≤ b.2 + 1536 * 0; omega)
  | succ n ih =>
    intro l N g s b hl hN hS hb1 hb2 K
    have p4 := im_p44 (show l ≤ 4 by omega)
    refine hm_st hR (hm_st hR (?_))
    show R 196 280 [(14, .int (nI l)), (13, .int (nI (fb_ct (im_al r) 80))), (12, .int (nI m)), (11, .int (nI h)), (10, .int (nI w)), (9, .int (nI v)), (8, .int (nI u)), (7, .int kv), (6, .int (nI c)), (4, .long (im_dg r 68 o cap)), (0, .ref 2), (1, .int x), (2, .int (nI o)), (3, .int (nI (2 ^ o)))] [.int (nI o), .int (nI l)] (N, hm_sh Ln g, s) _ Q
    refine hm_st hR ⟨fun cc => absurd cc (nI_nlt (by omega) (by omega)), fun _ => ?_⟩
    show R 196 283 [(14, .int (nI l)), (13, .int (nI (fb_ct (im_al r) 80))), (12, .int (nI m)), (11, .int (nI h)), (10, .int (nI w)), (9, .int (nI v)), (8, .int (nI u)), (7, .int kv), (6, .int (nI c)), (4, .long (im_dg r 68 o cap)), (0, .ref 2), (1, .int x), (2, .int (nI o)), (3, .int (nI (2 ^ o)))] [] (N, hm_sh Ln g, s) _ Q
    refine hm_st hR (hm_st hR (hm_st hR (hm_st hR (?_))))
    show R 196 289 [(16, .int 0), (15, .int 0), (14, .int (nI l)), (13, .int (nI (fb_ct (im_al r) 80))), (12, .int (nI m)), (11, .int (nI h)), (10, .int (nI w)), (9, .int (nI v)), (8, .int (nI u)), (7, .int kv), (6, .int (nI c)), (4, .long (im_dg r 68 o cap)), (0, .ref 2), (1, .int x), (2, .int (nI o)), (3, .int (nI (2 ^ o)))] [] (N, hm_sh Ln g, s) _ Q
    refine aw_d hR hT ho1 ho hc (show l ≤ o by omega) (4 ^ l) 0 N g s _ (by omega) hN hS (by show 4 ^ l ≤ b.1; omega) (by show 6 * 4 ^ l ≤ b.2; omega) fun N g s b2 hN hS h3 h4 => ?_
    have h5 : b.1 ≤ b2.1 + 4 ^ l := h3
    have h6 : b.2 ≤ b2.2 + 6 * 4 ^ l := h4
    rw [show fb_sm (im_D r o l) (4 ^ l) = fb_ct (im_al r) 80 from im_dens hT.1 (by omega)]
    refine hm_st hR (hm_st hR (?_))
    show R 196 323 [(16, .int (nI (4 ^ l))), (15, .int (nI (fb_ct (im_al r) 80))), (14, .int (nI l)), (13, .int (nI (fb_ct (im_al r) 80))), (12, .int (nI m)), (11, .int (nI h)), (10, .int (nI w)), (9, .int (nI v)), (8, .int (nI u)), (7, .int kv), (6, .int (nI c)), (4, .long (im_dg r 68 o cap)), (0, .ref 2), (1, .int x), (2, .int (nI o)), (3, .int (nI (2 ^ o)))] [.int (nI (fb_ct (im_al r) 80)), .int (nI (fb_ct (im_al r) 80))] (N, hm_sh Ln g, s) _ Q
    refine hm_st hR ⟨fun _ => ?_, fun cc => absurd (rfl) cc⟩
    show R 196 328 [(16, .int (nI (4 ^ l))), (15, .int (nI (fb_ct (im_al r) 80))), (14, .int (nI l)), (13, .int (nI (fb_ct (im_al r) 80))), (12, .int (nI m)), (11, .int (nI h)), (10, .int (nI w)), (9, .int (nI v)), (8, .int (nI u)), (7, .int kv), (6, .int (nI c)), (4, .long (im_dg r 68 o cap)), (0, .ref 2), (1, .int x), (2, .int (nI o)), (3, .int (nI (2 ^ o)))] [] (N, hm_sh Ln g, s) _ Q
    refine hm_st hR (hm_st hR (?_))
    show R 196 277 [(14, .int ((nI l) + 1)), (16, .int (nI (4 ^ l))), (15, .int (nI (fb_ct (im_al r) 80))), (13, .int (nI (fb_ct (im_al r) 80))), (12, .int (nI m)), (11, .int (nI h)), (10, .int (nI w)), (9, .int (nI v)), (8, .int (nI u)), (7, .int kv), (6, .int (nI c)), (4, .long (im_dg r 68 o cap)), (0, .ref 2), (1, .int x), (2, .int (nI o)), (3, .int (nI (2 ^ o)))] [] (N, hm_sh Ln g, s) _ Q
    rw [nI_1]
    refine hm_lvS hR (lv' := [(14, .int (nI (l + 1))), (13, .int (nI (fb_ct (im_al r) 80))), (12, .int (nI m)), (11, .int (nI h)), (10, .int (nI w)), (9, .int (nI v)), (8, .int (nI u)), (7, .int kv), (6, .int (nI c)), (4, .long (im_dg r 68 o cap)), (0, .ref 2), (1, .int x), (2, .int (nI o)), (3, .int (nI (2 ^ o)))]) (by intro q hq; simp only [List.mem_cons, List.not_mem_nil, or_false] at hq ⊢; rcases hq with rfl | rfl | rfl | rfl | rfl | rfl | rfl | rfl | rfl | rfl | rfl | rfl | rfl | rfl <;> simp) ?_
    refine ih (l + 1) N g s b2 (by omega) hN hS (by omega) (by omega) fun N2 g2 s2 b3 h1 h2 h7 h8 => K N2 g2 s2 b3 h1 h2 (by omega) (by omega)
theorem aw_f (hR : hm_Cm R) (hT : im_TI r o c cap P H V M) (ho1 : 1 ≤ o) (ho : o ≤ 4) (hc : c < 6) {Z : Nat} {fl : Nat → Nat} (hF : im_PF r (4 ^ o) Z fl) : ∀ (n q : Nat) (N : Nat) (g : Nat → hm_Sh) (s : hm_St) (b : hm_B), q + n = M → 68 ≤ N → im_SM r s (fb_ct (im_al r) 80) → 2 * n + 1 ≤ b.1 → 12 * n + 6 ≤ b.2 → (∀ (N : Nat) (g : Nat → hm_Sh) (s : hm_St) (b2 : hm_B), 68 ≤ N → im_SM r s (fb_ct (im_al r) 80) → b.1 ≤ b2.1 + (2 * n + 1) → b.2 ≤ b2.2 + (12 * n + 6) → R 196 369 [(15, .int (nI M)), (14, .int (nI (fb_ct (im_al r) 80))), (13, .int (nI (fb_ct (im_al r) 80))), (12, .int (nI m)), (11, .int (nI h)), (10, .int (nI w)), (9, .int (nI v)), (8, .int (nI u)), (7, .int kv), (6, .int (nI c)), (4, .long (im_dg r 68 o cap)), (0, .ref 2), (1, .int x), (2, .int (nI o)), (3, .int (nI (2 ^ o)))] [] (N, hm_sh Ln g, s) b2 Q) → R 196 340 [(15, .int (nI q)), (14, .int (nI (fb_sm (im_wl r fl M Z) q))), (13, .int (nI (fb_ct (im_al r) 80))), (12, .int (nI m)), (11, .int (nI h)), (10, .int (nI w)), (9, .int (nI v)), (8, .int (nI u)), (7, .int kv), (6, .int (nI c)), (4, .long (im_dg r 68 o cap)), (0, .ref 2), (1, .int x), (2, .int (nI o)), (3, .int (nI (2 ^ o)))] [] (N, hm_sh Ln g, s) b Q := by
  have hM := hT.2.2.2.2
  have ho6 : o < 6 := by omega
  intro n
  induction n with
  | zero =>
    intro q N g s b hq hN hS hb1 hb2 K
    have e : M = q := by omega
    subst e
    refine hm_st hR (hm_st hR (hm_st hR (?_)))
    show R 196 345 [(15, .int (nI M)), (14, .int (nI (fb_sm (im_wl r fl M Z) M))), (13, .int (nI (fb_ct (im_al r) 80))), (12, .int (nI m)), (11, .int (nI h)), (10, .int (nI w)), (9, .int (nI v)), (8, .int (nI u)), (7, .int kv), (6, .int (nI c)), (4, .long (im_dg r 68 o cap)), (0, .ref 2), (1, .int x), (2, .int (nI o)), (3, .int (nI (2 ^ o)))] [.int 11, .ref 2, .int (nI M)] (N, hm_sh Ln g, s) _ Q
    refine hm_st hR ⟨hm_le rfl, rfl, hm_le rfl, hm_ltN hN rfl, hm_le rfl, hm_le rfl, (1, 6), by show 1 ≤ b.1; omega, by show 6 ≤ b.2; omega, ?_⟩
    refine sp_11 hR hN (by show 1 ≤ 1; omega) (by show 6 ≤ 6; omega) ?_
    refine im_AKq (im_a11 hT hS hN).2.2.2 fun N g s hN hS => ?_
    show R 196 348 [(15, .int (nI M)), (14, .int (nI (fb_sm (im_wl r fl M Z) M))), (13, .int (nI (fb_ct (im_al r) 80))), (12, .int (nI m)), (11, .int (nI h)), (10, .int (nI w)), (9, .int (nI v)), (8, .int (nI u)), (7, .int kv), (6, .int (nI c)), (4, .long (im_dg r 68 o cap)), (0, .ref 2), (1, .int x), (2, .int (nI o)), (3, .int (nI (2 ^ o)))] [.int (nI M), .int (nI M)] (N, hm_sh Ln g, s) _ Q
    refine hm_st hR ⟨fun _ => ?_, fun cc => absurd (Int32.le_refl _) cc⟩
    show R 196 369 [(15, .int (nI M)), (14, .int (nI (fb_sm (im_wl r fl M Z) M))), (13, .int (nI (fb_ct (im_al r) 80))), (12, .int (nI m)), (11, .int (nI h)), (10, .int (nI w)), (9, .int (nI v)), (8, .int (nI u)), (7, .int kv), (6, .int (nI c)), (4, .long (im_dg r 68 o cap)), (0, .ref 2), (1, .int x), (2, .int (nI o)), (3, .int (nI (2 ^ o)))] [] (N, hm_sh Ln g, s) _ Q
    rw [im_wls hT ho6 hc hF]
    exact K N g s _ hN hS (by show b.1 ≤ b.1 - 1 + (2 * 0 + 1); omega) (by show b.2 ≤ b.2 - 6 + (12 * 0 + 6); omega)
  | succ n ih =>
    intro q N g s b hq hN hS hb1 hb2 K
    refine hm_st hR (hm_st hR (hm_st hR (?_)))
    show R 196 345 [(15, .int (nI q)), (14, .int (nI (fb_sm (im_wl r fl M Z) q))), (13, .int (nI (fb_ct (im_al r) 80))), (12, .int (nI m)), (11, .int (nI h)), (10, .int (nI w)), (9, .int (nI v)), (8, .int (nI u)), (7, .int kv), (6, .int (nI c)), (4, .long (im_dg r 68 o cap)), (0, .ref 2), (1, .int x), (2, .int (nI o)), (3, .int (nI (2 ^ o)))] [.int 11, .ref 2, .int (nI q)] (N, hm_sh Ln g, s) _ Q
    refine hm_st hR ⟨hm_le rfl, rfl, hm_le rfl, hm_ltN hN rfl, hm_le rfl, hm_le rfl, (1, 6), by show 1 ≤ b.1; omega, by show 6 ≤ b.2; omega, ?_⟩
    refine sp_11 hR hN (by show 1 ≤ 1; omega) (by show 6 ≤ 6; omega) ?_
    refine im_AKq (im_a11 hT hS hN).2.2.2 fun N g s hN hS => ?_
    show R 196 348 [(15, .int (nI q)), (14, .int (nI (fb_sm (im_wl r fl M Z) q))), (13, .int (nI (fb_ct (im_al r) 80))), (12, .int (nI m)), (11, .int (nI h)), (10, .int (nI w)), (9, .int (nI v)), (8, .int (nI u)), (7, .int kv), (6, .int (nI c)), (4, .long (im_dg r 68 o cap)), (0, .ref 2), (1, .int x), (2, .int (nI o)), (3, .int (nI (2 ^ o)))] [.int (nI M), .int (nI q)] (N, hm_sh Ln g, s) _ Q
    refine hm_st hR ⟨fun cc => absurd cc (nI_ge (by omega) (by omega)), fun _ => ?_⟩
    show R 196 351 [(15, .int (nI q)), (14, .int (nI (fb_sm (im_wl r fl M Z) q))), (13, .int (nI (fb_ct (im_al r) 80))), (12, .int (nI m)), (11, .int (nI h)), (10, .int (nI w)), (9, .int (nI v)), (8, .int (nI u)), (7, .int kv), (6, .int (nI c)), (4, .long (im_dg r 68 o cap)), (0, .ref 2), (1, .int x), (2, .int (nI o)), (3, .int (nI (2 ^ o)))] [] (N, hm_sh Ln g, s) _ Q
    refine hm_st hR (hm_st hR (hm_st hR (hm_st hR (?_))))
    show R 196 357 [(15, .int (nI q)), (14, .int (nI (fb_sm (im_wl r fl M Z) q))), (13, .int (nI (fb_ct (im_al r) 80))), (12, .int (nI m)), (11, .int (nI h)), (10, .int (nI w)), (9, .int (nI v)), (8, .int (nI u)), (7, .int kv), (6, .int (nI c)), (4, .long (im_dg r 68 o cap)), (0, .ref 2), (1, .int x), (2, .int (nI o)), (3, .int (nI (2 ^ o)))] [.int 0, .int (nI q), .ref 2, .int (nI (fb_sm (im_wl r fl M Z) q))] (N, hm_sh Ln g, s) _ Q
    refine hm_st hR ⟨hm_le rfl, rfl, hm_le rfl, hm_ltN hN rfl, hm_le rfl, hm_le rfl, (1, 6), by show 1 ≤ b.1 - 1; omega, by show 6 ≤ b.2 - 6; omega, ?_⟩
    refine sp_22 hR hN (hm_le rfl) (hm_le rfl) ?_
    refine im_AKq (im_a22 hT hS hN hF (show q < M by omega)) fun N g s hN hS => ?_
    show R 196 360 [(15, .int (nI q)), (14, .int (nI (fb_sm (im_wl r fl M Z) q))), (13, .int (nI (fb_ct (im_al r) 80))), (12, .int (nI m)), (11, .int (nI h)), (10, .int (nI w)), (9, .int (nI v)), (8, .int (nI u)), (7, .int kv), (6, .int (nI c)), (4, .long (im_dg r 68 o cap)), (0, .ref 2), (1, .int x), (2, .int (nI o)), (3, .int (nI (2 ^ o)))] [.int (nI (im_wl r fl M Z q)), .int (nI (fb_sm (im_wl r fl M Z) q))] (N, hm_sh Ln g, s) _ Q
    refine hm_st hR (?_)
    show R 196 361 [(15, .int (nI q)), (14, .int (nI (fb_sm (im_wl r fl M Z) q))), (13, .int (nI (fb_ct (im_al r) 80))), (12, .int (nI m)), (11, .int (nI h)), (10, .int (nI w)), (9, .int (nI v)), (8, .int (nI u)), (7, .int kv), (6, .int (nI c)), (4, .long (im_dg r 68 o cap)), (0, .ref 2), (1, .int x), (2, .int (nI o)), (3, .int (nI (2 ^ o)))] [.int ((nI (fb_sm (im_wl r fl M Z) q)) + (nI (im_wl r fl M Z q)))] (N, hm_sh Ln g, s) _ Q
    rw [show nI (fb_sm (im_wl r fl M Z) q) + nI (im_wl r fl M Z q) = nI (fb_sm (im_wl r fl M Z) (q + 1)) from nI_add _ _]
    refine hm_st hR (hm_st hR (hm_st hR (?_)))
    show R 196 340 [(15, .int ((nI q) + 1)), (14, .int (nI (fb_sm (im_wl r fl M Z) (q + 1)))), (13, .int (nI (fb_ct (im_al r) 80))), (12, .int (nI m)), (11, .int (nI h)), (10, .int (nI w)), (9, .int (nI v)), (8, .int (nI u)), (7, .int kv), (6, .int (nI c)), (4, .long (im_dg r 68 o cap)), (0, .ref 2), (1, .int x), (2, .int (nI o)), (3, .int (nI (2 ^ o)))] [] (N, hm_sh Ln g, s) _ Q
    rw [nI_1]
    refine ih (q + 1) N g s _ (by omega) hN hS (by show 2 * n + 1 ≤ b.1 - 1 - 1; omega) (by show 12 * n + 6 ≤ b.2 - 6 - 6; omega) fun N2 g2 s2 b2 h1 h2 h3 h4 => K N2 g2 s2 b2 h1 h2 ?_ ?_
    · have h5 : b.1 - 1 - 1 ≤ b2.1 + (2 * n + 1) := h3
      omega
    · have h5 : b.2 - 6 - 6 ≤ b2.2 + (12 * n + 6) := h4
      omega
theorem aw_g (hR : hm_Cm R) (hT : im_TI r o c cap P H V M) (ho1 : 1 ≤ o) (ho : o ≤ 4) (hc : c < 6) (hu : u < 2 ^ o) (hv : v < 2 ^ o) : ∀ (n q : Nat) (la : Int32) (N : Nat) (g : Nat → hm_Sh) (s : hm_St) (b : hm_B), q + n = (fb_ct (im_al r) 80) → ((q = 0 ∧ la = -1) ∨ ∃ p, p < 80 ∧ im_al r p = true ∧ im_rank r u v p < q ∧ la = nI (im_fr r u v p)) → 68 ≤ N → im_SM r s (fb_ct (im_al r) 80) → 10 * n ≤ b.1 → 60 * n ≤ b.2 → (∀ (la : Int32) (N : Nat) (g : Nat → hm_Sh) (s : hm_St) (b2 : hm_B), 68 ≤ N → im_SM r s (fb_ct (im_al r) 80) → b.1 ≤ b2.1 + 10 * n → b.2 ≤ b2.2 + 60 * n → R 196 494 [(16, .int (nI (fb_ct (im_al r) 80))), (15, .int la), (14, .int (nI (fb_ct (im_al r) 80))), (13, .int (nI (fb_ct (im_al r) 80))), (12, .int (nI m)), (11, .int (nI h)), (10, .int (nI w)), (9, .int (nI v)), (8, .int (nI u)), (7, .int kv), (6, .int (nI c)), (4, .long (im_dg r 68 o cap)), (0, .ref 2), (1, .int x), (2, .int (nI o)), (3, .int (nI (2 ^ o)))] [] (N, hm_sh Ln g, s) b2 Q) → R 196 375 [(16, .int (nI q)), (15, .int la), (14, .int (nI (fb_ct (im_al r) 80))), (13, .int (nI (fb_ct (im_al r) 80))), (12, .int (nI m)), (11, .int (nI h)), (10, .int (nI w)), (9, .int (nI v)), (8, .int (nI u)), (7, .int kv), (6, .int (nI c)), (4, .long (im_dg r 68 o cap)), (0, .ref 2), (1, .int x), (2, .int (nI o)), (3, .int (nI (2 ^ o)))] [] (N, hm_sh Ln g, s) b Q := by
  have ho6 : o < 6 := by omega
  have hl8 := fb_ct_le (im_al r) 80
  intro n
  induction n with
  | zero =>
    intro q la N g s b hq hla hN hS hb1 hb2 K
    have e : q = fb_ct (im_al r) 80 := by omega
    subst e
    refine hm_st hR (hm_st hR (?_))
    show R 196 379 [(16, .int (nI (fb_ct (im_al r) 80))), (15, .int la), (14, .int (nI (fb_ct (im_al r) 80))), (13, .int (nI (fb_ct (im_al r) 80))), (12, .int (nI m)), (11, .int (nI h)), (10, .int (nI w)), (9, .int (nI v)), (8, .int (nI u)), (7, .int kv), (6, .int (nI c)), (4, .long (im_dg r 68 o cap)), (0, .ref 2), (1, .int x), (2, .int (nI o)), (3, .int (nI (2 ^ o)))] [.int (nI (fb_ct (im_al r) 80)), .int (nI (fb_ct (im_al r) 80))] (N, hm_sh Ln g, s) _ Q
    refine hm_st hR ⟨fun _ => ?_, fun cc => absurd (Int32.le_refl _) cc⟩
    show R 196 494 [(16, .int (nI (fb_ct (im_al r) 80))), (15, .int la), (14, .int (nI (fb_ct (im_al r) 80))), (13, .int (nI (fb_ct (im_al r) 80))), (12, .int (nI m)), (11, .int (nI h)), (10, .int (nI w)), (9, .int (nI v)), (8, .int (nI u)), (7, .int kv), (6, .int (nI c)), (4, .long (im_dg r 68 o cap)), (0, .ref 2), (1, .int x), (2, .int (nI o)), (3, .int (nI (2 ^ o)))] [] (N, hm_sh Ln g, s) _ Q
    exact K la N g s _ hN hS (by show b.1 ≤ b.1 + 10 * 0; omega) (by show b.2 ≤ b.2 + 60 * 0; omega)
  | succ n ih =>
    intro q la N g s b hq hla hN hS hb1 hb2 K
    obtain ⟨p, p1, p2, p3, p4⟩ := im_nearex hT ho6 hu hv (show q < fb_ct (im_al r) 80 by omega)
    have fp := im_frb hT ho6 hu hv p1 p2
    have hlt : ¬ nI (im_fr r u v p) < la := by
      rcases hla with ⟨_, e⟩ | ⟨p', a1, a2, a3, e⟩
      · rw [e, Int32.lt_iff_toInt_lt, nI_toInt (by omega)]
        show ¬ _ < (-1 : Int)
        omega
      · rw [e]
        exact nI_nlt (im_nearlt a1 a2 p1 p2 (by omega)) (by omega)
    refine hm_st hR (hm_st hR (?_))
    show R 196 379 [(16, .int (nI q)), (15, .int la), (14, .int (nI (fb_ct (im_al r) 80))), (13, .int (nI (fb_ct (im_al r) 80))), (12, .int (nI m)), (11, .int (nI h)), (10, .int (nI w)), (9, .int (nI v)), (8, .int (nI u)), (7, .int kv), (6, .int (nI c)), (4, .long (im_dg r 68 o cap)), (0, .ref 2), (1, .int x), (2, .int (nI o)), (3, .int (nI (2 ^ o)))] [.int (nI (fb_ct (im_al r) 80)), .int (nI q)] (N, hm_sh Ln g, s) _ Q
    refine hm_st hR ⟨fun cc => absurd cc (nI_ge (by omega) (by omega)), fun _ => ?_⟩
    show R 196 382 [(16, .int (nI q)), (15, .int la), (14, .int (nI (fb_ct (im_al r) 80))), (13, .int (nI (fb_ct (im_al r) 80))), (12, .int (nI m)), (11, .int (nI h)), (10, .int (nI w)), (9, .int (nI v)), (8, .int (nI u)), (7, .int kv), (6, .int (nI c)), (4, .long (im_dg r 68 o cap)), (0, .ref 2), (1, .int x), (2, .int (nI o)), (3, .int (nI (2 ^ o)))] [] (N, hm_sh Ln g, s) _ Q
    refine hm_st hR (hm_st hR (hm_st hR (hm_st hR (?_))))
    show R 196 389 [(16, .int (nI q)), (15, .int la), (14, .int (nI (fb_ct (im_al r) 80))), (13, .int (nI (fb_ct (im_al r) 80))), (12, .int (nI m)), (11, .int (nI h)), (10, .int (nI w)), (9, .int (nI v)), (8, .int (nI u)), (7, .int kv), (6, .int (nI c)), (4, .long (im_dg r 68 o cap)), (0, .ref 2), (1, .int x), (2, .int (nI o)), (3, .int (nI (2 ^ o)))] [.int (nI q), .int (nI v), .int (nI u), .ref 2] (N, hm_sh Ln g, s) _ Q
    refine hm_st hR ⟨hm_le rfl, rfl, hm_le rfl, hm_ltN hN rfl, hm_le rfl, hm_le rfl, (1, 6), by show 1 ≤ b.1; omega, by show 6 ≤ b.2; omega, ?_⟩
    refine sp_15 hR hN (hm_le rfl) (hm_le rfl) ?_
    refine im_AKq (im_a15e hT hS ho6 hN hu hv p1 p2 p3) fun N g s hN hS => ?_
    show R 196 392 [(16, .int (nI q)), (15, .int la), (14, .int (nI (fb_ct (im_al r) 80))), (13, .int (nI (fb_ct (im_al r) 80))), (12, .int (nI m)), (11, .int (nI h)), (10, .int (nI w)), (9, .int (nI v)), (8, .int (nI u)), (7, .int kv), (6, .int (nI c)), (4, .long (im_dg r 68 o cap)), (0, .ref 2), (1, .int x), (2, .int (nI o)), (3, .int (nI (2 ^ o)))] [.int (nI p)] (N, hm_sh Ln g, s) _ Q
    refine hm_st hR (hm_st hR (hm_st hR (hm_st hR (?_))))
    show R 196 398 [(17, .int (nI p)), (16, .int (nI q)), (15, .int la), (14, .int (nI (fb_ct (im_al r) 80))), (13, .int (nI (fb_ct (im_al r) 80))), (12, .int (nI m)), (11, .int (nI h)), (10, .int (nI w)), (9, .int (nI v)), (8, .int (nI u)), (7, .int kv), (6, .int (nI c)), (4, .long (im_dg r 68 o cap)), (0, .ref 2), (1, .int x), (2, .int (nI o)), (3, .int (nI (2 ^ o)))] [.int 0, .int (nI p), .ref 2] (N, hm_sh Ln g, s) _ Q
    refine hm_st hR ⟨hm_le rfl, rfl, hm_le rfl, hm_ltN hN rfl, hm_le rfl, hm_le rfl, (1, 6), by show 1 ≤ b.1 - 1; omega, by show 6 ≤ b.2 - 6; omega, ?_⟩
    refine sp_10 hR hN (hm_le rfl) (hm_le rfl) ?_
    refine im_AKq (im_a10 hT hS hN p1 p2).1 fun N g s hN hS => ?_
    show R 196 401 [(17, .int (nI p)), (16, .int (nI q)), (15, .int la), (14, .int (nI (fb_ct (im_al r) 80))), (13, .int (nI (fb_ct (im_al r) 80))), (12, .int (nI m)), (11, .int (nI h)), (10, .int (nI w)), (9, .int (nI v)), (8, .int (nI u)), (7, .int kv), (6, .int (nI c)), (4, .long (im_dg r 68 o cap)), (0, .ref 2), (1, .int x), (2, .int (nI o)), (3, .int (nI (2 ^ o)))] [.int (nI (im_X r p))] (N, hm_sh Ln g, s) _ Q
    refine hm_st hR (hm_st hR (hm_st hR (hm_st hR (hm_st hR (?_)))))
    show R 196 408 [(17, .int (nI p)), (16, .int (nI q)), (15, .int la), (14, .int (nI (fb_ct (im_al r) 80))), (13, .int (nI (fb_ct (im_al r) 80))), (12, .int (nI m)), (11, .int (nI h)), (10, .int (nI w)), (9, .int (nI v)), (8, .int (nI u)), (7, .int kv), (6, .int (nI c)), (4, .long (im_dg r 68 o cap)), (0, .ref 2), (1, .int x), (2, .int (nI o)), (3, .int (nI (2 ^ o)))] [.int 0, .int (nI p), .ref 2, .int ((nI (im_X r p)) - (nI u))] (N, hm_sh Ln g, s) _ Q
    refine hm_st hR ⟨hm_le rfl, rfl, hm_le rfl, hm_ltN hN rfl, hm_le rfl, hm_le rfl, (1, 6), by show 1 ≤ b.1 - 1 - 1; omega, by show 6 ≤ b.2 - 6 - 6; omega, ?_⟩
    refine sp_10 hR hN (hm_le rfl) (hm_le rfl) ?_
    refine im_AKq (im_a10 hT hS hN p1 p2).1 fun N g s hN hS => ?_
    show R 196 411 [(17, .int (nI p)), (16, .int (nI q)), (15, .int la), (14, .int (nI (fb_ct (im_al r) 80))), (13, .int (nI (fb_ct (im_al r) 80))), (12, .int (nI m)), (11, .int (nI h)), (10, .int (nI w)), (9, .int (nI v)), (8, .int (nI u)), (7, .int kv), (6, .int (nI c)), (4, .long (im_dg r 68 o cap)), (0, .ref 2), (1, .int x), (2, .int (nI o)), (3, .int (nI (2 ^ o)))] [.int (nI (im_X r p)), .int ((nI (im_X r p)) - (nI u))] (N, hm_sh Ln g, s) _ Q
    refine hm_st hR (hm_st hR (hm_st hR (hm_st hR (hm_st hR (hm_st hR (?_))))))
    show R 196 419 [(17, .int (nI p)), (16, .int (nI q)), (15, .int la), (14, .int (nI (fb_ct (im_al r) 80))), (13, .int (nI (fb_ct (im_al r) 80))), (12, .int (nI m)), (11, .int (nI h)), (10, .int (nI w)), (9, .int (nI v)), (8, .int (nI u)), (7, .int kv), (6, .int (nI c)), (4, .long (im_dg r 68 o cap)), (0, .ref 2), (1, .int x), (2, .int (nI o)), (3, .int (nI (2 ^ o)))] [.int 1, .int (nI p), .ref 2, .int (((nI (im_X r p)) - (nI u)) * ((nI (im_X r p)) - (nI u)))] (N, hm_sh Ln g, s) _ Q
    refine hm_st hR ⟨hm_le rfl, rfl, hm_le rfl, hm_ltN hN rfl, hm_le rfl, hm_le rfl, (1, 6), by show 1 ≤ b.1 - 1 - 1 - 1; omega, by show 6 ≤ b.2 - 6 - 6 - 6; omega, ?_⟩
    refine sp_10 hR hN (hm_le rfl) (hm_le rfl) ?_
    refine im_AKq (im_a10 hT hS hN p1 p2).2.1 fun N g s hN hS => ?_
    show R 196 422 [(17, .int (nI p)), (16, .int (nI q)), (15, .int la), (14, .int (nI (fb_ct (im_al r) 80))), (13, .int (nI (fb_ct (im_al r) 80))), (12, .int (nI m)), (11, .int (nI h)), (10, .int (nI w)), (9, .int (nI v)), (8, .int (nI u)), (7, .int kv), (6, .int (nI c)), (4, .long (im_dg r 68 o cap)), (0, .ref 2), (1, .int x), (2, .int (nI o)), (3, .int (nI (2 ^ o)))] [.int (nI (im_Y r p)), .int (((nI (im_X r p)) - (nI u)) * ((nI (im_X r p)) - (nI u)))] (N, hm_sh Ln g, s) _ Q
    refine hm_st hR (hm_st hR (hm_st hR (hm_st hR (hm_st hR (?_)))))
    show R 196 429 [(17, .int (nI p)), (16, .int (nI q)), (15, .int la), (14, .int (nI (fb_ct (im_al r) 80))), (13, .int (nI (fb_ct (im_al r) 80))), (12, .int (nI m)), (11, .int (nI h)), (10, .int (nI w)), (9, .int (nI v)), (8, .int (nI u)), (7, .int kv), (6, .int (nI c)), (4, .long (im_dg r 68 o cap)), (0, .ref 2), (1, .int x), (2, .int (nI o)), (3, .int (nI (2 ^ o)))] [.int 1, .int (nI p), .ref 2, .int ((nI (im_Y r p)) - (nI v)), .int (((nI (im_X r p)) - (nI u)) * ((nI (im_X r p)) - (nI u)))] (N, hm_sh Ln g, s) _ Q
    refine hm_st hR ⟨hm_le rfl, rfl, hm_le rfl, hm_ltN hN rfl, hm_le rfl, hm_le rfl, (1, 6), by show 1 ≤ b.1 - 1 - 1 - 1 - 1; omega, by show 6 ≤ b.2 - 6 - 6 - 6 - 6; omega, ?_⟩
    refine sp_10 hR hN (hm_le rfl) (hm_le rfl) ?_
    refine im_AKq (im_a10 hT hS hN p1 p2).2.1 fun N g s hN hS => ?_
    show R 196 432 [(17, .int (nI p)), (16, .int (nI q)), (15, .int la), (14, .int (nI (fb_ct (im_al r) 80))), (13, .int (nI (fb_ct (im_al r) 80))), (12, .int (nI m)), (11, .int (nI h)), (10, .int (nI w)), (9, .int (nI v)), (8, .int (nI u)), (7, .int kv), (6, .int (nI c)), (4, .long (im_dg r 68 o cap)), (0, .ref 2), (1, .int x), (2, .int (nI o)), (3, .int (nI (2 ^ o)))] [.int (nI (im_Y r p)), .int ((nI (im_Y r p)) - (nI v)), .int (((nI (im_X r p)) - (nI u)) * ((nI (im_X r p)) - (nI u)))] (N, hm_sh Ln g, s) _ Q
    refine hm_st hR (hm_st hR (hm_st hR (hm_st hR (?_))))
    show R 196 437 [(17, .int (nI p)), (16, .int (nI q)), (15, .int la), (14, .int (nI (fb_ct (im_al r) 80))), (13, .int (nI (fb_ct (im_al r) 80))), (12, .int (nI m)), (11, .int (nI h)), (10, .int (nI w)), (9, .int (nI v)), (8, .int (nI u)), (7, .int kv), (6, .int (nI c)), (4, .long (im_dg r 68 o cap)), (0, .ref 2), (1, .int x), (2, .int (nI o)), (3, .int (nI (2 ^ o)))] [.int ((((nI (im_X r p)) - (nI u)) * ((nI (im_X r p)) - (nI u))) + (((nI (im_Y r p)) - (nI v)) * ((nI (im_Y r p)) - (nI v))))] (N, hm_sh Ln g, s) _ Q
    rw [show ((((nI (im_X r p)) - (nI u)) * ((nI (im_X r p)) - (nI u))) + (((nI (im_Y r p)) - (nI v)) * ((nI (im_Y r p)) - (nI v)))) = nI (im_fr r u v p) from by rw [im_sq, im_sq, nI_add]; rfl]
    refine hm_st hR (hm_st hR (hm_st hR (?_)))
    show R 196 443 [(18, .int (nI (im_fr r u v p))), (17, .int (nI p)), (16, .int (nI q)), (15, .int la), (14, .int (nI (fb_ct (im_al r) 80))), (13, .int (nI (fb_ct (im_al r) 80))), (12, .int (nI m)), (11, .int (nI h)), (10, .int (nI w)), (9, .int (nI v)), (8, .int (nI u)), (7, .int kv), (6, .int (nI c)), (4, .long (im_dg r 68 o cap)), (0, .ref 2), (1, .int x), (2, .int (nI o)), (3, .int (nI (2 ^ o)))] [.int la, .int (nI (im_fr r u v p))] (N, hm_sh Ln g, s) _ Q
    refine hm_st hR ⟨fun cc => absurd cc (hlt), fun _ => ?_⟩
    show R 196 446 [(18, .int (nI (im_fr r u v p))), (17, .int (nI p)), (16, .int (nI q)), (15, .int la), (14, .int (nI (fb_ct (im_al r) 80))), (13, .int (nI (fb_ct (im_al r) 80))), (12, .int (nI m)), (11, .int (nI h)), (10, .int (nI w)), (9, .int (nI v)), (8, .int (nI u)), (7, .int kv), (6, .int (nI c)), (4, .long (im_dg r 68 o cap)), (0, .ref 2), (1, .int x), (2, .int (nI o)), (3, .int (nI (2 ^ o)))] [] (N, hm_sh Ln g, s) _ Q
    refine hm_st hR (hm_st hR (hm_st hR (hm_st hR (?_))))
    show R 196 453 [(18, .int (nI (im_fr r u v p))), (17, .int (nI p)), (16, .int (nI q)), (15, .int la), (14, .int (nI (fb_ct (im_al r) 80))), (13, .int (nI (fb_ct (im_al r) 80))), (12, .int (nI m)), (11, .int (nI h)), (10, .int (nI w)), (9, .int (nI v)), (8, .int (nI u)), (7, .int kv), (6, .int (nI c)), (4, .long (im_dg r 68 o cap)), (0, .ref 2), (1, .int x), (2, .int (nI o)), (3, .int (nI (2 ^ o)))] [.int (nI q), .int (nI v), .int (nI u), .ref 2] (N, hm_sh Ln g, s) _ Q
    obtain ⟨k, k1, k2, k3⟩ := im_a16 (g := g) hT hS ho6 hc hN hu hv (show q < fb_ct (im_al r) 80 by omega)
    refine hm_st hR ⟨hm_le rfl, rfl, hm_le rfl, hm_ltN hN rfl, hm_le rfl, hm_le rfl, (2, 10), by show 2 ≤ b.1 - 1 - 1 - 1 - 1 - 1; omega, by show 10 ≤ b.2 - 6 - 6 - 6 - 6 - 6; omega, ?_⟩
    refine sp_16 hR hN (hm_le rfl) (hm_le rfl) ?_
    refine im_AKq k3 fun N g s hN hS => ?_
    show R 196 456 [(18, .int (nI (im_fr r u v p))), (17, .int (nI p)), (16, .int (nI q)), (15, .int la), (14, .int (nI (fb_ct (im_al r) 80))), (13, .int (nI (fb_ct (im_al r) 80))), (12, .int (nI m)), (11, .int (nI h)), (10, .int (nI w)), (9, .int (nI v)), (8, .int (nI u)), (7, .int kv), (6, .int (nI c)), (4, .long (im_dg r 68 o cap)), (0, .ref 2), (1, .int x), (2, .int (nI o)), (3, .int (nI (2 ^ o)))] [.int (nI k)] (N, hm_sh Ln g, s) _ Q
    refine hm_st hR (?_)
    show R 196 457 [(18, .int (nI (im_fr r u v p))), (17, .int (nI p)), (16, .int (nI q)), (15, .int la), (14, .int (nI (fb_ct (im_al r) 80))), (13, .int (nI (fb_ct (im_al r) 80))), (12, .int (nI m)), (11, .int (nI h)), (10, .int (nI w)), (9, .int (nI v)), (8, .int (nI u)), (7, .int kv), (6, .int (nI c)), (4, .long (im_dg r 68 o cap)), (0, .ref 2), (1, .int x), (2, .int (nI o)), (3, .int (nI (2 ^ o)))] [.int (nI 1), .int (nI k)] (N, hm_sh Ln g, s) _ Q
    refine hm_st hR ⟨fun cc => absurd cc (nI_nlt k1 (by omega)), fun _ => ?_⟩
    show R 196 460 [(18, .int (nI (im_fr r u v p))), (17, .int (nI p)), (16, .int (nI q)), (15, .int la), (14, .int (nI (fb_ct (im_al r) 80))), (13, .int (nI (fb_ct (im_al r) 80))), (12, .int (nI m)), (11, .int (nI h)), (10, .int (nI w)), (9, .int (nI v)), (8, .int (nI u)), (7, .int kv), (6, .int (nI c)), (4, .long (im_dg r 68 o cap)), (0, .ref 2), (1, .int x), (2, .int (nI o)), (3, .int (nI (2 ^ o)))] [] (N, hm_sh Ln g, s) _ Q
    refine hm_st hR (hm_st hR (hm_st hR (?_)))
    show R 196 464 [(18, .int (nI (im_fr r u v p))), (17, .int (nI p)), (16, .int (nI q)), (15, .int la), (14, .int (nI (fb_ct (im_al r) 80))), (13, .int (nI (fb_ct (im_al r) 80))), (12, .int (nI m)), (11, .int (nI h)), (10, .int (nI w)), (9, .int (nI v)), (8, .int (nI u)), (7, .int kv), (6, .int (nI c)), (4, .long (im_dg r 68 o cap)), (0, .ref 2), (1, .int x), (2, .int (nI o)), (3, .int (nI (2 ^ o)))] [.int 1, .int (nI p), .ref 2] (N, hm_sh Ln g, s) _ Q
    refine hm_st hR ⟨hm_le rfl, rfl, hm_le rfl, hm_ltN hN rfl, hm_le rfl, hm_le rfl, (1, 6), by show 1 ≤ b.1 - 1 - 1 - 1 - 1 - 1 - 2; omega, by show 6 ≤ b.2 - 6 - 6 - 6 - 6 - 6 - 10; omega, ?_⟩
    refine sp_25 hR hN (hm_le rfl) (hm_le rfl) ?_
    refine im_AKq (im_a25 hT hS ho6 hN p1 p2) fun N g s hN hS => ?_
    show R 196 467 [(18, .int (nI (im_fr r u v p))), (17, .int (nI p)), (16, .int (nI q)), (15, .int la), (14, .int (nI (fb_ct (im_al r) 80))), (13, .int (nI (fb_ct (im_al r) 80))), (12, .int (nI m)), (11, .int (nI h)), (10, .int (nI w)), (9, .int (nI v)), (8, .int (nI u)), (7, .int kv), (6, .int (nI c)), (4, .long (im_dg r 68 o cap)), (0, .ref 2), (1, .int x), (2, .int (nI o)), (3, .int (nI (2 ^ o)))] [.int (nI o)] (N, hm_sh Ln g, s) _ Q
    refine hm_st hR (?_)
    show R 196 468 [(18, .int (nI (im_fr r u v p))), (17, .int (nI p)), (16, .int (nI q)), (15, .int la), (14, .int (nI (fb_ct (im_al r) 80))), (13, .int (nI (fb_ct (im_al r) 80))), (12, .int (nI m)), (11, .int (nI h)), (10, .int (nI w)), (9, .int (nI v)), (8, .int (nI u)), (7, .int kv), (6, .int (nI c)), (4, .long (im_dg r 68 o cap)), (0, .ref 2), (1, .int x), (2, .int (nI o)), (3, .int (nI (2 ^ o)))] [.int (nI o), .int (nI o)] (N, hm_sh Ln g, s) _ Q
    refine hm_st hR ⟨fun cc => absurd cc (fun z => z rfl), fun _ => ?_⟩
    show R 196 471 [(18, .int (nI (im_fr r u v p))), (17, .int (nI p)), (16, .int (nI q)), (15, .int la), (14, .int (nI (fb_ct (im_al r) 80))), (13, .int (nI (fb_ct (im_al r) 80))), (12, .int (nI m)), (11, .int (nI h)), (10, .int (nI w)), (9, .int (nI v)), (8, .int (nI u)), (7, .int kv), (6, .int (nI c)), (4, .long (im_dg r 68 o cap)), (0, .ref 2), (1, .int x), (2, .int (nI o)), (3, .int (nI (2 ^ o)))] [] (N, hm_sh Ln g, s) _ Q
    refine hm_st hR (hm_st hR (hm_st hR (?_)))
    show R 196 475 [(18, .int (nI (im_fr r u v p))), (17, .int (nI p)), (16, .int (nI q)), (15, .int la), (14, .int (nI (fb_ct (im_al r) 80))), (13, .int (nI (fb_ct (im_al r) 80))), (12, .int (nI m)), (11, .int (nI h)), (10, .int (nI w)), (9, .int (nI v)), (8, .int (nI u)), (7, .int kv), (6, .int (nI c)), (4, .long (im_dg r 68 o cap)), (0, .ref 2), (1, .int x), (2, .int (nI o)), (3, .int (nI (2 ^ o)))] [.int 3, .int (nI p), .ref 2] (N, hm_sh Ln g, s) _ Q
    refine hm_st hR ⟨hm_le rfl, rfl, hm_le rfl, hm_ltN hN rfl, hm_le rfl, hm_le rfl, (1, 6), by show 1 ≤ b.1 - 1 - 1 - 1 - 1 - 1 - 2 - 1; omega, by show 6 ≤ b.2 - 6 - 6 - 6 - 6 - 6 - 10 - 6; omega, ?_⟩
    refine sp_10 hR hN (hm_le rfl) (hm_le rfl) ?_
    refine im_AKq (im_a10 hT hS hN p1 p2).2.2 fun N g s hN hS => ?_
    show R 196 478 [(18, .int (nI (im_fr r u v p))), (17, .int (nI p)), (16, .int (nI q)), (15, .int la), (14, .int (nI (fb_ct (im_al r) 80))), (13, .int (nI (fb_ct (im_al r) 80))), (12, .int (nI m)), (11, .int (nI h)), (10, .int (nI w)), (9, .int (nI v)), (8, .int (nI u)), (7, .int kv), (6, .int (nI c)), (4, .long (im_dg r 68 o cap)), (0, .ref 2), (1, .int x), (2, .int (nI o)), (3, .int (nI (2 ^ o)))] [.int 1] (N, hm_sh Ln g, s) _ Q
    refine hm_st hR (?_)
    show R 196 479 [(18, .int (nI (im_fr r u v p))), (17, .int (nI p)), (16, .int (nI q)), (15, .int la), (14, .int (nI (fb_ct (im_al r) 80))), (13, .int (nI (fb_ct (im_al r) 80))), (12, .int (nI m)), (11, .int (nI h)), (10, .int (nI w)), (9, .int (nI v)), (8, .int (nI u)), (7, .int kv), (6, .int (nI c)), (4, .long (im_dg r 68 o cap)), (0, .ref 2), (1, .int x), (2, .int (nI o)), (3, .int (nI (2 ^ o)))] [.int 1, .int 1] (N, hm_sh Ln g, s) _ Q
    refine hm_st hR ⟨fun _ => ?_, fun cc => absurd (rfl) cc⟩
    show R 196 484 [(18, .int (nI (im_fr r u v p))), (17, .int (nI p)), (16, .int (nI q)), (15, .int la), (14, .int (nI (fb_ct (im_al r) 80))), (13, .int (nI (fb_ct (im_al r) 80))), (12, .int (nI m)), (11, .int (nI h)), (10, .int (nI w)), (9, .int (nI v)), (8, .int (nI u)), (7, .int kv), (6, .int (nI c)), (4, .long (im_dg r 68 o cap)), (0, .ref 2), (1, .int x), (2, .int (nI o)), (3, .int (nI (2 ^ o)))] [] (N, hm_sh Ln g, s) _ Q
    refine hm_st hR (hm_st hR (hm_st hR (hm_st hR (?_))))
    show R 196 375 [(16, .int ((nI q) + 1)), (15, .int (nI (im_fr r u v p))), (18, .int (nI (im_fr r u v p))), (17, .int (nI p)), (14, .int (nI (fb_ct (im_al r) 80))), (13, .int (nI (fb_ct (im_al r) 80))), (12, .int (nI m)), (11, .int (nI h)), (10, .int (nI w)), (9, .int (nI v)), (8, .int (nI u)), (7, .int kv), (6, .int (nI c)), (4, .long (im_dg r 68 o cap)), (0, .ref 2), (1, .int x), (2, .int (nI o)), (3, .int (nI (2 ^ o)))] [] (N, hm_sh Ln g, s) _ Q
    rw [nI_1]
    refine hm_lvS hR (lv' := [(16, .int (nI (q + 1))), (15, .int (nI (im_fr r u v p))), (14, .int (nI (fb_ct (im_al r) 80))), (13, .int (nI (fb_ct (im_al r) 80))), (12, .int (nI m)), (11, .int (nI h)), (10, .int (nI w)), (9, .int (nI v)), (8, .int (nI u)), (7, .int kv), (6, .int (nI c)), (4, .long (im_dg r 68 o cap)), (0, .ref 2), (1, .int x), (2, .int (nI o)), (3, .int (nI (2 ^ o)))]) (by intro q hq; simp only [List.mem_cons, List.not_mem_nil, or_false] at hq ⊢; rcases hq with rfl | rfl | rfl | rfl | rfl | rfl | rfl | rfl | rfl | rfl | rfl | rfl | rfl | rfl | rfl | rfl <;> simp) ?_
    refine ih (q + 1) _ N g s _ (by omega) (Or.inr ⟨p, p1, p2, by omega, rfl⟩) hN hS (by show 10 * n ≤ b.1 - 1 - 1 - 1 - 1 - 1 - 2 - 1 - 1; omega) (by show 60 * n ≤ b.2 - 6 - 6 - 6 - 6 - 6 - 10 - 6 - 6; omega) fun la N2 g2 s2 b2 h1 h2 h3 h4 => K la N2 g2 s2 b2 h1 h2 ?_ ?_
    · have h5 : b.1 - 1 - 1 - 1 - 1 - 1 - 2 - 1 - 1 ≤ b2.1 + 10 * n := h3
      omega
    · have h5 : b.2 - 6 - 6 - 6 - 6 - 6 - 10 - 6 - 6 ≤ b2.2 + 60 * n := h4
      omega
theorem aw_j (hR : hm_Cm R) (hT : im_TI r o c cap P H V M) (ho1 : 1 ≤ o) (ho : o ≤ 4) (hc : c < 6) {N : Nat} {g : Nat → hm_Sh} {s : hm_St} {b : hm_B} {la q : Int32} (hN : 68 ≤ N) (hS : im_SM r s (fb_ct (im_al r) 80)) (hb1 : 20 ≤ b.1) (hb2 : 100 ≤ b.2) (hQ : ∀ (N : Nat) (g : Nat → hm_Sh) (s : hm_St), 68 ≤ N → im_SM r s (fb_ct (im_al r) 80) → Q (.inr (some (.int 1))) (N, hm_sh Ln g, s)) : R 196 549 [(16, .int q), (15, .int la), (14, .int (nI (fb_ct (im_al r) 80))), (13, .int (nI (fb_ct (im_al r) 80))), (12, .int (nI m)), (11, .int (nI h)), (10, .int (nI w)), (9, .int (nI v)), (8, .int (nI u)), (7, .int kv), (6, .int (nI c)), (4, .long (im_dg r 68 o cap)), (0, .ref 2), (1, .int x), (2, .int (nI o)), (3, .int (nI (2 ^ o)))] [] (N, hm_sh Ln g, s) b Q := by
  have ho6 : o < 6 := by omega
  obtain ⟨k, k1, k2, k3⟩ := im_rv1 hT ho6 (Nat.le_refl 68)
  refine hm_st hR (hm_st hR (hm_st hR (?_)))
  show R 196 552 [(16, .int q), (15, .int la), (14, .int (nI (fb_ct (im_al r) 80))), (13, .int (nI (fb_ct (im_al r) 80))), (12, .int (nI m)), (11, .int (nI h)), (10, .int (nI w)), (9, .int (nI v)), (8, .int (nI u)), (7, .int kv), (6, .int (nI c)), (4, .long (im_dg r 68 o cap)), (0, .ref 2), (1, .int x), (2, .int (nI o)), (3, .int (nI (2 ^ o)))] [.int 1, .int 0, .ref 2] (N, hm_sh Ln g, s) _ Q
  refine hm_st hR ⟨hm_le rfl, rfl, hm_le rfl, hm_ltN hN rfl, hm_le rfl, hm_le rfl, (1, 6), by show 1 ≤ b.1; omega, by show 6 ≤ b.2; omega, ?_⟩
  refine sp_19 hR hN (hm_le rfl) (hm_le rfl) ?_
  refine im_AKq (im_a19 hT hS ho6 hc hN) fun N g s hN hS => ?_
  show R 196 555 [(16, .int q), (15, .int la), (14, .int (nI (fb_ct (im_al r) 80))), (13, .int (nI (fb_ct (im_al r) 80))), (12, .int (nI m)), (11, .int (nI h)), (10, .int (nI w)), (9, .int (nI v)), (8, .int (nI u)), (7, .int kv), (6, .int (nI c)), (4, .long (im_dg r 68 o cap)), (0, .ref 2), (1, .int x), (2, .int (nI o)), (3, .int (nI (2 ^ o)))] [.int 0] (N, hm_sh Ln g, s) _ Q
  refine hm_st hR ⟨fun cc => absurd cc (fun z => z rfl), fun _ => ?_⟩
  show R 196 558 [(16, .int q), (15, .int la), (14, .int (nI (fb_ct (im_al r) 80))), (13, .int (nI (fb_ct (im_al r) 80))), (12, .int (nI m)), (11, .int (nI h)), (10, .int (nI w)), (9, .int (nI v)), (8, .int (nI u)), (7, .int kv), (6, .int (nI c)), (4, .long (im_dg r 68 o cap)), (0, .ref 2), (1, .int x), (2, .int (nI o)), (3, .int (nI (2 ^ o)))] [] (N, hm_sh Ln g, s) _ Q
  refine hm_st hR (hm_st hR (?_))
  show R 196 560 [(16, .int q), (15, .int la), (14, .int (nI (fb_ct (im_al r) 80))), (13, .int (nI (fb_ct (im_al r) 80))), (12, .int (nI m)), (11, .int (nI h)), (10, .int (nI w)), (9, .int (nI v)), (8, .int (nI u)), (7, .int kv), (6, .int (nI c)), (4, .long (im_dg r 68 o cap)), (0, .ref 2), (1, .int x), (2, .int (nI o)), (3, .int (nI (2 ^ o)))] [.int 0, .ref 2] (N, hm_sh Ln g, s) _ Q
  refine hm_st hR ⟨hm_le rfl, rfl, hm_le rfl, hm_ltN hN rfl, hm_le rfl, hm_le rfl, (2, 10), by show 2 ≤ b.1 - 1; omega, by show 10 ≤ b.2 - 6; omega, ?_⟩
  refine sp_27 hR hN (hm_le rfl) (hm_le rfl) (im_hO hT hS ho6) ?_
  refine im_AKq (im_a27 hT hS hN) fun N g s hN hS => ?_
  show R 196 563 [(16, .int q), (15, .int la), (14, .int (nI (fb_ct (im_al r) 80))), (13, .int (nI (fb_ct (im_al r) 80))), (12, .int (nI m)), (11, .int (nI h)), (10, .int (nI w)), (9, .int (nI v)), (8, .int (nI u)), (7, .int kv), (6, .int (nI c)), (4, .long (im_dg r 68 o cap)), (0, .ref 2), (1, .int x), (2, .int (nI o)), (3, .int (nI (2 ^ o)))] [.int (im_rv r 68 o cap)] (N, hm_sh Ln g, s) _ Q
  rw [k3]
  refine hm_st hR (?_)
  show R 196 564 [(16, .int q), (15, .int la), (14, .int (nI (fb_ct (im_al r) 80))), (13, .int (nI (fb_ct (im_al r) 80))), (12, .int (nI m)), (11, .int (nI h)), (10, .int (nI w)), (9, .int (nI v)), (8, .int (nI u)), (7, .int kv), (6, .int (nI c)), (4, .long (im_dg r 68 o cap)), (0, .ref 2), (1, .int x), (2, .int (nI o)), (3, .int (nI (2 ^ o)))] [.int (nI 1), .int (nI k)] (N, hm_sh Ln g, s) _ Q
  refine hm_st hR ⟨fun cc => absurd cc (nI_nlt k1 (by omega)), fun _ => ?_⟩
  show R 196 567 [(16, .int q), (15, .int la), (14, .int (nI (fb_ct (im_al r) 80))), (13, .int (nI (fb_ct (im_al r) 80))), (12, .int (nI m)), (11, .int (nI h)), (10, .int (nI w)), (9, .int (nI v)), (8, .int (nI u)), (7, .int kv), (6, .int (nI c)), (4, .long (im_dg r 68 o cap)), (0, .ref 2), (1, .int x), (2, .int (nI o)), (3, .int (nI (2 ^ o)))] [] (N, hm_sh Ln g, s) _ Q
  refine hm_st hR (hm_st hR (hm_st hR (hm_st hR (hm_st hR (?_)))))
  show R 196 572 [(16, .int q), (15, .int la), (14, .int (nI (fb_ct (im_al r) 80))), (13, .int (nI (fb_ct (im_al r) 80))), (12, .int (nI m)), (11, .int (nI h)), (10, .int (nI w)), (9, .int (nI v)), (8, .int (nI u)), (7, .int kv), (6, .int (nI c)), (4, .long (im_dg r 68 o cap)), (0, .ref 2), (1, .int x), (2, .int (nI o)), (3, .int (nI (2 ^ o)))] [.int (nI (2 ^ o)), .int (nI (2 ^ o)), .int 0, .int 0, .ref 2] (N, hm_sh Ln g, s) _ Q
  refine hm_st hR ⟨hm_le rfl, rfl, hm_le rfl, hm_ltN hN rfl, hm_le rfl, hm_le rfl, (2, 10), by show 2 ≤ b.1 - 1 - 2; omega, by show 10 ≤ b.2 - 6 - 10; omega, ?_⟩
  refine sp_28 hR hN (hm_le rfl) (hm_le rfl) (im_hO hT hS ho6) ?_
  refine im_AKq (im_a28 hT hS ho6 hN) fun N g s hN hS => ?_
  show R 196 575 [(16, .int q), (15, .int la), (14, .int (nI (fb_ct (im_al r) 80))), (13, .int (nI (fb_ct (im_al r) 80))), (12, .int (nI m)), (11, .int (nI h)), (10, .int (nI w)), (9, .int (nI v)), (8, .int (nI u)), (7, .int kv), (6, .int (nI c)), (4, .long (im_dg r 68 o cap)), (0, .ref 2), (1, .int x), (2, .int (nI o)), (3, .int (nI (2 ^ o)))] [.int (im_rv r 68 o cap)] (N, hm_sh Ln g, s) _ Q
  refine hm_st hR (hm_st hR (?_))
  show R 196 577 [(16, .int q), (15, .int la), (14, .int (nI (fb_ct (im_al r) 80))), (13, .int (nI (fb_ct (im_al r) 80))), (12, .int (nI m)), (11, .int (nI h)), (10, .int (nI w)), (9, .int (nI v)), (8, .int (nI u)), (7, .int kv), (6, .int (nI c)), (4, .long (im_dg r 68 o cap)), (0, .ref 2), (1, .int x), (2, .int (nI o)), (3, .int (nI (2 ^ o)))] [.int 0, .ref 2, .int (im_rv r 68 o cap)] (N, hm_sh Ln g, s) _ Q
  refine hm_st hR ⟨hm_le rfl, rfl, hm_le rfl, hm_ltN hN rfl, hm_le rfl, hm_le rfl, (2, 10), by show 2 ≤ b.1 - 1 - 2 - 2; omega, by show 10 ≤ b.2 - 6 - 10 - 10; omega, ?_⟩
  refine sp_27 hR hN (hm_le rfl) (hm_le rfl) (im_hO hT hS ho6) ?_
  refine im_AKq (im_a27 hT hS hN) fun N g s hN hS => ?_
  show R 196 580 [(16, .int q), (15, .int la), (14, .int (nI (fb_ct (im_al r) 80))), (13, .int (nI (fb_ct (im_al r) 80))), (12, .int (nI m)), (11, .int (nI h)), (10, .int (nI w)), (9, .int (nI v)), (8, .int (nI u)), (7, .int kv), (6, .int (nI c)), (4, .long (im_dg r 68 o cap)), (0, .ref 2), (1, .int x), (2, .int (nI o)), (3, .int (nI (2 ^ o)))] [.int (im_rv r 68 o cap), .int (im_rv r 68 o cap)] (N, hm_sh Ln g, s) _ Q
  refine hm_st hR ⟨fun cc => absurd cc (fun z => z rfl), fun _ => ?_⟩
  show R 196 583 [(16, .int q), (15, .int la), (14, .int (nI (fb_ct (im_al r) 80))), (13, .int (nI (fb_ct (im_al r) 80))), (12, .int (nI m)), (11, .int (nI h)), (10, .int (nI w)), (9, .int (nI v)), (8, .int (nI u)), (7, .int kv), (6, .int (nI c)), (4, .long (im_dg r 68 o cap)), (0, .ref 2), (1, .int x), (2, .int (nI o)), (3, .int (nI (2 ^ o)))] [] (N, hm_sh Ln g, s) _ Q
  refine hm_st hR (?_)
  show R 196 584 [(16, .int q), (15, .int la), (14, .int (nI (fb_ct (im_al r) 80))), (13, .int (nI (fb_ct (im_al r) 80))), (12, .int (nI m)), (11, .int (nI h)), (10, .int (nI w)), (9, .int (nI v)), (8, .int (nI u)), (7, .int kv), (6, .int (nI c)), (4, .long (im_dg r 68 o cap)), (0, .ref 2), (1, .int x), (2, .int (nI o)), (3, .int (nI (2 ^ o)))] [.ref 2] (N, hm_sh Ln g, s) _ Q
  refine hm_st hR ⟨hm_le rfl, rfl, hm_le rfl, hm_ltN hN rfl, hm_le rfl, hm_le rfl, (8, 32), by show 8 ≤ b.1 - 1 - 2 - 2 - 2; omega, by show 32 ≤ b.2 - 6 - 10 - 10 - 10; omega, ?_⟩
  refine sp_30 hR hN (hm_le rfl) (hm_le rfl) (im_hO hT hS ho6) (im_hE hT hS ho6 hc).1 (im_hE hT hS ho6 hc).2 (im_a30 hT hS ho6 hc hN fun N g s hN hS => ?_)
  show R 196 587 [(16, .int q), (15, .int la), (14, .int (nI (fb_ct (im_al r) 80))), (13, .int (nI (fb_ct (im_al r) 80))), (12, .int (nI m)), (11, .int (nI h)), (10, .int (nI w)), (9, .int (nI v)), (8, .int (nI u)), (7, .int kv), (6, .int (nI c)), (4, .long (im_dg r 68 o cap)), (0, .ref 2), (1, .int x), (2, .int (nI o)), (3, .int (nI (2 ^ o)))] [.long (im_dg r 68 o cap)] (N, hm_sh Ln g, s) _ Q
  refine hm_st hR (?_)
  show R 196 589 [(16, .int q), (15, .int la), (14, .int (nI (fb_ct (im_al r) 80))), (13, .int (nI (fb_ct (im_al r) 80))), (12, .int (nI m)), (11, .int (nI h)), (10, .int (nI w)), (9, .int (nI v)), (8, .int (nI u)), (7, .int kv), (6, .int (nI c)), (4, .long (im_dg r 68 o cap)), (0, .ref 2), (1, .int x), (2, .int (nI o)), (3, .int (nI (2 ^ o)))] [.long (im_dg r 68 o cap), .long (im_dg r 68 o cap)] (N, hm_sh Ln g, s) _ Q
  refine hm_st hR ?_
  show R 196 590 [(16, .int q), (15, .int la), (14, .int (nI (fb_ct (im_al r) 80))), (13, .int (nI (fb_ct (im_al r) 80))), (12, .int (nI m)), (11, .int (nI h)), (10, .int (nI w)), (9, .int (nI v)), (8, .int (nI u)), (7, .int kv), (6, .int (nI c)), (4, .long (im_dg r 68 o cap)), (0, .ref 2), (1, .int x), (2, .int (nI o)), (3, .int (nI (2 ^ o)))] [.int (lg_cmp (im_dg r 68 o cap) (im_dg r 68 o cap))] (N, hm_sh Ln g, s) _ Q
  rw [im_cmp]
  refine hm_st hR ⟨fun cc => absurd cc (fun z => z rfl), fun _ => ?_⟩
  show R 196 593 [(16, .int q), (15, .int la), (14, .int (nI (fb_ct (im_al r) 80))), (13, .int (nI (fb_ct (im_al r) 80))), (12, .int (nI m)), (11, .int (nI h)), (10, .int (nI w)), (9, .int (nI v)), (8, .int (nI u)), (7, .int kv), (6, .int (nI c)), (4, .long (im_dg r 68 o cap)), (0, .ref 2), (1, .int x), (2, .int (nI o)), (3, .int (nI (2 ^ o)))] [] (N, hm_sh Ln g, s) _ Q
  refine hm_st hR (hm_st hR (?_))
  show R 196 598 [(16, .int q), (15, .int la), (14, .int (nI (fb_ct (im_al r) 80))), (13, .int (nI (fb_ct (im_al r) 80))), (12, .int (nI m)), (11, .int (nI h)), (10, .int (nI w)), (9, .int (nI v)), (8, .int (nI u)), (7, .int kv), (6, .int (nI c)), (4, .long (im_dg r 68 o cap)), (0, .ref 2), (1, .int x), (2, .int (nI o)), (3, .int (nI (2 ^ o)))] [.int 1] (N, hm_sh Ln g, s) _ Q
  exact hm_st hR ⟨fun _ => Or.inr rfl, hQ N g s hN hS⟩
theorem aw_i (hR : hm_Cm R) (hT : im_TI r o c cap P H V M) (ho1 : 1 ≤ o) (ho : o ≤ 4) (hc : c < 6) {N : Nat} {g : Nat → hm_Sh} {s : hm_St} {b : hm_B} {la q : Int32} (hu : u < 2 ^ o) (hv : v < 2 ^ o) (hN : 68 ≤ N) (hS : im_SM r s (fb_ct (im_al r) 80)) (hb1 : 30 ≤ b.1) (hb2 : 150 ≤ b.2) (hQ : ∀ (N : Nat) (g : Nat → hm_Sh) (s : hm_St), 68 ≤ N → im_SM r s (fb_ct (im_al r) 80) → Q (.inr (some (.int 1))) (N, hm_sh Ln g, s)) : R 196 494 [(16, .int q), (15, .int la), (14, .int (nI (fb_ct (im_al r) 80))), (13, .int (nI (fb_ct (im_al r) 80))), (12, .int (nI m)), (11, .int (nI h)), (10, .int (nI w)), (9, .int (nI v)), (8, .int (nI u)), (7, .int kv), (6, .int (nI c)), (4, .long (im_dg r 68 o cap)), (0, .ref 2), (1, .int x), (2, .int (nI o)), (3, .int (nI (2 ^ o)))] [] (N, hm_sh Ln g, s) b Q := by
  have ho6 : o < 6 := by omega
  have hl8 := fb_ct_le (im_al r) 80
  refine hm_st hR (hm_st hR (hm_st hR (hm_st hR (?_))))
  show R 196 501 [(16, .int q), (15, .int la), (14, .int (nI (fb_ct (im_al r) 80))), (13, .int (nI (fb_ct (im_al r) 80))), (12, .int (nI m)), (11, .int (nI h)), (10, .int (nI w)), (9, .int (nI v)), (8, .int (nI u)), (7, .int kv), (6, .int (nI c)), (4, .long (im_dg r 68 o cap)), (0, .ref 2), (1, .int x), (2, .int (nI o)), (3, .int (nI (2 ^ o)))] [.int (nI (fb_ct (im_al r) 80)), .int (nI v), .int (nI u), .ref 2] (N, hm_sh Ln g, s) _ Q
  refine hm_st hR ⟨hm_le rfl, rfl, hm_le rfl, hm_ltN hN rfl, hm_le rfl, hm_le rfl, (1, 6), by show 1 ≤ b.1; omega, by show 6 ≤ b.2; omega, ?_⟩
  refine sp_15 hR hN (hm_le rfl) (hm_le rfl) ?_
  refine im_AKq (im_a15n hT hS ho6 hN hu hv) fun N g s hN hS => ?_
  show R 196 504 [(16, .int q), (15, .int la), (14, .int (nI (fb_ct (im_al r) 80))), (13, .int (nI (fb_ct (im_al r) 80))), (12, .int (nI m)), (11, .int (nI h)), (10, .int (nI w)), (9, .int (nI v)), (8, .int (nI u)), (7, .int kv), (6, .int (nI c)), (4, .long (im_dg r 68 o cap)), (0, .ref 2), (1, .int x), (2, .int (nI o)), (3, .int (nI (2 ^ o)))] [.int (-1)] (N, hm_sh Ln g, s) _ Q
  refine hm_st hR (?_)
  show R 196 505 [(16, .int q), (15, .int la), (14, .int (nI (fb_ct (im_al r) 80))), (13, .int (nI (fb_ct (im_al r) 80))), (12, .int (nI m)), (11, .int (nI h)), (10, .int (nI w)), (9, .int (nI v)), (8, .int (nI u)), (7, .int kv), (6, .int (nI c)), (4, .long (im_dg r 68 o cap)), (0, .ref 2), (1, .int x), (2, .int (nI o)), (3, .int (nI (2 ^ o)))] [.int (-1), .int (-1)] (N, hm_sh Ln g, s) _ Q
  refine hm_st hR ⟨fun cc => absurd cc (fun z => z rfl), fun _ => ?_⟩
  show R 196 508 [(16, .int q), (15, .int la), (14, .int (nI (fb_ct (im_al r) 80))), (13, .int (nI (fb_ct (im_al r) 80))), (12, .int (nI m)), (11, .int (nI h)), (10, .int (nI w)), (9, .int (nI v)), (8, .int (nI u)), (7, .int kv), (6, .int (nI c)), (4, .long (im_dg r 68 o cap)), (0, .ref 2), (1, .int x), (2, .int (nI o)), (3, .int (nI (2 ^ o)))] [] (N, hm_sh Ln g, s) _ Q
  refine hm_st hR (hm_st hR (?_))
  show R 196 512 [(16, .int q), (15, .int la), (14, .int (nI (fb_ct (im_al r) 80))), (13, .int (nI (fb_ct (im_al r) 80))), (12, .int (nI m)), (11, .int (nI h)), (10, .int (nI w)), (9, .int (nI v)), (8, .int (nI u)), (7, .int kv), (6, .int (nI c)), (4, .long (im_dg r 68 o cap)), (0, .ref 2), (1, .int x), (2, .int (nI o)), (3, .int (nI (2 ^ o)))] [.int (nI (fb_ct (im_al r) 80)), .int (nI (fb_ct (im_al r) 80))] (N, hm_sh Ln g, s) _ Q
  refine hm_st hR ⟨fun cc => absurd cc (fun z => z rfl), fun _ => ?_⟩
  show R 196 515 [(16, .int q), (15, .int la), (14, .int (nI (fb_ct (im_al r) 80))), (13, .int (nI (fb_ct (im_al r) 80))), (12, .int (nI m)), (11, .int (nI h)), (10, .int (nI w)), (9, .int (nI v)), (8, .int (nI u)), (7, .int kv), (6, .int (nI c)), (4, .long (im_dg r 68 o cap)), (0, .ref 2), (1, .int x), (2, .int (nI o)), (3, .int (nI (2 ^ o)))] [] (N, hm_sh Ln g, s) _ Q
  refine hm_st hR (hm_st hR (hm_st hR (hm_st hR (hm_st hR (hm_st hR (?_))))))
  show R 196 522 [(16, .int q), (15, .int la), (14, .int (nI (fb_ct (im_al r) 80))), (13, .int (nI (fb_ct (im_al r) 80))), (12, .int (nI m)), (11, .int (nI h)), (10, .int (nI w)), (9, .int (nI v)), (8, .int (nI u)), (7, .int kv), (6, .int (nI c)), (4, .long (im_dg r 68 o cap)), (0, .ref 2), (1, .int x), (2, .int (nI o)), (3, .int (nI (2 ^ o)))] [.int 9, .int (nI (2 ^ o)), .int (nI (2 ^ o)), .int 0, .int 0, .ref 2] (N, hm_sh Ln g, s) _ Q
  refine hm_st hR ⟨hm_le rfl, rfl, hm_le rfl, hm_ltN hN rfl, hm_le rfl, hm_le rfl, (2, 10), by show 2 ≤ b.1 - 1; omega, by show 10 ≤ b.2 - 6; omega, ?_⟩
  refine sp_14 hR hN (hm_le rfl) (hm_le rfl) ?_
  refine im_AKq (im_a14 hT hS ho6 hN) fun N g s hN hS => ?_
  show R 196 525 [(16, .int q), (15, .int la), (14, .int (nI (fb_ct (im_al r) 80))), (13, .int (nI (fb_ct (im_al r) 80))), (12, .int (nI m)), (11, .int (nI h)), (10, .int (nI w)), (9, .int (nI v)), (8, .int (nI u)), (7, .int kv), (6, .int (nI c)), (4, .long (im_dg r 68 o cap)), (0, .ref 2), (1, .int x), (2, .int (nI o)), (3, .int (nI (2 ^ o)))] [.int (nI (fb_ct (im_al r) 80))] (N, hm_sh Ln g, s) _ Q
  refine hm_st hR (?_)
  show R 196 527 [(16, .int q), (15, .int la), (14, .int (nI (fb_ct (im_al r) 80))), (13, .int (nI (fb_ct (im_al r) 80))), (12, .int (nI m)), (11, .int (nI h)), (10, .int (nI w)), (9, .int (nI v)), (8, .int (nI u)), (7, .int kv), (6, .int (nI c)), (4, .long (im_dg r 68 o cap)), (0, .ref 2), (1, .int x), (2, .int (nI o)), (3, .int (nI (2 ^ o)))] [.int (nI (fb_ct (im_al r) 80)), .int (nI (fb_ct (im_al r) 80))] (N, hm_sh Ln g, s) _ Q
  refine hm_st hR ⟨fun cc => absurd cc (fun z => z rfl), fun _ => ?_⟩
  show R 196 530 [(16, .int q), (15, .int la), (14, .int (nI (fb_ct (im_al r) 80))), (13, .int (nI (fb_ct (im_al r) 80))), (12, .int (nI m)), (11, .int (nI h)), (10, .int (nI w)), (9, .int (nI v)), (8, .int (nI u)), (7, .int kv), (6, .int (nI c)), (4, .long (im_dg r 68 o cap)), (0, .ref 2), (1, .int x), (2, .int (nI o)), (3, .int (nI (2 ^ o)))] [] (N, hm_sh Ln g, s) _ Q
  refine hm_st hR (hm_st hR (?_))
  show R 196 533 [(16, .int q), (15, .int la), (14, .int (nI (fb_ct (im_al r) 80))), (13, .int (nI (fb_ct (im_al r) 80))), (12, .int (nI m)), (11, .int (nI h)), (10, .int (nI w)), (9, .int (nI v)), (8, .int (nI u)), (7, .int kv), (6, .int (nI c)), (4, .long (im_dg r 68 o cap)), (0, .ref 2), (1, .int x), (2, .int (nI o)), (3, .int (nI (2 ^ o)))] [.int 80, .ref 2] (N, hm_sh Ln g, s) _ Q
  refine hm_st hR ⟨hm_le rfl, rfl, hm_le rfl, hm_ltN hN rfl, hm_le rfl, hm_le rfl, (1, 6), by show 1 ≤ b.1 - 1 - 2; omega, by show 6 ≤ b.2 - 6 - 10; omega, ?_⟩
  refine sp_20 hR hN (hm_le rfl) (hm_le rfl) (im_hE hT hS ho6 hc).1 ?_
  refine im_AKq (im_a20 hT hS ho6 hc hN) fun N g s hN hS => ?_
  show R 196 536 [(16, .int q), (15, .int la), (14, .int (nI (fb_ct (im_al r) 80))), (13, .int (nI (fb_ct (im_al r) 80))), (12, .int (nI m)), (11, .int (nI h)), (10, .int (nI w)), (9, .int (nI v)), (8, .int (nI u)), (7, .int kv), (6, .int (nI c)), (4, .long (im_dg r 68 o cap)), (0, .ref 2), (1, .int x), (2, .int (nI o)), (3, .int (nI (2 ^ o)))] [.int (if (fb_ct (im_al r) 80) = 0 then 0 else 1)] (N, hm_sh Ln g, s) _ Q
  refine hm_st hR (?_)
  show R 196 538 [(16, .int q), (15, .int la), (14, .int (nI (fb_ct (im_al r) 80))), (13, .int (nI (fb_ct (im_al r) 80))), (12, .int (nI m)), (11, .int (nI h)), (10, .int (nI w)), (9, .int (nI v)), (8, .int (nI u)), (7, .int kv), (6, .int (nI c)), (4, .long (im_dg r 68 o cap)), (0, .ref 2), (1, .int x), (2, .int (nI o)), (3, .int (nI (2 ^ o)))] [.int (nI (fb_ct (im_al r) 80)), .int (if (fb_ct (im_al r) 80) = 0 then 0 else 1)] (N, hm_sh Ln g, s) _ Q
  by_cases z : fb_ct (im_al r) 80 = 0
  · rw [if_pos z]
    refine hm_st hR ⟨fun _ => ?_, fun cc => absurd ((by rw [z]; exact Int32.le_refl _)) cc⟩
    show R 196 545 [(16, .int q), (15, .int la), (14, .int (nI (fb_ct (im_al r) 80))), (13, .int (nI (fb_ct (im_al r) 80))), (12, .int (nI m)), (11, .int (nI h)), (10, .int (nI w)), (9, .int (nI v)), (8, .int (nI u)), (7, .int kv), (6, .int (nI c)), (4, .long (im_dg r 68 o cap)), (0, .ref 2), (1, .int x), (2, .int (nI o)), (3, .int (nI (2 ^ o)))] [.int 0] (N, hm_sh Ln g, s) _ Q
    refine hm_st hR (?_)
    show R 196 546 [(16, .int q), (15, .int la), (14, .int (nI (fb_ct (im_al r) 80))), (13, .int (nI (fb_ct (im_al r) 80))), (12, .int (nI m)), (11, .int (nI h)), (10, .int (nI w)), (9, .int (nI v)), (8, .int (nI u)), (7, .int kv), (6, .int (nI c)), (4, .long (im_dg r 68 o cap)), (0, .ref 2), (1, .int x), (2, .int (nI o)), (3, .int (nI (2 ^ o)))] [.int 0, .int 0] (N, hm_sh Ln g, s) _ Q
    refine hm_st hR ⟨fun cc => absurd cc (fun z => z rfl), fun _ => ?_⟩
    show R 196 549 [(16, .int q), (15, .int la), (14, .int (nI (fb_ct (im_al r) 80))), (13, .int (nI (fb_ct (im_al r) 80))), (12, .int (nI m)), (11, .int (nI h)), (10, .int (nI w)), (9, .int (nI v)), (8, .int (nI u)), (7, .int kv), (6, .int (nI c)), (4, .long (im_dg r 68 o cap)), (0, .ref 2), (1, .int x), (2, .int (nI o)), (3, .int (nI (2 ^ o)))] [] (N, hm_sh Ln g, s) _ Q
    exact aw_j hR hT ho1 ho hc hN hS (by show 20 ≤ b.1 - 1 - 2 - 1; omega) (by show 100 ≤ b.2 - 6 - 10 - 6; omega) hQ
  · rw [if_neg z]
    refine hm_st hR ⟨fun cc => absurd cc (nI_ge (a := 0) (by omega) (by omega)), fun _ => ?_⟩
    show R 196 541 [(16, .int q), (15, .int la), (14, .int (nI (fb_ct (im_al r) 80))), (13, .int (nI (fb_ct (im_al r) 80))), (12, .int (nI m)), (11, .int (nI h)), (10, .int (nI w)), (9, .int (nI v)), (8, .int (nI u)), (7, .int kv), (6, .int (nI c)), (4, .long (im_dg r 68 o cap)), (0, .ref 2), (1, .int x), (2, .int (nI o)), (3, .int (nI (2 ^ o)))] [.int 1] (N, hm_sh Ln g, s) _ Q
    refine hm_st hR (hm_st hR (?_))
    show R 196 546 [(16, .int q), (15, .int la), (14, .int (nI (fb_ct (im_al r) 80))), (13, .int (nI (fb_ct (im_al r) 80))), (12, .int (nI m)), (11, .int (nI h)), (10, .int (nI w)), (9, .int (nI v)), (8, .int (nI u)), (7, .int kv), (6, .int (nI c)), (4, .long (im_dg r 68 o cap)), (0, .ref 2), (1, .int x), (2, .int (nI o)), (3, .int (nI (2 ^ o)))] [.int 1, .int 1] (N, hm_sh Ln g, s) _ Q
    refine hm_st hR ⟨fun cc => absurd cc (fun z => z rfl), fun _ => ?_⟩
    show R 196 549 [(16, .int q), (15, .int la), (14, .int (nI (fb_ct (im_al r) 80))), (13, .int (nI (fb_ct (im_al r) 80))), (12, .int (nI m)), (11, .int (nI h)), (10, .int (nI w)), (9, .int (nI v)), (8, .int (nI u)), (7, .int kv), (6, .int (nI c)), (4, .long (im_dg r 68 o cap)), (0, .ref 2), (1, .int x), (2, .int (nI o)), (3, .int (nI (2 ^ o)))] [] (N, hm_sh Ln g, s) _ Q
    exact aw_j hR hT ho1 ho hc hN hS (by show 20 ≤ b.1 - 1 - 2 - 1; omega) (by show 100 ≤ b.2 - 6 - 10 - 6; omega) hQ
end ImL2
