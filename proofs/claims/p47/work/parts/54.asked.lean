/-! Each asking, seen from the state r that one began to ask at. -/
def im_AK (e : hm_Er Int32) (r : hm_St) (A : Nat) (v : Int32) : Prop := ∃ N2 g2 t, e = (0, v, N2, g2, t) ∧ 68 ≤ N2 ∧ im_SM r t A
theorem im_AKq {e : hm_Er Int32} {r : hm_St} {A Ln : Nat} {v : Int32} {Q : hm_Q} (h : im_AK e r A v) (H : ∀ N2 g2 t, 68 ≤ N2 → im_SM r t A → Q (.inr (some (.int v))) (N2, hm_sh Ln g2, t)) : hm_qx Q Ln (fun v => some (.int v)) e := by
  obtain ⟨N2, g2, t, e1, e2, e3⟩ := h
  rw [e1]
  exact H N2 g2 t e2 e3
section ImAs
variable {r s : hm_St} {o c cap P H V M N A : Nat} {g : Nat → hm_Sh}
theorem im_ral (hS : im_SM r s A) : im_al s = im_al r := by
  funext q
  unfold im_al
  rw [hS.1 20 q (Or.inl (by decide))]
theorem im_rX (hS : im_SM r s A) : im_X s = im_X r := by
  funext q
  unfold im_X
  rw [hS.1 16 q (Or.inl (by decide))]
theorem im_rY (hS : im_SM r s A) : im_Y s = im_Y r := by
  funext q
  unfold im_Y
  rw [hS.1 18 q (Or.inl (by decide))]
theorem im_rK (hS : im_SM r s A) {q x y : Nat} : im_K s o q x y = im_K r o q x y := im_Kc fun j => hS.1 9 j (Or.inl (by decide))
theorem im_rHd (hS : im_SM r s A) : im_Hd s = im_Hd r := by
  funext q
  unfold im_Hd
  rw [hS.1 44 q (Or.inl (by decide))]
theorem im_rPF (hS : im_SM r s A) {n Z : Nat} {fl : Nat → Nat} (h : im_PF r n Z fl) : im_PF s n Z fl := im_PFc h (hS.1 42 2 (Or.inl (by decide))) (hS.1 42 4 (Or.inl (by decide))) fun j => hS.1 46 j (Or.inl (by decide))
theorem im_rfr (hS : im_SM r s A) {u v p : Nat} : im_fr s u v p = im_fr r u v p := by
  unfold im_fr
  rw [im_rX hS, im_rY hS]
theorem im_rrank (hS : im_SM r s A) {u v p : Nat} : im_rank s u v p = im_rank r u v p := by
  unfold im_rank im_kf
  rw [im_ral hS]
  simp only [im_rfr hS]
theorem im_aK0 {e : hm_Er Int32} {v : Int32} (hS : im_SM r s A) (hN : 68 ≤ N) (h : e = (0, v, N, g, s)) : im_AK e r A v := ⟨N, g, s, h, hN, hS⟩
theorem im_aK1 {e : hm_Er Int32} {v : Int32} {t : hm_St} (hS : im_SM r s A) (hN : 68 ≤ N) (ht : im_SM s t A) (h : e = (0, v, N + 1, hm_gb g N, t)) : im_AK e r A v := ⟨N + 1, _, t, h, by omega, im_SMt hS ht⟩
theorem im_a1 (hT : im_TI r o c cap P H V M) (hS : im_SM r s A) (ho : o < 6) (hc : c < 6) (hN : 68 ≤ N) {x y : Nat} (hx : x < 2 ^ o) (hy : y < 2 ^ o) : im_AK (T_1 N g s (nI c) (nI x) (nI y)) r A (nI (im_K r o c x y)) := by
  refine im_aK0 (g := g) hS hN ?_
  rw [im_key (im_SMTI hS hT) ho hc hx hy, im_rK hS]
theorem im_a2 (hT : im_TI r o c cap P H V M) (hS : im_SM r s A) (ho : o < 6) (hc : c < 6) (hN : 68 ≤ N) {x y : Nat} (hx : x < 2 ^ o) (hy : y < 2 ^ o) : im_AK (T_2 N g s (nI c) (nI (im_K r o c x y)) 0) r A (nI x) ∧ im_AK (T_2 N g s (nI c) (nI (im_K r o c x y)) 1) r A (nI y) := by
  have e := im_place (N := N) (g := g) (im_SMTI hS hT) ho hc hx hy
  rw [im_rK hS] at e
  exact ⟨im_aK0 hS hN e.1, im_aK0 hS hN e.2⟩
theorem im_a3 (hT : im_TI r o c cap P H V M) (hS : im_SM r s A) (ho : o < 6) (hc : c < 6) (hN : 68 ≤ N) {u v w h : Nat} (hu : u < 2 ^ o) (hv : v < 2 ^ o) (hw : 1 ≤ w) (hw2 : u + w ≤ 2 ^ o) (hq : 1 ≤ h) (hq2 : v + h ≤ 2 ^ o) :
    im_AK (T_3 N g s (nI c) (nI u) (nI v) (nI w) (nI h)) r A (nI (im_W0 r o c u v w h).1) := by
  refine im_aK1 (g := g) hS hN (im_laid (u := u) (v := v) (w := w) (h := h) (q := c) (im_SMTI hS hT) ho hN).1 ?_
  rw [im_T3 (im_SMTI hS hT) ho hc hN hu hv hw hw2 hq hq2, im_W0c hS]
theorem im_a10 (hT : im_TI r o c cap P H V M) (hS : im_SM r s A) (hN : 68 ≤ N) {p : Nat} (hp : p < 80) (hl : im_al r p = true) : im_AK (T_10 N g s (nI p) 0) r A (nI (im_X r p)) ∧ im_AK (T_10 N g s (nI p) 1) r A (nI (im_Y r p)) ∧ im_AK (T_10 N g s (nI p) 3) r A 1 := by
  have e := im_ofPoint (N := N) (g := g) (im_SMTI hS hT) hp (by rw [im_ral hS]; exact hl)
  rw [im_rX hS, im_rY hS] at e
  exact ⟨im_aK0 hS hN e.1, im_aK0 hS hN e.2.1, im_aK0 hS hN e.2.2⟩
theorem im_a11 (hT : im_TI r o c cap P H V M) (hS : im_SM r s A) (hN : 68 ≤ N) : im_AK (T_11 N g s 1) r A (nI c) ∧ im_AK (T_11 N g s 4) r A (nI (fb_ct (im_al r) 80)) ∧ im_AK (T_11 N g s 7) r A (nI V) ∧ im_AK (T_11 N g s 11) r A (nI M) := by
  have hT2 := im_SMTI hS hT
  refine ⟨im_aK0 hS hN (im_many1 hT2), im_aK0 (g := g) hS hN ?_, im_aK0 hS hN (im_many7 hT2), im_aK0 hS hN (im_many11 hT2)⟩
  rw [im_many4 hT2, im_ral hS]
theorem im_a115 (hS : im_SM r s A) (hN : 68 ≤ N) {n Z : Nat} {fl : Nat → Nat} (h : im_PF r n Z fl) : im_AK (T_11 N g s 5) r A (nI Z) := im_aK0 hS hN (im_many5 (im_rPF hS h))
theorem im_a12 (hT : im_TI r o c cap P H V M) (hS : im_SM r s A) (ho : o < 6) (hN : 68 ≤ N) {u v w h most : Nat} (h1 : 1 ≤ most) (h2 : most ≤ 99) (hu : u < 2 ^ o) (hv : v < 2 ^ o) (hw : 1 ≤ w) (hw2 : u + w ≤ 2 ^ o) (hq : 1 ≤ h) (hq2 : v + h ≤ 2 ^ o) :
    im_AK (T_12 N g s (nI u) (nI v) (nI w) (nI h) (nI most) 0) r A (nI (im_Wd r o c u v w h most).1) ∧ im_AK (T_12 N g s (nI u) (nI v) (nI w) (nI h) (nI most) 1) r A (nI (im_Wd r o c u v w h most).2.2.2) := by
  have hT2 := im_SMTI hS hT
  have e := im_T12 (g := g) hT2 ho hN h1 h2 hu hv hw hw2 hq hq2
  rw [im_Wdc hS] at e
  exact ⟨im_aK1 hS hN (im_cutS hT2 ho hN h1 h2).1 e.1, im_aK1 hS hN (im_cutS hT2 ho hN h1 h2).1 e.2.1⟩
theorem im_a122 (hT : im_TI r o c cap P H V M) (hS : im_SM r s A) (ho : o < 6) (hN : 68 ≤ N) {Z : Nat} {fl : Nat → Nat} (hF : im_PF r (4 ^ o) Z fl) {u v w h most : Nat} (h1 : 1 ≤ most) (h2 : most ≤ 99) (hu : u < 2 ^ o) (hv : v < 2 ^ o) (hw : 1 ≤ w) (hw2 : u + w ≤ 2 ^ o) (hq : 1 ≤ h) (hq2 : v + h ≤ 2 ^ o) :
    im_AK (T_12 N g s (nI u) (nI v) (nI w) (nI h) (nI most) 2) r A (nI (fb_ct (im_cw (im_pg r) (im_Wd r o c u v w h most)) Z)) := by
  have hT2 := im_SMTI hS hT
  have e := im_T12 (g := g) hT2 ho hN h1 h2 hu hv hw hw2 hq hq2
  rw [im_cutP hT2 (im_rPF hS hF) ho hN h1 h2, im_Wdc hS, im_pgc hS] at e
  exact im_aK1 hS hN (im_cutS hT2 ho hN h1 h2).1 e.2.2
theorem im_a13 (hT : im_TI r o c cap P H V M) (hS : im_SM r s A) (ho : o < 6) (hN : 68 ≤ N) {v : Nat} (hv : v ≤ V) : im_AK (T_13 N g s 0 0 (nI (2 ^ o)) 1 (nI v)) r A (nI (fb_ct (im_lv r 0 0 (nI (2 ^ o)) 1 (nI v)) H)) := by
  refine im_aK1 (g := g) hS hN (im_SMb hN (x := 0) (y := 0) (w := nI (2 ^ o)) (q := 1)) ?_
  rw [im_asOf (im_SMTI hS hT) ho hN hv]
  have e : im_lv s 0 0 (nI (2 ^ o)) 1 (nI v) = im_lv r 0 0 (nI (2 ^ o)) 1 (nI v) := by
    funext i
    unfold im_lv
    rw [hS.1 31 i (Or.inl (by decide)), hS.1 33 i (Or.inl (by decide)), hS.1 27 i (Or.inl (by decide)), hS.1 29 i (Or.inl (by decide))]
  rw [e]
theorem im_a14 (hT : im_TI r o c cap P H V M) (hS : im_SM r s A) (ho : o < 6) (hN : 68 ≤ N) : im_AK (T_14 N g s 0 0 (nI (2 ^ o)) (nI (2 ^ o)) 9) r A (nI (fb_ct (im_al r) 80)) := by
  refine im_aK1 (g := g) hS hN (im_SMb hN (x := 0) (y := 0) (w := nI (2 ^ o)) (q := nI (2 ^ o))) ?_
  rw [im_soonAll (im_SMTI hS hT) ho hN, im_ral hS]
theorem im_a15 (hT : im_TI r o c cap P H V M) (hS : im_SM r s A) (ho : o < 6) (hN : 68 ≤ N) {u v p : Nat} (hu : u < 2 ^ o) (hv : v < 2 ^ o) (hp : p < 80) (hl : im_al r p = true) : im_AK (T_15 N g s (nI u) (nI v) (nI (im_rank r u v p))) r A (nI p) := by
  have hT2 := im_SMTI hS hT
  refine im_aK0 (g := g) hS hN ?_
  rw [im_T15 hT2 ho hu hv (show im_rank r u v p ≤ 80 from fb_ct_le _ _), ← im_rrank hS, im_T173 hT2 ho hu hv hp (by rw [im_ral hS]; exact hl)]
theorem im_a15n (hT : im_TI r o c cap P H V M) (hS : im_SM r s A) (ho : o < 6) (hN : 68 ≤ N) {u v : Nat} (hu : u < 2 ^ o) (hv : v < 2 ^ o) : im_AK (T_15 N g s (nI u) (nI v) (nI (fb_ct (im_al r) 80))) r A (-1) := by
  have hT2 := im_SMTI hS hT
  refine im_aK0 (g := g) hS hN ?_
  rw [im_T15 hT2 ho hu hv (fb_ct_le _ _), ← im_ral hS, im_T173n hT2 ho hu hv]
theorem im_a16 (hT : im_TI r o c cap P H V M) (hS : im_SM r s A) (ho : o < 6) (hc : c < 6) (hN : 68 ≤ N) {u v nth : Nat} (hu : u < 2 ^ o) (hv : v < 2 ^ o) (hn : nth < fb_ct (im_al r) 80) : ∃ k, 1 ≤ k ∧ k ≤ 1024 ∧ im_AK (T_16 N g s (nI u) (nI v) (nI nth)) r A (nI k) := by
  obtain ⟨k, t, e, k1, k2, ht⟩ := im_proof (g := g) (L := A) (im_SMTI hS hT) ho hc hN hu hv (nth := nth) (by rw [im_ral hS]; exact hn)
  exact ⟨k, k1, k2, im_aK1 hS hN ht e⟩
theorem im_a19 (hT : im_TI r o c cap P H V M) (hS : im_SM r s (fb_ct (im_al r) 80)) (ho : o < 6) (hc : c < 6) (hN : 68 ≤ N) : im_AK (T_19 N g s 0 1) r (fb_ct (im_al r) 80) 0 := by
  have hT2 := im_SMTI hS hT
  have ht := im_takeSM hT2 ho hc
  rw [im_ral hS] at ht
  exact ⟨N, g, _, im_guess hT2 ho hc, hN, im_SMt hS ht⟩
theorem im_a20 (hT : im_TI r o c cap P H V M) (hS : im_SM r s (fb_ct (im_al r) 80)) (ho : o < 6) (hc : c < 6) (hN : 68 ≤ N) : im_AK (T_20 N g s 80) r (fb_ct (im_al r) 80) (if fb_ct (im_al r) 80 = 0 then 0 else 1) := by
  have hT2 := im_SMTI hS hT
  have ht := im_takeSM hT2 ho hc
  have e := im_pieces (N := N) (g := g) hT2 ho hc
  rw [im_ral hS] at ht e
  exact ⟨N, g, _, e, hN, im_SMt hS ht⟩
def im_wl (r : hm_St) (fl : Nat → Nat) (M Z m : Nat) : Nat := fb_sm (fun i => if i * M / Z = m then im_ld r fl i else 0) Z
theorem im_a22 (hT : im_TI r o c cap P H V M) (hS : im_SM r s A) (hN : 68 ≤ N) {Z : Nat} {fl : Nat → Nat} (hF : im_PF r (4 ^ o) Z fl) {m : Nat} (hm : m < M) : im_AK (T_22 N g s (nI m) 0) r A (nI (im_wl r fl M Z m)) := by
  have hT2 := im_SMTI hS hT
  have hM := hT.2.2.2.2
  have hM1 := hT.2.2.2.1
  refine im_aK0 (g := g) hS hN ?_
  unfold T_22 T_57
  rw [hT2.2.2.1, show nI M - 1 = nI (M - 1) from pk_sub (b := 1) hM1, show T_34 s (nI m) 0 (nI (M - 1)) = 1 from im_btwN (lo := 0) (Nat.zero_le _) (by omega) (by omega), if_neg (by decide), show T_34 s 0 0 2 = 1 from im_btw (by decide) (by decide), if_neg (by decide), if_pos rfl, im_T147 (im_rPF hS hF) (by omega) hM]
  unfold im_wl im_ld
  rw [im_rHd hS]
theorem im_wls (hT : im_TI r o c cap P H V M) (ho : o < 6) (hc : c < 6) {Z : Nat} {fl : Nat → Nat} (hF : im_PF r (4 ^ o) Z fl) : fb_sm (im_wl r fl M Z) M = fb_ct (im_al r) 80 := by
  have hM := hT.2.2.2.2
  have hM1 := hT.2.2.2.1
  have hZ := hF.2.2.2.1
  have a := im_dsm (fun i => i * M / Z) (im_ld r fl) M (Z := Z) (fun i hi => by
    rw [Nat.div_lt_iff_lt_mul (by omega), Nat.mul_comm]
    exact Nat.mul_lt_mul_of_pos_left hi (by omega))
  have b := im_tel (fun i => fb_ct (im_Hd r) (fl i)) (Z := Z) (fun i hi => fb_ct_mono _ (Nat.le_of_lt (hF.2.2.2.2.2.2.1 i hi)))
  have e : fb_sm (im_wl r fl M Z) M = fb_sm (im_ld r fl) Z := a
  rw [e, ← im_Hl hT.1 ho hc, ← hF.2.2.2.2.2.1, ← b, hF.2.2.2.2.1]
  rfl
theorem im_a24 (hT : im_TI r o c cap P H V M) (hS : im_SM r s A) (ho : o < 6) (hN : 68 ≤ N) {l q : Nat} (hl : l ≤ o) (hq : q < 4 ^ l) : im_AK (T_24 N g s (nI l) (nI q)) r A (nI (fb_ct (im_in r o l q (im_al r)) 80)) := by
  refine im_aK0 (g := g) hS hN ?_
  rw [im_density (im_SMTI hS hT) ho hl hq]
  unfold im_in
  rw [im_ral hS, im_rX hS, im_rY hS]
theorem im_a25 (hT : im_TI r o c cap P H V M) (hS : im_SM r s A) (ho : o < 6) (hN : 68 ≤ N) {p : Nat} (hp : p < 80) (hl : im_al r p = true) : im_AK (T_25 N g s (nI p) 1) r A (nI o) := im_aK0 hS hN (im_blur (im_SMTI hS hT) ho hp (by rw [im_ral hS]; exact hl))
theorem im_a27 (hT : im_TI r o c cap P H V M) (hS : im_SM r s A) (hN : 68 ≤ N) : im_AK (T_27 N g s 0) r A (im_rv r 68 o cap) := by
  have hT2 := im_SMTI hS hT
  refine im_aK1 (g := g) hS hN (im_50SM hT2 hN) ?_
  rw [im_T27 hT2 hN, im_rvc (o := o) (cap := cap) hS (Nat.le_refl 68) hN]
theorem im_a28 (hT : im_TI r o c cap P H V M) (hS : im_SM r s A) (ho : o < 6) (hN : 68 ≤ N) : im_AK (T_28 N g s 0 0 (nI (2 ^ o)) (nI (2 ^ o))) r A (im_rv r 68 o cap) := by
  have hT2 := im_SMTI hS hT
  refine im_aK1 (g := g) hS hN (im_50SM hT2 hN) ?_
  rw [im_T28 hT2 ho hN, im_rvc (o := o) (cap := cap) hS (Nat.le_refl 68) hN]
/-- isSound -/
theorem im_a29 {Q : hm_Q} {Ln : Nat} (hT : im_TI r o c cap P H V M) (hS : im_SM r s A) (ho : o < 6) (hc : c < 6) (hN : 68 ≤ N) (K : ∀ N2 g2 t, 68 ≤ N2 → im_SM r t A → Q (.inr (some (.int 1))) (N2, hm_sh Ln g2, t)) :
    Q (.inr (some (.int (T_29 N g s).1))) ((T_29 N g s).2.1, hm_sh Ln (T_29 N g s).2.2.1, (T_29 N g s).2.2.2) := by
  have hT2 := im_SMTI hS hT
  rw [im_sound hT2 ho hc hN]
  dsimp only
  exact K _ _ _ (by omega) (im_SMt hS (im_50SM hT2 hN))
/-- the checksum -/
theorem im_a30 {Q : hm_Q} {Ln : Nat} (hT : im_TI r o c cap P H V M) (hS : im_SM r s (fb_ct (im_al r) 80)) (ho : o < 6) (hc : c < 6) (hN : 68 ≤ N) (K : ∀ N2 g2 t, 68 ≤ N2 → im_SM r t (fb_ct (im_al r) 80) → Q (.inr (some (.long (im_dg r 68 o cap)))) (N2, hm_sh Ln g2, t)) :
    Q (.inr (some (.long (T_30 N g s).1))) ((T_30 N g s).2.1, hm_sh Ln (T_30 N g s).2.2.1, (T_30 N g s).2.2.2) := by
  have hT2 := im_SMTI hS hT
  have e := im_digestc hT ho hc (Nat.le_refl 68) hN hS
  have ht := im_digSM hT2 ho hc hN
  rw [im_ral hS] at ht
  rw [im_digest hT2 ho hc hN, e]
  dsimp only
  exact K _ _ _ (by omega) (im_SMt hS ht)
theorem im_hO (hT : im_TI r o c cap P H V M) (hS : im_SM r s A) (ho : o < 6) : s 47 1 < 100000 := by
  have e : s 47 1 = nI o := (im_SMTI hS hT).1.2.2.2.2.2.2.2.1.1
  rw [e]
  exact nI_lt (b := 100000) (by omega) (by decide)
theorem im_hE (hT : im_TI r o c cap P H V M) (hS : im_SM r s A) (ho : o < 6) (hc : c < 6) : (T_124 s) 64 1 ≤ 100000 ∧ (T_124 s) 64 1 - 1 < 100000 := by
  have hl8 := fb_ct_le (im_al s) 80
  rw [im_take1 (im_SMTI hS hT) ho hc]
  refine ⟨nI_le (b := 100000) (by omega) (by decide), ?_⟩
  rw [Int32.lt_iff_toInt_lt, fb_subI, nI_toInt (by omega)]
  · show _ < (100000 : Int)
    show (_ : Int) - 1 < 100000
    omega
  · rw [nI_toInt (by omega)]
    show -2147483648 ≤ (_ : Int) - 1
    omega
  · rw [nI_toInt (by omega)]
    show (_ : Int) - 1 < 2147483648
    omega
end ImAs
