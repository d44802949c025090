/-! Cuts compared; runs; who proves the nearest. -/
section ImCut2
variable {s t : hm_St} {o c cap P H V M N L u v w h most Z : Nat} {fl : Nat → Nat} {g : Nat → hm_Sh}
theorem im_cutP (hT : im_TI s o c cap P H V M) (hF : im_PF s (4 ^ o) Z fl) (ho : o < 6) (hN : 68 ≤ N) (h1 : 1 ≤ most) (h2 : most ≤ 99) : T_109 (T_49 (T_65 (hm_sn s N) N (nI u) (nI v) (nI w) (nI h)) N (nI most)) = nI (fb_ct (im_cw (im_pg s) (im_Wd s o c u v w h most)) Z) := by
  have pw := im_pw5 o ho
  have hZ := im_Zn hF
  obtain ⟨a, b⟩ := im_cutS (u := u) (v := v) (w := w) (h := h) (L := 0) hT ho hN h1 h2
  refine im_T109 b (im_WdV h1).1 pw.2.1 (by omega) (fun k hk => ?_) (fun k j hkj hj => im_pgm hF hkj hj)
  rw [F_139 (im_SMf a)]
  exact ⟨(im_pgp hF hk).1, (im_pgp hF hk).2.1⟩
theorem im_WdS (h1 : 1 ≤ most) : (im_Wd s o c u v w h most).1 ≤ most ∧ (im_Wd s o c u v w h most).1 ≤ (im_W0 s o c u v w h).1 ∧ (im_W0 s o c u v w h).1 ≤ 4 ^ o := by
  have a := (im_WdV (s := s) (o := o) (c := c) (u := u) (v := v) (w := w) (h := h) h1).2
  have b := (im_lyV (im_Q s c u v w h) (4 ^ o)).1.1
  have e : im_W0 s o c u v w h = im_ly (im_Q s c u v w h) (4 ^ o) := rfl
  rw [← e] at b
  omega
theorem im_WdF (ho : o < 6) (h1 : 1 ≤ most) : (im_Wd s o c u v w h (most + 1)).2.2.2 ≤ (im_Wd s o c u v w h most).2.2.2 ∧ (im_Wd s o c u v w h most).2.2.2 ≤ 1024 * 1024 ∧ ((∀ k j, k ≤ j → j < 4 ^ o → im_pg s k ≤ im_pg s j) → fb_ct (im_cw (im_pg s) (im_Wd s o c u v w h (most + 1))) Z ≤ fb_ct (im_cw (im_pg s) (im_Wd s o c u v w h most)) Z) := by
  have pw := im_pw5 o ho
  have b := (im_lyV (im_Q s c u v w h) (4 ^ o)).1
  have f := im_lyF (im_Q s c u v w h) (4 ^ o)
  have e : im_W0 s o c u v w h = im_ly (im_Q s c u v w h) (4 ^ o) := rfl
  rw [← e] at b f
  have b1 := b.1
  unfold im_Wd
  have hB : (im_jt (im_W0 s o c u v w h) ((im_W0 s o c u v w h).1 - most)).2.2.2 ≤ 1024 * 1024 := by
    rcases Nat.eq_zero_or_pos ((im_W0 s o c u v w h).1 - most) with z | z
    · rw [z]
      show (im_W0 s o c u v w h).2.2.2 ≤ _
      omega
    · have a := im_jtF b (k := (im_W0 s o c u v w h).1 - most) (by omega)
      have d : ((im_W0 s o c u v w h).1 - most) * 4 ^ o ≤ 1024 * 1024 := Nat.mul_le_mul (by omega) pw.2.1
      omega
  refine ⟨?_, hB, ?_⟩
  · rcases Nat.lt_or_ge most (im_W0 s o c u v w h).1 with z | z
    · rw [show (im_W0 s o c u v w h).1 - most = (im_W0 s o c u v w h).1 - (most + 1) + 1 by omega, im_jts]
      exact Nat.le_add_right _ _
    · rw [show (im_W0 s o c u v w h).1 - most = 0 by omega, show (im_W0 s o c u v w h).1 - (most + 1) = 0 by omega]
      exact Nat.le_refl _
  · intro hm
    rcases Nat.lt_or_ge most (im_W0 s o c u v w h).1 with z | z
    · rw [show (im_W0 s o c u v w h).1 - most = (im_W0 s o c u v w h).1 - (most + 1) + 1 by omega]
      exact im_cwt b (by omega) hm
    · rw [show (im_W0 s o c u v w h).1 - most = 0 by omega, show (im_W0 s o c u v w h).1 - (most + 1) = 0 by omega]
      exact Nat.le_refl _
theorem im_T3 (hT : im_TI s o c cap P H V M) (ho : o < 6) (hc : c < 6) (hN : 68 ≤ N) (hu : u < 2 ^ o) (hv : v < 2 ^ o) (hw : 1 ≤ w) (hw2 : u + w ≤ 2 ^ o) (hq : 1 ≤ h) (hq2 : v + h ≤ 2 ^ o) :
    T_3 N g s (nI c) (nI u) (nI v) (nI w) (nI h) = (0, nI (im_W0 s o c u v w h).1, N + 1, hm_gb g N, T_104 (T_65 (hm_sn s N) N (nI u) (nI v) (nI w) (nI h)) (nI c) N) := by
  obtain ⟨a, b⟩ := im_laid (u := u) (v := v) (w := w) (h := h) (L := 0) hT ho hN (q := c)
  have e2 : T_101 (T_104 (T_65 (hm_sn s N) N (nI u) (nI v) (nI w) (nI h)) (nI c) N) = nI (im_W0 s o c u v w h).1 := b.1
  unfold T_3 T_48
  rw [im_T35 hc, if_neg (by decide), im_T38 hT.1.1 ho hu hv hw hw2 hq hq2, if_neg (by decide), e2]
theorem im_T52 (x : Int32) : ∃ r, r ≤ 1024 ∧ T_52 s x = nI r := by
  unfold T_52
  refine loop_i (σ := Unit) (fun n j _ => ∃ r, r ≤ 1024 ∧ T_52_4 n s x (nI j) (nI j) = nI r) (fun _ _ => True) 1024 ?_ ?_ (hm_df 1024 0 + 1) 0 () (Nat.zero_le _) (by decide) trivial
  · intro n _ _
    refine ⟨1024, Nat.le_refl _, ?_⟩
    rw [T_52_4]
    by_cases q : x ≤ nI 1024 * nI 1024
    · rw [if_pos q]
    · rw [if_neg q, if_pos (show (1024 : Int32) ≤ nI 1024 from Int32.le_refl _)]
  · intro n j _ hj _ ih
    by_cases q : x ≤ nI j * nI j
    · refine ⟨j, by omega, ?_⟩
      rw [T_52_4, if_pos q]
    · obtain ⟨r, r1, r2⟩ := ih () trivial
      refine ⟨r, r1, ?_⟩
      rw [T_52_4, if_neg q, if_neg (show ¬ (1024 : Int32) ≤ nI j from nI_ge (b := 1024) hj (by decide)), nI_1]
      exact r2
theorem im_T51 {r : Nat} (hT : im_TI s o c cap P H V M) (ho : o < 6) (hN : 68 ≤ N) (hu : u < 2 ^ o) (hv : v < 2 ^ o) (hr : r ≤ 1024) : ∃ x y w h, T_51 N s (nI u) (nI v) (nI r) = T_65 (hm_sn s N) N (nI x) (nI y) (nI w) (nI h) ∧ x ≤ u ∧ u < x + w ∧ y ≤ v ∧ v < y + h ∧ x + w ≤ 2 ^ o ∧ y + h ≤ 2 ^ o := by
  have pw := im_pw5 o ho
  have e86 : T_86 s = nI (2 ^ o) := hT.1.1.2.1
  have lo : ∀ a, a < 2 ^ o → hm_max 0 (nI a - nI r) = nI (a - r) := by
    intro a ha
    by_cases q : r ≤ a
    · rw [pk_sub q]
      exact im_max (a := 0) (by omega) (by omega) |>.trans (congrArg nI (by omega))
    · unfold hm_max
      rw [if_neg, show a - r = 0 by omega]
      · rfl
      · rw [Int32.lt_iff_toInt_lt, fb_subI, nI_toInt (by omega), nI_toInt (by omega)]
        · show ¬ (0 : Int) < _
          omega
        · rw [nI_toInt (by omega), nI_toInt (by omega)]
          omega
        · rw [nI_toInt (by omega), nI_toInt (by omega)]
          omega
  have hi : ∀ a, a < 2 ^ o → hm_min (nI (2 ^ o) - 1) (nI a + nI r) = nI (min (2 ^ o - 1) (a + r)) := by
    intro a ha
    rw [show nI (2 ^ o) - 1 = nI (2 ^ o - 1) from pk_sub (b := 1) (by omega), nI_add, im_min (by omega) (by omega)]
  refine ⟨u - r, v - r, min (2 ^ o - 1) (u + r) + 1 - (u - r), min (2 ^ o - 1) (v + r) + 1 - (v - r), ?_, by omega, by omega, by omega, by omega, by omega, by omega⟩
  unfold T_51
  rw [e86, lo u hu, lo v hv, hi u hu, hi v hv, im_sub1 (by omega), im_sub1 (by omega)]
theorem im_proof {nth : Nat} (hT : im_TI s o c cap P H V M) (ho : o < 6) (hc : c < 6) (hN : 68 ≤ N) (hu : u < 2 ^ o) (hv : v < 2 ^ o) (hn : nth < fb_ct (im_al s) 80) : ∃ k t, T_16 N g s (nI u) (nI v) (nI nth) = (0, nI k, N + 1, hm_gb g N, t) ∧ 1 ≤ k ∧ k ≤ 1024 ∧ im_SM s t L := by
  obtain ⟨p, p1, p2, p3, p4⟩ := im_nearex hT ho hu hv hn
  have hl := fb_ct_le (im_al s) 80
  have pw := im_pw5 o ho
  obtain ⟨r, r1, r2⟩ := im_T52 (s := s) (nI (im_fr s u v p))
  obtain ⟨x, y, w, h, b1, b2, b3, b4, b5, b6, b7⟩ := im_T51 (N := N) hT ho hN hu hv r1
  obtain ⟨Z, fl, hF, hC⟩ := hT.1.2.2.1
  have hZ := im_Zn hF
  have e := im_cutP (u := x) (v := y) (w := w) (h := h) (most := 99) hT hF ho hN (by omega) (by omega)
  obtain ⟨a, b⟩ := im_cutS (u := x) (v := y) (w := w) (h := h) (most := 99) (L := L) hT ho hN (by omega) (by omega)
  have kc := im_Kat hT.1.1 ho hc hu hv
  have k9 := im_T89 hT.1.1 ho hc hu hv
  have q1 : im_Q s c x y w h (im_K s o c u v) = true := by
    unfold im_Q im_hs
    rw [k9.1, k9.2]
    refine decide_eq_true ⟨nI_nlt b2 (by omega), ?_, nI_nlt b4 (by omega), ?_⟩
    · rw [nI_add]
      exact nI_ge b3 (by omega)
    · rw [nI_add]
      exact nI_ge b5 (by omega)
  have s1 := (im_lyV (im_Q s c x y w h) (4 ^ o)).2.2 ⟨_, kc.2.1, q1⟩
  have wd := im_WdV (s := s) (o := o) (c := c) (u := x) (v := y) (w := w) (h := h) (most := 99) (by omega)
  have e0 : im_W0 s o c x y w h = im_ly (im_Q s c x y w h) (4 ^ o) := rfl
  rw [← e0] at s1
  have c1 := im_cw1 (pg := im_pg s) (Z := Z) wd.1 (by omega) (fun k hk => (im_pgp hF hk).2.1) (fun k j hkj hj => im_pgm hF hkj hj)
  have c2 := fb_ct_le (im_cw (im_pg s) (im_Wd s o c x y w h 99)) Z
  refine ⟨_, _, ?_, c1, by omega, a⟩
  unfold T_16
  rw [im_T37 hT.1.1 ho hu hv, if_neg (by decide), if_neg (nI_pos (by omega)), if_neg (by decide), p4, if_neg (im_nm1 p1).1, im_T172 hT p1 p2, r2, b1, ← e]
  rfl
end ImCut2
