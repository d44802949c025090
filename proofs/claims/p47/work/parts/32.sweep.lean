/-! Pages swept, cleared; in order. -/
section ImV
variable {n cap : Nat}
theorem im_T153l : ∀ (d m : Nat) (s : hm_St) (page Z : Nat) (fl : Nat → Nat), d < m → Z = page + (d + 1) → im_PF s n Z fl → im_PC s Z cap fl → im_PG (T_153_7 m s (nI page) (nI (d + 1))) n cap
  | d, 0, _, _, _, _, h, _, _, _ => absurd h (Nat.not_lt_zero d)
  | 0, m + 1, s, page, Z, fl, _, _, hF, hC => by
    rw [T_153_7, if_pos (show nI (0 + 1) ≤ 1 from Int32.le_refl _)]
    exact ⟨Z, fl, hF, hC⟩
  | d + 1, m + 1, s, page, Z, fl, h, hZ, hF, hC => by
    have hn : n ≤ 1024 := hF.2.2.1
    have hZn := im_Zn hF
    obtain ⟨h3, hc1, hc2, hC4⟩ := hC
    have hP : page < Z := by omega
    have hP1 : page + 1 < Z := by omega
    rw [T_153_7, if_neg (show ¬ nI (d + 1 + 1) ≤ 1 from nI_ge (b := d + 1 + 1) (a := 1) (by omega) (by omega)), h3, nI_1, im_T141 hF hP, im_T141 hF hP1, show nI cap / 2 = nI (cap / 2) from pk_div (by omega) (by decide) (by decide), nI_add, show nI (d + 1 + 1) + (-1) = nI (d + 1) from pk_m1 _]
    have m1 := fb_ct_le (im_E s) (fl (page + 1))
    have m2 := fb_ct_le (im_E s) (fl (page + 1 + 1))
    have f1 := im_fln hF (i := page + 1) (by omega)
    have f2 := im_fln hF (i := page + 1 + 1) (by omega)
    have k1 := fb_ct_mono (im_E s) (Nat.le_of_lt (hF.2.2.2.2.2.2.1 page hP))
    have k2 := fb_ct_mono (im_E s) (Nat.le_of_lt (hF.2.2.2.2.2.2.1 (page + 1) hP1))
    by_cases q : cap / 2 < fb_ct (im_E s) (fl (page + 1)) - fb_ct (im_E s) (fl page) + (fb_ct (im_E s) (fl (page + 1 + 1)) - fb_ct (im_E s) (fl (page + 1)))
    · rw [if_pos (nI_lt q (by omega))]
      exact im_T153l d m s (page + 1) Z fl (by omega) (by omega) hF ⟨h3, hc1, hc2, hC4⟩
    · rw [if_neg (nI_nlt (by omega) (by omega)), hF.2.1, nI_1, im_T183 (by omega) (by omega)]
      obtain ⟨a1, a2, a3, a4, a5, a6, a7, a8⟩ := hF
      have e42 : ∀ j, im_drp s 46 (page + 1) (Z + 1) 42 j = s 42 j := by
        intro j
        unfold im_drp
        rw [if_neg (by decide)]
      refine im_T153l d m _ page (Z - 1) (fun j => if j ≤ page then fl j else fl (j + 1)) (by omega) (by omega) ⟨?_, ?_, a3, by omega, ?_, ?_, ?_, ?_⟩ ⟨?_, hc1, hc2, ?_⟩
      · rw [im_wj (by decide), e42]
        exact a1
      · rw [im_ws, e42, a2, show nI Z - 1 = nI (Z - 1) from pk_sub (by omega)]
      · show (if 0 ≤ page then fl 0 else _) = 0
        rw [if_pos (Nat.zero_le _)]
        exact a5
      · show (if Z - 1 ≤ page then _ else fl (Z - 1 + 1)) = n
        rw [if_neg (by omega), show Z - 1 + 1 = Z by omega]
        exact a6
      · intro j hj
        show (if j ≤ page then fl j else fl (j + 1)) < (if j + 1 ≤ page then fl (j + 1) else fl (j + 1 + 1))
        rcases Nat.lt_trichotomy j page with r | r | r
        · rw [if_pos (by omega), if_pos (by omega)]
          exact a7 j (by omega)
        · subst r
          rw [if_pos (by omega), if_neg (by omega)]
          have u1 := a7 j (by omega)
          have u2 := a7 (j + 1) (by omega)
          omega
        · rw [if_neg (by omega), if_neg (by omega)]
          exact a7 (j + 1) (by omega)
      · intro j hj
        rw [hm_w1n (by decide)]
        show im_drp s 46 (page + 1) (Z + 1) 46 j = nI (if j ≤ page then fl j else fl (j + 1))
        unfold im_drp
        rw [if_pos rfl]
        by_cases r : j ≤ page
        · rw [if_neg (by omega), if_pos r]
          exact a8 j (by omega)
        · rw [if_pos (by omega), if_neg r]
          exact a8 _ (by omega)
      · rw [im_wj (by decide), e42]
        exact h3
      · intro j hj
        have hE : im_E (hm_w1 (im_drp s 46 (page + 1) (Z + 1)) 42 4 (im_drp s 46 (page + 1) (Z + 1) 42 4 - 1)) = im_E s := by
          funext k
          unfold im_E
          rw [hm_w1n (by decide)]
          unfold im_drp
          rw [if_neg (by decide)]
        rw [hE]
        show fb_ct (im_E s) (if j + 1 ≤ page then fl (j + 1) else fl (j + 1 + 1)) ≤ fb_ct (im_E s) (if j ≤ page then fl j else fl (j + 1)) + cap
        rcases Nat.lt_trichotomy j page with r | r | r
        · rw [if_pos (by omega), if_pos (by omega)]
          exact hC4 j (by omega)
        · subst r
          rw [if_neg (by omega), if_pos (by omega)]
          omega
        · rw [if_neg (by omega), if_neg (by omega)]
          exact hC4 (j + 1) (by omega)
theorem im_T153 {s : hm_St} (h : im_PG s n cap) : im_PG (T_153 s) n cap := by
  obtain ⟨Z, fl, hF, hC⟩ := h
  have hZn := im_Zn hF
  have hn : n ≤ 1024 := hF.2.2.1
  have h1 : 1 ≤ Z := hF.2.2.2.1
  unfold T_153
  rw [hF.2.1, show (1 : Int32) = nI 1 from rfl, im_df (by omega) (by omega), show nI Z = nI (Z - 1 + 1) from congrArg nI (by omega)]
  exact im_T153l (Z - 1) _ s 0 Z fl (by omega) (by omega) hF hC
theorem im_sweep {s : hm_St} (h : im_PG s n cap) : im_PG (T_152 s).2 n cap ∧ ∀ j, (T_152 s).2 44 j = if j < n ∧ s 44 j = -2 then -1 else s 44 j := by
  have hn : n ≤ 1024 := by
    obtain ⟨Z, fl, hF, hC⟩ := h
    exact hF.2.2.1
  have h2 : s 42 2 = nI n := by
    obtain ⟨Z, fl, hF, hC⟩ := h
    exact hF.1
  unfold T_152
  rw [h2, show (0 : Int32) = nI 0 from rfl, im_df (by omega) (by omega)]
  refine loop_i (σ := hm_St) (fun m i t => im_PG (T_152_7 m t (s 42 5) (nI i)).2 n cap ∧ ∀ j, (T_152_7 m t (s 42 5) (nI i)).2 44 j = if j < n ∧ s 44 j = -2 then -1 else s 44 j)
    (fun i t => im_PG t n cap ∧ t 42 2 = nI n ∧ ∀ j, t 44 j = if j < i ∧ s 44 j = -2 then -1 else s 44 j) n ?_ ?_ _ 0 s (Nat.zero_le _) (by omega) ⟨h, h2, fun j => by rw [if_neg (by omega)]⟩
  · intro m t ⟨b1, b2, b3⟩
    show im_PG (T_152_7 (m + 1) t (s 42 5) (nI n)).2 n cap ∧ ∀ j, (T_152_7 (m + 1) t (s 42 5) (nI n)).2 44 j = _
    rw [T_152_7, b2, if_pos (Int32.le_refl _)]
    refine ⟨im_T153 ?_, fun j => ?_⟩
    · obtain ⟨Z, fl, hF, h3, hc⟩ := b1
      refine ⟨Z, fl, im_PFc hF (im_wj (by decide)) (im_wj (by decide)) (fun j => hm_w1n (by decide)), (im_wj (by decide)).trans h3, ?_⟩
      have hE : im_E (hm_w1 t 42 5 0) = im_E t := by
        funext k
        unfold im_E
        rw [hm_w1n (by decide)]
      rw [hE]
      exact hc
    · show T_153 (hm_w1 t 42 5 0) 44 j = _
      rw [N_153 (by decide) (by decide), hm_w1n (by decide)]
      exact b3 j
  · intro m i t hi ⟨b1, b2, b3⟩ ih
    show im_PG (T_152_7 (m + 1) t (s 42 5) (nI i)).2 n cap ∧ ∀ j, (T_152_7 (m + 1) t (s 42 5) (nI i)).2 44 j = _
    rw [T_152_7, b2, if_neg (nI_ge hi (by omega)), im_at (by omega), nI_1]
    have hti : t 44 i = s 44 i := by rw [b3, if_neg (by omega)]
    by_cases q : t 44 i = -2
    · rw [if_pos q, im_set (by omega)]
      refine ih _ ⟨?_, (hm_w1n (by decide)).trans b2, fun j => ?_⟩
      · obtain ⟨Z, fl, hF, h3, hc1, hc2, hC⟩ := b1
        refine ⟨Z, fl, im_PFc hF (hm_w1n (by decide)) (hm_w1n (by decide)) (fun j => hm_w1n (by decide)), (hm_w1n (by decide)).trans h3, hc1, hc2, fun p hp => ?_⟩
        have hE : im_E (hm_w1 t 44 i (-1)) = fun k => if k = i then false else im_E t k := by
          funext k
          unfold im_E
          rw [im_wif]
          by_cases r : k = i
          · rw [if_pos r, if_pos r]
            simp
          · rw [if_neg r, if_neg r]
        rw [hE]
        have hm := hF.2.2.2.2.2.2.1 p hp
        have hCp := hC p hp
        have hEi : im_E t i = true := by
          unfold im_E
          rw [q]
          decide
        rcases Nat.lt_or_ge i (fl (p + 1)) with r | r
        · have u1 := im_ctF1 r hEi
          rcases Nat.lt_or_ge i (fl p) with r2 | r2
          · have u2 := im_ctF1 r2 hEi
            omega
          · rw [fb_ct_out (im_E t) false r2]
            omega
        · rw [fb_ct_out (im_E t) false r, fb_ct_out (im_E t) false (Nat.le_trans (Nat.le_of_lt hm) r)]
          exact hCp
      · rw [im_wif]
        by_cases r : j = i
        · subst r
          rw [if_pos rfl, if_pos ⟨by omega, hti ▸ q⟩]
        · rw [if_neg r, b3]
          by_cases r2 : j < i ∧ s 44 j = -2
          · rw [if_pos r2, if_pos ⟨by omega, r2.2⟩]
          · rw [if_neg r2, if_neg (fun h => r2 ⟨by omega, h.2⟩)]
    · rw [if_neg q]
      refine ih t ⟨b1, b2, fun j => ?_⟩
      rw [b3]
      by_cases r : j < i ∧ s 44 j = -2
      · rw [if_pos r, if_pos ⟨by omega, r.2⟩]
      · rw [if_neg r, if_neg ?_]
        rintro ⟨h1, h2⟩
        by_cases e : j = i
        · subst e
          exact q (hti.trans h2)
        · exact r ⟨by omega, h2⟩
theorem im_p4 : ∀ o, o < 6 → (1 : Int32) <<< ((2 * nI o) &&& 31) = nI (4 ^ o) := by decide
theorem im_p4l : ∀ o, o < 6 → 1 ≤ 4 ^ o ∧ 4 ^ o ≤ 1024 := by decide
theorem im_clear {s : hm_St} {o : Nat} (ho : o < 6) (h1 : 2 ≤ cap) (h2 : cap ≤ 8) : im_PG (T_132 s (nI o) (nI cap)) (4 ^ o) cap ∧ ∀ j, j < 1024 → T_132 s (nI o) (nI cap) 44 j = -1 := by
  have hp := im_p4l o ho
  have e42 : ∀ j, j = 2 ∨ j = 3 → T_132 s (nI o) (nI cap) 42 j = if j = 2 then nI (4 ^ o) else nI cap := by
    intro j hj
    unfold T_132
    rw [im_wj (by omega), im_wj (by omega), im_wj (by omega), im_set0 (by decide), im_set1 (by decide), hm_w1n (by decide), hm_w1n (by decide), im_T181, if_neg (by omega)]
    rw [im_wif, im_wif, im_p4 o ho]
    rcases hj with r | r
    · rw [if_neg (by omega), if_pos r, if_pos r]
    · rw [if_pos r, if_neg (by omega)]
  have e424 : T_132 s (nI o) (nI cap) 42 4 = 1 := by
    unfold T_132
    rw [im_wj (by decide), im_wj (by decide), im_ws]
  have e44 : ∀ j, j < 1024 → T_132 s (nI o) (nI cap) 44 j = -1 := by
    intro j hj
    unfold T_132
    rw [hm_w1n (by decide), hm_w1n (by decide), hm_w1n (by decide), im_set0 (by decide), im_set1 (by decide), hm_w1n (by decide), hm_w1n (by decide), im_T181, if_pos ⟨rfl, hj⟩]
  have e46 : ∀ j, j ≤ 1 → T_132 s (nI o) (nI cap) 46 j = nI (if j = 0 then 0 else 4 ^ o) := by
    intro j hj
    unfold T_132
    rw [hm_w1n (by decide), hm_w1n (by decide), hm_w1n (by decide), im_set0 (by decide), im_set1 (by decide), im_wif, im_wif, hm_w1n (by decide), im_T181, im_T181, if_neg (show ¬ (42 = 44 ∧ 2 < 1024) by decide), im_wj (by decide), im_ws, im_p4 o ho]
    by_cases r : j = 0
    · rw [if_neg (by omega), if_pos r, if_pos r]
      rfl
    · rw [if_pos (by omega), if_neg r]
  refine ⟨⟨1, fun j => if j = 0 then 0 else 4 ^ o, ⟨(e42 2 (Or.inl rfl)).trans (if_pos rfl), e424, hp.2, Nat.le_refl _, if_pos rfl, if_neg (by decide), ?_, e46⟩, (e42 3 (Or.inr rfl)).trans (if_neg (by decide)), h1, h2, ?_⟩, e44⟩
  · intro i hi
    have : i = 0 := by omega
    subst this
    show (if 0 = 0 then 0 else 4 ^ o) < (if 0 + 1 = 0 then 0 else 4 ^ o)
    rw [if_pos rfl, if_neg (by decide)]
    omega
  · intro i hi
    have z : ∀ m, m ≤ 1024 → fb_ct (im_E (T_132 s (nI o) (nI cap))) m = 0 := by
      intro m hm
      rw [fb_ct_zero]
      intro k hk
      unfold im_E
      rw [e44 k (by omega)]
      decide
    have : i = 0 := by omega
    subst this
    show fb_ct _ (if 0 + 1 = 0 then 0 else 4 ^ o) ≤ fb_ct _ (if 0 = 0 then 0 else 4 ^ o) + cap
    rw [if_neg (by decide), z _ hp.2]
    exact Nat.zero_le _
/-- the pages are in order -/
theorem im_T154 {s : hm_St} (h : im_PG s n cap) : T_154 s = 1 := by
  obtain ⟨Z, fl, hF, h3, hc1, hc2, hC⟩ := h
  have hZn := im_Zn hF
  have hn : n ≤ 1024 := hF.2.2.1
  have h1 : 1 ≤ Z := hF.2.2.2.1
  unfold T_154
  rw [show (0 : Int32) = nI 0 from rfl, im_at (by decide), hF.2.2.2.2.2.2.2 0 (Nat.zero_le _), hF.2.2.2.2.1, if_pos rfl, hF.2.1, im_df (by omega) (by omega)]
  refine im_hit (fun m j => T_154_15 m s j) (Nat.zero_le Z) 1 ?_ ?_ (by omega)
  · intro m
    show T_154_15 (m + 1) s (nI Z) = 1
    rw [T_154_15, hF.2.1, if_pos (Int32.le_refl _)]
  · intro m j _ hj
    show T_154_15 (m + 1) s (nI j) = _
    have f1 := im_fln hF (i := j) (by omega)
    have f2 := im_fln hF (i := j + 1) (by omega)
    have m1 := fb_ct_le (im_E s) (fl (j + 1))
    have hCj := hC j hj
    rw [T_154_15, hF.2.1, if_neg (nI_ge hj (by omega)), h3, im_T141 hF hj, if_neg (nI_nlt (by omega) (by omega)), nI_1, im_at (by omega), im_at (by omega), hF.2.2.2.2.2.2.2 j (by omega), hF.2.2.2.2.2.2.2 (j + 1) (by omega), if_pos (nI_lt (hF.2.2.2.2.2.2.1 j hj) (by omega))]
end ImV
