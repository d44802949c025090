/-! A key entered, buried; pages swept. -/
section ImW
variable {s : hm_St} {n cap : Nat}
theorem im_Eup {s t : hm_St} {key : Nat} {v : Int32} (h44 : ∀ j, t 44 j = if j = key then v else s 44 j) (hv : v ≠ -1) : im_E t = fun k => if k = key then true else im_E s k := by
  funext k
  unfold im_E
  rw [h44]
  by_cases q : k = key
  · rw [if_pos q, if_pos q]
    simpa using hv
  · rw [if_neg q, if_neg q]
theorem im_en2PG {t : hm_St} {Z : Nat} {fl : Nat → Nat} {key i : Nat} (hF : im_PF t n Z fl) (h3 : t 42 3 = nI cap) (hc1 : 2 ≤ cap) (hc2 : cap ≤ 8) (hi : i < Z) (hk1 : fl i ≤ key) (hk2 : key < fl (i + 1))
    (hC : ∀ j, j < Z → fb_ct (im_E t) (fl (j + 1)) ≤ fb_ct (im_E t) (fl j) + cap + (if j = i then 1 else 0)) : im_PG (im_en2 t (nI key)) n cap ∧ ∀ j, im_en2 t (nI key) 44 j = t 44 j := by
  have hZ := im_Zn hF
  have hfn := im_fln hF (i := i + 1) hi
  have hn : n ≤ 1024 := hF.2.2.1
  unfold im_en2
  rw [im_T139 hF hi hk1 hk2, im_T141 hF hi, h3]
  have hmono := fb_ct_mono (im_E t) (show fl i ≤ fl (i + 1) by omega)
  have hle := fb_ct_le (im_E t) (fl (i + 1))
  have hCi := hC i hi
  rw [if_pos rfl] at hCi
  by_cases q : fb_ct (im_E t) (fl (i + 1)) - fb_ct (im_E t) (fl i) ≤ cap
  · rw [if_pos (nI_le q (by omega))]
    refine ⟨⟨Z, fl, hF, h3, hc1, hc2, fun j hj => ?_⟩, fun j => rfl⟩
    by_cases e : j = i
    · subst e
      omega
    · have := hC j hj
      rw [if_neg e] at this
      exact this
  · have hen : fb_ct (im_E t) (fl (i + 1)) - fb_ct (im_E t) (fl i) = cap + 1 := by omega
    rw [if_neg (nI_ge (by omega) (by omega)), hen]
    have hh : fb_ct (im_E t) (fl i) + (cap + 1) / 2 < fb_ct (im_E t) (fl (i + 1)) := by omega
    obtain ⟨k2, b1, b2, b3⟩ := fb_ct_kth hh
    have b4 : fl i < k2 := by
      rcases Nat.lt_or_ge (fl i) k2 with r | r
      · exact r
      · have := fb_ct_mono (im_E t) r
        omega
    rw [show nI (cap + 1) / 2 = nI ((cap + 1) / 2) from pk_div (by omega) (by decide) (by decide), im_T145 hF hi (Nat.le_of_lt b4) b1 b2 b3, hF.2.1, nI_1, nI_1]
    have hgap : Z + 1 ≤ n := by
      have r1 := im_flm hF (Nat.zero_le i) (Nat.le_of_lt hi)
      have r2 := im_flm hF (i := i + 1) (j := Z) hi (Nat.le_refl _)
      have r3 := hF.2.2.2.2.2.1
      omega
    rw [show Z + 1 = i + 1 + (Z - i) by omega, im_T182 (show i + 1 + (Z - i) < 1025 by omega)]
    obtain ⟨a1, a2, a3, a4, a5, a6, a7, a8⟩ := hF
    refine ⟨⟨Z + 1, fun j => if j ≤ i then fl j else if j = i + 1 then k2 else fl (j - 1), ⟨?_, ?_, a3, by omega, ?_, ?_, ?_, ?_⟩, ?_, hc1, hc2, ?_⟩, ?_⟩
    · rw [im_wj (by decide), im_wj (by decide)]
      show im_ins t 46 (i + 1) (Z - i) (nI k2) 42 2 = nI n
      unfold im_ins
      rw [if_neg (by decide)]
      exact a1
    · rw [im_wj (by decide), im_ws]
      unfold im_ins
      rw [if_neg (by decide), a2, nI_1]
    · show (if 0 ≤ i then fl 0 else _) = 0
      rw [if_pos (Nat.zero_le _)]
      exact a5
    · show (if Z + 1 ≤ i then _ else if Z + 1 = i + 1 then k2 else fl (Z + 1 - 1)) = n
      rw [if_neg (by omega), if_neg (by omega)]
      exact a6
    · intro j hj
      show (if j ≤ i then fl j else if j = i + 1 then k2 else fl (j - 1)) < (if j + 1 ≤ i then fl (j + 1) else if j + 1 = i + 1 then k2 else fl (j + 1 - 1))
      rcases Nat.lt_trichotomy j i with r | r | r
      · rw [if_pos (by omega), if_pos (by omega)]
        exact a7 j (by omega)
      · subst r
        rw [if_pos (by omega), if_neg (by omega), if_pos rfl]
        exact b4
      · by_cases r2 : j = i + 1
        · subst r2
          rw [if_neg (by omega), if_pos rfl, if_neg (by omega), if_neg (by omega)]
          exact b1
        · rw [if_neg (by omega), if_neg r2, if_neg (by omega), if_neg (by omega)]
          have := a7 (j - 1) (by omega)
          rw [show j - 1 + 1 = j by omega] at this
          exact this
    · intro j hj
      rw [hm_w1n (by decide), hm_w1n (by decide)]
      show im_ins t 46 (i + 1) (Z - i) (nI k2) 46 j = nI (if j ≤ i then fl j else if j = i + 1 then k2 else fl (j - 1))
      unfold im_ins
      rw [if_pos rfl]
      rcases Nat.lt_trichotomy j (i + 1) with r | r | r
      · rw [if_neg (by omega), if_neg (by omega), if_pos (by omega)]
        exact a8 j (by omega)
      · rw [if_pos r, if_neg (by omega), if_pos r]
      · rw [if_neg (by omega), if_pos (by omega), if_neg (by omega), if_neg (by omega)]
        exact a8 _ (by omega)
    · rw [im_wj (by decide), im_wj (by decide)]
      unfold im_ins
      rw [if_neg (by decide)]
      exact h3
    · intro j hj
      have hE : im_E (hm_w1 (hm_w1 (im_ins t 46 (i + 1) (Z - i) (nI k2)) 42 4 (im_ins t 46 (i + 1) (Z - i) (nI k2) 42 4 + 1)) 42 6 (hm_w1 (im_ins t 46 (i + 1) (Z - i) (nI k2)) 42 4 (im_ins t 46 (i + 1) (Z - i) (nI k2) 42 4 + 1) 42 6 + 1)) = im_E t := by
        funext k
        unfold im_E
        rw [hm_w1n (by decide), hm_w1n (by decide)]
        unfold im_ins
        rw [if_neg (by decide)]
      rw [hE]
      show fb_ct (im_E t) (if j + 1 ≤ i then fl (j + 1) else if j + 1 = i + 1 then k2 else fl (j + 1 - 1)) ≤ fb_ct (im_E t) (if j ≤ i then fl j else if j = i + 1 then k2 else fl (j - 1)) + cap
      rcases Nat.lt_trichotomy j i with r | r | r
      · rw [if_pos (by omega), if_pos (by omega)]
        have := hC j (by omega)
        rw [if_neg (by omega)] at this
        exact this
      · subst r
        rw [if_neg (by omega), if_pos rfl, if_pos (by omega)]
        omega
      · by_cases r2 : j = i + 1
        · subst r2
          rw [if_neg (by omega), if_neg (by omega), if_neg (by omega), if_pos rfl]
          show fb_ct (im_E t) (fl (i + 1)) ≤ _
          omega
        · rw [if_neg (by omega), if_neg (by omega), if_neg (by omega), if_neg r2]
          have := hC (j - 1) (by omega)
          rw [if_neg (by omega), show j - 1 + 1 = j by omega] at this
          exact this
    · intro j
      rw [hm_w1n (by decide), hm_w1n (by decide)]
      unfold im_ins
      rw [if_neg (by decide)]
theorem im_enter {key : Nat} {v : Int32} (h : im_PG s n cap) (hk : key < n) (hv : v ≠ -1) : im_PG (T_150 s (nI key) v) n cap ∧ ∀ j, T_150 s (nI key) v 44 j = if j = key then v else s 44 j := by
  obtain ⟨Z, fl, hF, h3, hc1, hc2, hC⟩ := h
  have hn : n ≤ 1024 := hF.2.2.1
  obtain ⟨i, hi, hk1, hk2⟩ := im_pgex hF hk
  rw [im_T150e]
  have e44 : ∀ j, im_en1 s (nI key) v 44 j = if j = key then v else s 44 j := by
    intro j
    unfold im_en1
    rw [im_set (by omega), im_wif]
    by_cases q : T_178 s 44 1024 (nI key) = -2
    · rw [if_pos q, hm_w1n (by decide)]
    · rw [if_neg q]
  have e42 : ∀ j, j ≠ 5 → im_en1 s (nI key) v 42 j = s 42 j := by
    intro j hj
    unfold im_en1
    rw [im_set (by omega), hm_w1n (by decide)]
    by_cases q : T_178 s 44 1024 (nI key) = -2
    · rw [if_pos q, im_wj hj]
    · rw [if_neg q]
  have e46 : ∀ j, im_en1 s (nI key) v 46 j = s 46 j := by
    intro j
    unfold im_en1
    rw [im_set (by omega), hm_w1n (by decide)]
    by_cases q : T_178 s 44 1024 (nI key) = -2
    · rw [if_pos q, hm_w1n (by decide)]
    · rw [if_neg q]
  have hF2 := im_PFc hF (e42 2 (by decide)) (e42 4 (by decide)) e46
  have hE := im_Eup e44 hv
  obtain ⟨g1, g2⟩ := im_en2PG hF2 ((e42 3 (by decide)).trans h3) hc1 hc2 hi hk1 hk2 (by
    intro j hj
    rw [hE]
    have hm := hF.2.2.2.2.2.2.1 j hj
    have hCj := hC j hj
    rcases Nat.lt_or_ge key (fl (j + 1)) with r | r
    · rcases Nat.lt_or_ge key (fl j) with r2 | r2
      · have u1 := im_ctT (im_E s) r
        have u2 := im_ctT (im_E s) r2
        omega
      · have u1 := im_ctT (im_E s) r
        rw [fb_ct_out (im_E s) true r2]
        have ej : j = i := im_pgone hF hj hi r2 r hk1 hk2
        rw [if_pos ej]
        split at u1 <;> omega
    · rw [fb_ct_out (im_E s) true r, fb_ct_out (im_E s) true (Nat.le_trans (Nat.le_of_lt hm) r)]
      omega)
  exact ⟨g1, fun j => (g2 j).trans (e44 j)⟩
theorem im_bury {key : Nat} (h : im_PG s n cap) (hk : key < n) (hv : s 44 key ≠ -1) : im_PG (T_151 s (nI key)) n cap ∧ ∀ j, T_151 s (nI key) 44 j = if j = key then -2 else s 44 j := by
  obtain ⟨Z, fl, hF, h3, hc1, hc2, hC⟩ := h
  have hn : n ≤ 1024 := hF.2.2.1
  unfold T_151
  rw [im_set (by omega)]
  have e44 : ∀ j, hm_w1 (hm_w1 s 44 key (-2)) 42 5 (hm_w1 s 44 key (-2) 42 5 + 1) 44 j = if j = key then -2 else s 44 j := by
    intro j
    rw [hm_w1n (by decide), im_wif]
  have e42 : ∀ j, j ≠ 5 → hm_w1 (hm_w1 s 44 key (-2)) 42 5 (hm_w1 s 44 key (-2) 42 5 + 1) 42 j = s 42 j := by
    intro j hj
    rw [im_wj hj, hm_w1n (by decide)]
  have hE : im_E (hm_w1 (hm_w1 s 44 key (-2)) 42 5 (hm_w1 s 44 key (-2) 42 5 + 1)) = im_E s := by
    rw [im_Eup e44 (by decide)]
    funext k
    by_cases q : k = key
    · subst q
      rw [if_pos rfl]
      unfold im_E
      simpa using hv
    · rw [if_neg q]
  refine ⟨⟨Z, fl, im_PFc hF (e42 2 (by decide)) (e42 4 (by decide)) (fun j => by rw [hm_w1n (by decide), hm_w1n (by decide)]), (e42 3 (by decide)).trans h3, hc1, hc2, ?_⟩, e44⟩
  rw [hE]
  exact hC
end ImW
