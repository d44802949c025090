/-! The pages, read. -/
/-- what a key's place holds isn't nothing -/
def im_E (s : hm_St) : Nat → Bool := fun k => decide (s 44 k ≠ -1)
def im_TB (s : hm_St) : Nat → Bool := fun k => decide (s 44 k = -2)
/-- Z pages over n keys, fl their floors -/
def im_PF (s : hm_St) (n Z : Nat) (fl : Nat → Nat) : Prop :=
  s 42 2 = nI n ∧ s 42 4 = nI Z ∧ n ≤ 1024 ∧ 1 ≤ Z ∧ fl 0 = 0 ∧ fl Z = n ∧ (∀ i, i < Z → fl i < fl (i + 1)) ∧ ∀ i, i ≤ Z → s 46 i = nI (fl i)
section ImP
variable {s : hm_St} {n Z : Nat} {fl : Nat → Nat}
theorem im_flm (h : im_PF s n Z fl) {i : Nat} : ∀ {j : Nat}, i ≤ j → j ≤ Z → fl i + (j - i) ≤ fl j
  | 0, h1, _ => by
    have e : i = 0 := by omega
    subst e
    omega
  | j + 1, h1, h2 => by
    by_cases e : i = j + 1
    · subst e
      omega
    · have h3 := im_flm h (i := i) (j := j) (by omega) (by omega)
      have h4 := h.2.2.2.2.2.2.1 j (by omega)
      omega
theorem im_Zn (h : im_PF s n Z fl) : Z ≤ n := by
  have h1 := im_flm h (Nat.zero_le Z) (Nat.le_refl Z)
  have h2 := h.2.2.2.2.1
  have h3 := h.2.2.2.2.2.1
  omega
theorem im_fln (h : im_PF s n Z fl) {i : Nat} (hi : i ≤ Z) : fl i ≤ n := by
  have h1 := im_flm h hi (Nat.le_refl Z)
  have h3 := h.2.2.2.2.2.1
  omega
theorem im_pgex (h : im_PF s n Z fl) {k : Nat} (hk : k < n) : ∃ i, i < Z ∧ fl i ≤ k ∧ k < fl (i + 1) := by
  obtain ⟨i, h1, h2, h3⟩ := fb_last (p := fun i => fl i ≤ k) (n := Z) ⟨0, h.2.2.2.1, by show fl 0 ≤ k; rw [h.2.2.2.2.1]; exact Nat.zero_le _⟩
  refine ⟨i, h1, h2, ?_⟩
  rcases Nat.lt_or_ge k (fl (i + 1)) with q | q
  · exact q
  · by_cases e : i + 1 < Z
    · exact absurd q (h3 (i + 1) (by omega) e)
    · have e2 : i + 1 = Z := by omega
      have h5 := h.2.2.2.2.2.1
      rw [e2] at q
      omega
theorem im_pgone (h : im_PF s n Z fl) {k i j : Nat} (hi : i < Z) (hj : j < Z) (h1 : fl i ≤ k) (h2 : k < fl (i + 1)) (h3 : fl j ≤ k) (h4 : k < fl (j + 1)) : i = j := by
  rcases Nat.lt_trichotomy i j with q | q | q
  · have := im_flm h (i := i + 1) (j := j) q (by omega)
    omega
  · exact q
  · have := im_flm h (i := j + 1) (j := i) q (by omega)
    omega
theorem im_T139 (h : im_PF s n Z fl) {k i : Nat} (hi : i < Z) (h1 : fl i ≤ k) (h2 : k < fl (i + 1)) : T_139 s (nI k) = nI i := by
  have hZ := im_Zn h
  have hn := im_fln h (i := i + 1) hi
  obtain ⟨a1, a2, a3, a4, a5, a6, a7, a8⟩ := h
  unfold T_139
  rw [a2, show (1 : Int32) = nI 1 from rfl, im_df (by omega) (by omega)]
  refine loop_i (σ := Int32) (fun n j pg => T_139_4 n s (nI k) pg (nI j) = nI i) (fun j pg => 1 ≤ j ∧ pg = nI (j - 1)) (i + 1) ?_ ?_ _ 1 0 (by omega) (by omega) ⟨Nat.le_refl _, rfl⟩
  · intro n pg ⟨b1, b2⟩
    show T_139_4 (n + 1) s (nI k) pg (nI (i + 1)) = nI i
    rw [T_139_4, a2, b2]
    by_cases q : Z ≤ i + 1
    · rw [if_pos (nI_le q (by omega))]
      rfl
    · rw [if_neg (nI_ge (by omega) (by omega)), im_at (by omega), a8 _ (by omega), if_pos (nI_lt h2 (by omega))]
      rfl
  · intro n j pg hj ⟨b1, b2⟩ ih
    show T_139_4 (n + 1) s (nI k) pg (nI j) = nI i
    have hf : fl j ≤ fl i := by
      have := im_flm (s := s) (n := fl Z) ⟨a6 ▸ a1, a2, by omega, a4, a5, rfl, a7, a8⟩ (i := j) (j := i) (by omega) (by omega)
      omega
    rw [T_139_4, a2, if_neg (nI_ge (by omega) (by omega)), im_at (by omega), a8 _ (by omega), if_neg (nI_nlt (by omega) (by omega)), nI_1]
    exact ih _ ⟨by omega, rfl⟩
theorem im_T141 (h : im_PF s n Z fl) {i : Nat} (hi : i < Z) : T_141 s (nI i) = nI (fb_ct (im_E s) (fl (i + 1)) - fb_ct (im_E s) (fl i)) := by
  have hZ := im_Zn h
  have hn := im_fln h (i := i + 1) hi
  obtain ⟨a1, a2, a3, a4, a5, a6, a7, a8⟩ := h
  have hf := a7 i hi
  unfold T_141
  rw [nI_1, im_at (by omega), im_at (by omega), a8 _ (by omega), a8 _ (by omega), im_df (by omega) (by omega)]
  rw [← Nat.zero_add (fb_ct _ _ - _)]
  refine im_ctl (fun n c j => T_141_23 n s (nI i) c (nI (fl (i + 1))) j) (im_E s) (a := fl i) (e := fl (i + 1)) (by omega) ?_ ?_ (by omega) 0
  · intro n c
    show T_141_23 (n + 1) s (nI i) c (nI (fl (i + 1))) (nI (fl (i + 1))) = c
    rw [T_141_23, if_pos (Int32.le_refl _)]
  · intro n c j h1 h2
    show T_141_23 (n + 1) s (nI i) c (nI (fl (i + 1))) (nI j) = _
    rw [T_141_23, if_neg (nI_ge h2 (by omega)), im_at (by omega), nI_1]
    by_cases q : s 44 j = -1
    · rw [if_pos q, if_neg (by unfold im_E; simp [q])]
    · rw [if_neg q, if_pos (by unfold im_E; simp [q])]
theorem im_T142 (h : im_PF s n Z fl) {i : Nat} (hi : i < Z) : T_142 s (nI i) = nI (fb_ct (im_TB s) (fl (i + 1)) - fb_ct (im_TB s) (fl i)) := by
  have hZ := im_Zn h
  have hn := im_fln h (i := i + 1) hi
  obtain ⟨a1, a2, a3, a4, a5, a6, a7, a8⟩ := h
  have hf := a7 i hi
  unfold T_142
  rw [nI_1, im_at (by omega), im_at (by omega), a8 _ (by omega), a8 _ (by omega), im_df (by omega) (by omega)]
  rw [← Nat.zero_add (fb_ct _ _ - _)]
  refine im_ctl (fun n c j => T_142_23 n s (nI i) c (nI (fl (i + 1))) j) (im_TB s) (a := fl i) (e := fl (i + 1)) (by omega) ?_ ?_ (by omega) 0
  · intro n c
    show T_142_23 (n + 1) s (nI i) c (nI (fl (i + 1))) (nI (fl (i + 1))) = c
    rw [T_142_23, if_pos (Int32.le_refl _)]
  · intro n c j h1 h2
    show T_142_23 (n + 1) s (nI i) c (nI (fl (i + 1))) (nI j) = _
    rw [T_142_23, if_neg (nI_ge h2 (by omega)), im_at (by omega), nI_1]
    by_cases q : s 44 j = -2
    · rw [if_pos q, if_pos (by unfold im_TB; simp [q])]
    · rw [if_neg q, if_neg (by unfold im_TB; simp [q])]
/-- the nth entry of a page -/
theorem im_T145 (h : im_PF s n Z fl) {i nth k : Nat} (hi : i < Z) (h1 : fl i ≤ k) (h2 : k < fl (i + 1)) (hE : im_E s k = true) (hc : fb_ct (im_E s) k = fb_ct (im_E s) (fl i) + nth) : T_145 s (nI i) (nI nth) = nI k := by
  have hZ := im_Zn h
  have hn := im_fln h (i := i + 1) hi
  obtain ⟨a1, a2, a3, a4, a5, a6, a7, a8⟩ := h
  have hf := a7 i hi
  have hnth : nth < 2 ^ 31 := by
    have := fb_ct_le (im_E s) k
    omega
  unfold T_145
  rw [nI_1, im_at (by omega), im_at (by omega), a8 _ (by omega), a8 _ (by omega), im_df (by omega) (by omega)]
  refine loop_i (σ := Nat) (fun n j c => T_145_24 n s (nI i) (nI nth) (nI c) (nI (fl (i + 1))) (nI j) = nI k) (fun j c => fl i ≤ j ∧ c + fb_ct (im_E s) (fl i) = fb_ct (im_E s) j) k ?_ ?_ _ (fl i) 0 h1 (by omega) ⟨Nat.le_refl _, Nat.zero_add _⟩
  · intro n c ⟨b1, b2⟩
    show T_145_24 (n + 1) s (nI i) (nI nth) (nI c) (nI (fl (i + 1))) (nI k) = nI k
    have q : ¬ s 44 k = -1 := by
      unfold im_E at hE
      simpa using hE
    have e : c = nth := by omega
    rw [T_145_24, if_neg (nI_ge h2 (by omega)), im_at (by omega), if_neg q, e, if_pos rfl]
  · intro n j c hj ⟨b1, b2⟩ ih
    show T_145_24 (n + 1) s (nI i) (nI nth) (nI c) (nI (fl (i + 1))) (nI j) = nI k
    have h3 := fb_ct_succ (im_E s) j
    have h4 := fb_ct_mono (im_E s) (show j + 1 ≤ k by omega)
    rw [T_145_24, if_neg (nI_ge (by omega) (by omega)), im_at (by omega)]
    by_cases q : s 44 j = -1
    · have q2 : ¬ im_E s j = true := by unfold im_E; simp [q]
      rw [if_neg q2] at h3
      rw [if_pos q, nI_1]
      exact ih c ⟨by omega, by omega⟩
    · have q2 : im_E s j = true := by unfold im_E; simp [q]
      rw [if_pos q2] at h3
      have hl := fb_ct_le (im_E s) j
      rw [if_neg q, if_neg (by rw [nI_eq (by omega) hnth]; omega), nI_1, nI_1]
      exact ih (c + 1) ⟨by omega, by omega⟩
end ImP
