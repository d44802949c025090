/-! Ranks: whoever is nearest. -/
theorem im_le1 {p : Nat → Bool} {n : Nat} (h : ∀ i j, i < n → j < n → p i = true → p j = true → i = j) : fb_ct p n ≤ 1 := by
  rcases Nat.lt_or_ge 1 (fb_ct p n) with q | q
  · obtain ⟨i, i1, i2, i3⟩ := fb_ct_kth (p := p) (k := 0) (n := n) (by omega)
    obtain ⟨j, j1, j2, j3⟩ := fb_ct_kth (p := p) (k := 1) (n := n) q
    have e := h i j i1 j1 i2 j2
    rw [e, j3] at i3
    omega
  · exact q
def im_nu (live : Nat → Bool) (f : Nat → Nat) (n : Nat) : Nat → Bool := fun k => decide (0 < fb_ct (fun q => live q && decide (f q = k)) n)
theorem im_rk (live : Nat → Bool) (f : Nat → Nat) {n : Nat} (hf : ∀ i j, i < n → j < n → live i = true → live j = true → f i = f j → i = j) : ∀ m, fb_ct (fun q => live q && decide (f q < m)) n = fb_ct (im_nu live f n) m
  | 0 => by
    show _ = 0
    refine fb_ct_zero.mpr fun k _ => ?_
    rw [decide_eq_false (Nat.not_lt_zero _), Bool.and_false]
  | m + 1 => by
    have a := fb_ct_or (p := fun q => live q && decide (f q < m)) (q := fun q => live q && decide (f q = m)) (n := n) (by
      intro k _ hh
      simp only [Bool.and_eq_true, decide_eq_true_eq] at hh
      omega)
    have b : fb_ct (fun q => live q && decide (f q < m + 1)) n = fb_ct (fun q => (live q && decide (f q < m)) || (live q && decide (f q = m))) n := by
      refine fb_ct_cong fun k _ => ?_
      cases live k with
      | false => rfl
      | true =>
        rw [Bool.true_and, Bool.true_and, Bool.true_and, ← Bool.decide_or]
        exact decide_eq_decide.mpr (by omega)
    have c : fb_ct (fun q => live q && decide (f q = m)) n ≤ 1 := im_le1 (by
      intro i j hi hj h1 h2
      simp only [Bool.and_eq_true, decide_eq_true_eq] at h1 h2
      exact hf i j hi hj h1.1 h2.1 (h1.2.trans h2.2.symm))
    rw [b, a, im_rk live f hf m, fb_ct_succ]
    congr 1
    show _ = if decide (0 < fb_ct (fun q => live q && decide (f q = m)) n) = true then 1 else 0
    by_cases q : 0 < fb_ct (fun q => live q && decide (f q = m)) n
    · rw [if_pos (decide_eq_true q)]
      omega
    · rw [if_neg (by rw [decide_eq_false q]; decide)]
      omega
section ImR
variable {live : Nat → Bool} {f : Nat → Nat} {n : Nat}
theorem im_nuT {p : Nat} (hp : p < n) (hl : live p = true) : im_nu live f n (f p) = true :=
  decide_eq_true (fb_ct_pos.mpr ⟨p, hp, by rw [hl, decide_eq_true rfl]; rfl⟩)
/-- one has each rank -/
theorem im_rkex (hf : ∀ i j, i < n → j < n → live i = true → live j = true → f i = f j → i = j) {k : Nat} (hk : k < fb_ct live n) : ∃ p, p < n ∧ live p = true ∧ fb_ct (fun q => live q && decide (f q < f p)) n = k := by
  have hB : ∃ B, ∀ q, q < n → f q < B := by
    clear hk hf
    induction n with
    | zero => exact ⟨0, fun q h => absurd h (Nat.not_lt_zero _)⟩
    | succ n ih =>
      obtain ⟨B, hB⟩ := ih
      refine ⟨B + f n + 1, fun q h => ?_⟩
      rcases Nat.lt_or_ge q n with z | z
      · have := hB q z
        omega
      · have e : q = n := by omega
        rw [e]
        omega
  obtain ⟨B, hB⟩ := hB
  have a : fb_ct live n = fb_ct (im_nu live f n) B := by
    rw [← im_rk live f hf B]
    refine fb_ct_cong fun q hq => ?_
    rw [decide_eq_true (hB q hq), Bool.and_true]
  rw [a] at hk
  obtain ⟨i, i1, i2, i3⟩ := fb_ct_kth hk
  obtain ⟨p, p1, p2⟩ := fb_ct_pos.mp (of_decide_eq_true i2)
  simp only [Bool.and_eq_true, decide_eq_true_eq] at p2
  refine ⟨p, p1, p2.1, ?_⟩
  rw [im_rk live f hf, p2.2, i3]
/-- ranks tell the order -/
theorem im_rklt (hf : ∀ i j, i < n → j < n → live i = true → live j = true → f i = f j → i = j) {p q : Nat} (hp : p < n) (hpl : live p = true) (hq : q < n) (hql : live q = true)
    (h : fb_ct (fun r => live r && decide (f r < f p)) n < fb_ct (fun r => live r && decide (f r < f q)) n) : f p < f q := by
  rcases Nat.lt_or_ge (f p) (f q) with z | z
  · exact z
  · rw [im_rk live f hf, im_rk live f hf] at h
    have := fb_ct_mono (im_nu live f n) z
    omega
theorem im_rkeq (hf : ∀ i j, i < n → j < n → live i = true → live j = true → f i = f j → i = j) {p q : Nat} (hp : p < n) (hpl : live p = true) (hq : q < n) (hql : live q = true)
    (h : fb_ct (fun r => live r && decide (f r < f p)) n = fb_ct (fun r => live r && decide (f r < f q)) n) : p = q := by
  rw [im_rk live f hf, im_rk live f hf] at h
  exact hf p q hp hq hpl hql (fb_ct_kth_one (im_nuT hp hpl) (im_nuT hq hql) h)
theorem im_rkb {p : Nat} (hp : p < n) (hpl : live p = true) : fb_ct (fun r => live r && decide (f r < f p)) n < fb_ct live n := by
  have a := im_ctT0 (p := fun r => live r && decide (f r < f p)) hp (by rw [decide_eq_false (Nat.lt_irrefl _), Bool.and_false])
  have b : fb_ct (fun k => if k = p then true else live k && decide (f k < f p)) n ≤ fb_ct live n := fb_ct_sub fun k _ hk => by
    by_cases e : k = p
    · rw [e]
      exact hpl
    · rw [if_neg e] at hk
      simp only [Bool.and_eq_true] at hk
      exact hk.1
  omega
end ImR
def im_ad (a b : Nat) : Nat := if a < b then b - a else a - b
def im_fr (s : hm_St) (u v p : Nat) : Nat := im_ad (im_X s p) u * im_ad (im_X s p) u + im_ad (im_Y s p) v * im_ad (im_Y s p) v
theorem im_sq (a b : Nat) : (nI a - nI b) * (nI a - nI b) = nI (im_ad a b * im_ad a b) := by
  unfold im_ad
  by_cases q : a < b
  · rw [if_pos q, ← pk_mul, ← pk_sub (Nat.le_of_lt q), ← Int32.neg_sub, Int32.neg_mul, Int32.mul_neg, Int32.neg_neg]
  · rw [if_neg q, ← pk_mul, ← pk_sub (by omega)]
theorem im_adb {a b n : Nat} (ha : a < n) (hb : b < n) : im_ad a b < n := by
  unfold im_ad
  split <;> omega
def im_kf (s : hm_St) (u v : Nat) : Nat → Nat := fun p => im_fr s u v p * 80 + p
section ImR2
variable {s : hm_St} {o c cap P H V M N u v : Nat} {g : Nat → hm_Sh}
theorem im_kfi (live : Nat → Bool) : ∀ i j, i < 80 → j < 80 → live i = true → live j = true → im_kf s u v i = im_kf s u v j → i = j := by
  intro i j hi hj _ _ e
  unfold im_kf at e
  omega
theorem im_frb (h : im_TI s o c cap P H V M) (ho : o < 6) (hu : u < 2 ^ o) (hv : v < 2 ^ o) {p : Nat} (hp : p < 80) (hl : im_al s p = true) : im_fr s u v p ≤ 2 * (32 * 32) := by
  have pw := im_pw5 o ho
  have x := h.1.2.2.2.2.2.1 p hp hl
  have a := im_adb x.2.2.1 hu
  have b := im_adb x.2.2.2.2 hv
  have c1 : im_ad (im_X s p) u * im_ad (im_X s p) u ≤ 32 * 32 := Nat.mul_le_mul (by omega) (by omega)
  have c2 : im_ad (im_Y s p) v * im_ad (im_Y s p) v ≤ 32 * 32 := Nat.mul_le_mul (by omega) (by omega)
  unfold im_fr
  omega
theorem im_T172 (h : im_TI s o c cap P H V M) {p : Nat} (hp : p < 80) (hl : im_al s p = true) : T_172 s (nI p) (nI u) (nI v) = nI (im_fr s u v p) := by
  have e := im_T161 h.1.2.2.2.2.2.1 hp hl
  unfold T_172
  rw [e.1, e.2, im_sq, im_sq, nI_add]
  rfl
theorem im_ctP (h : im_TI s o c cap P H V M) (q : Nat → Bool) (hq : ∀ p, p < 80 → q p = true → im_al s p = true) : fb_ct q P = fb_ct q 80 := by
  have hP := h.1.2.2.2.2.1
  have z := fb_ct_split q P (80 - P)
  rw [show P + (80 - P) = 80 by omega] at z
  have z2 : fb_ct (fun k => q (P + k)) (80 - P) = 0 := by
    rw [fb_ct_zero]
    intro k hk
    cases r : q (P + k) with
    | false => rfl
    | true =>
      have := (h.1.2.2.2.2.2.1 (P + k) (by omega) (hq _ (by omega) r)).1
      omega
  omega
def im_rank (s : hm_St) (u v p : Nat) : Nat := fb_ct (fun q => im_al s q && decide (im_kf s u v q < im_kf s u v p)) 80
theorem im_T174 (h : im_TI s o c cap P H V M) (ho : o < 6) (hu : u < 2 ^ o) (hv : v < 2 ^ o) {p : Nat} (hp : p < 80) (hl : im_al s p = true) : T_174 s (nI p) (nI u) (nI v) = nI (im_rank s u v p) := by
  have h5 := h.1.2.2.2.1
  have hP := h.1.2.2.2.2.1
  have xy := h.1.2.2.2.2.2.1
  have fp := im_frb h ho hu hv hp hl
  unfold T_174
  rw [im_T172 h hp hl, h5, show (0 : Int32) = nI 0 from rfl, im_df (by omega) (by omega)]
  unfold im_rank
  rw [← im_ctP h (fun q => im_al s q && decide (im_kf s u v q < im_kf s u v p)) (fun q _ hq => by
    simp only [Bool.and_eq_true] at hq
    exact hq.1)]
  have e := im_ctl (fun n c j => T_174_15 n s (nI p) (nI u) (nI v) (nI (im_fr s u v p)) c j) (fun q => im_al s q && decide (im_kf s u v q < im_kf s u v p)) (a := 0) (e := P) (Nat.zero_le _) ?_ ?_ (n := P - 0 + 1) (by omega) 0
  · rw [e]
    show nI (0 + (_ - 0)) = _
    rw [Nat.zero_add, Nat.sub_zero]
  · intro n c
    show T_174_15 (n + 1) s (nI p) (nI u) (nI v) (nI (im_fr s u v p)) c (nI P) = c
    rw [T_174_15, h5, if_pos (Int32.le_refl _)]
  · intro n c j _ hj
    show T_174_15 (n + 1) s (nI p) (nI u) (nI v) (nI (im_fr s u v p)) c (nI j) = _
    rw [T_174_15, h5, if_neg (nI_ge hj (by omega)), im_T160 xy h5 hP (by omega), nI_1]
    by_cases r : im_al s j = true
    · have fj := im_frb h ho hu hv (p := j) (by omega) r
      rw [if_pos r, if_neg (by decide), im_T172 h (by omega) r]
      rw [r, Bool.true_and]
      have kd : im_kf s u v j = im_fr s u v j * 80 + j := rfl
      have kd2 : im_kf s u v p = im_fr s u v p * 80 + p := rfl
      rcases Nat.lt_trichotomy (im_fr s u v j) (im_fr s u v p) with z | z | z
      · rw [if_pos (nI_lt z (by omega)), if_pos (decide_eq_true (by omega))]
      · rw [if_neg (nI_nlt (Nat.le_of_eq z.symm) (by omega)), if_pos (congrArg nI z)]
        by_cases w : p ≤ j
        · rw [if_pos (nI_le w (by omega)), if_neg (by rw [decide_eq_false (by omega)]; decide)]
        · rw [if_neg (nI_ge (by omega) (by omega)), if_pos (decide_eq_true (by omega))]
      · rw [if_neg (nI_nlt (Nat.le_of_lt z) (by omega)), if_neg (fun y => by
          have := (nI_eq (by omega) (by omega)).mp y
          omega), if_neg (by rw [decide_eq_false (by omega)]; decide)]
    · have r2 : im_al s j = false := by
        cases q : im_al s j with
        | false => rfl
        | true => exact absurd q r
      rw [if_neg r, if_pos rfl, r2, Bool.false_and, if_neg (by decide)]
theorem im_T173 (h : im_TI s o c cap P H V M) (ho : o < 6) (hu : u < 2 ^ o) (hv : v < 2 ^ o) {p : Nat} (hp : p < 80) (hl : im_al s p = true) : T_173 s (nI u) (nI v) (nI (im_rank s u v p)) = nI p := by
  have h5 := h.1.2.2.2.1
  have hP := h.1.2.2.2.2.1
  have xy := h.1.2.2.2.2.2.1
  have pP := (xy p hp hl).1
  have rb : ∀ q, im_rank s u v q ≤ 80 := fun q => fb_ct_le _ _
  have rp := rb p
  unfold T_173
  rw [h5, show (0 : Int32) = nI 0 from rfl, im_df (by omega) (by omega)]
  refine im_hit (fun n j => T_173_3 n s (nI u) (nI v) (nI (im_rank s u v p)) j) (a := 0) (i := p) (Nat.zero_le _) (nI p) ?_ ?_ (by omega)
  · intro n
    show T_173_3 (n + 1) s (nI u) (nI v) (nI (im_rank s u v p)) (nI p) = nI p
    rw [T_173_3, h5, if_neg (nI_ge pP (by omega)), im_T160 xy h5 hP hp, if_pos hl, if_neg (by decide), im_T174 h ho hu hv hp hl, if_pos rfl]
  · intro n j _ hj
    show T_173_3 (n + 1) s (nI u) (nI v) (nI (im_rank s u v p)) (nI j) = T_173_3 n s (nI u) (nI v) (nI (im_rank s u v p)) (nI (j + 1))
    rw [T_173_3, h5, if_neg (nI_ge (show j < P by omega) (by omega)), im_T160 xy h5 hP (by omega), nI_1]
    by_cases r : im_al s j = true
    · have rj := rb j
      rw [if_pos r, if_neg (by decide), im_T174 h ho hu hv (by omega) r, if_neg (fun y => by
        have e := (nI_eq (by omega) (by omega)).mp y
        have := im_rkeq (im_kfi (im_al s)) (show j < 80 by omega) r hp hl e
        omega)]
    · rw [if_neg r, if_pos rfl]
theorem im_T173n (h : im_TI s o c cap P H V M) (ho : o < 6) (hu : u < 2 ^ o) (hv : v < 2 ^ o) : T_173 s (nI u) (nI v) (nI (fb_ct (im_al s) 80)) = -1 := by
  have h5 := h.1.2.2.2.1
  have hP := h.1.2.2.2.2.1
  have xy := h.1.2.2.2.2.2.1
  have lb := fb_ct_le (im_al s) 80
  unfold T_173
  rw [h5, show (0 : Int32) = nI 0 from rfl, im_df (by omega) (by omega)]
  refine im_hit (fun n j => T_173_3 n s (nI u) (nI v) (nI (fb_ct (im_al s) 80)) j) (a := 0) (i := P) (Nat.zero_le _) (-1) ?_ ?_ (by omega)
  · intro n
    show T_173_3 (n + 1) s (nI u) (nI v) (nI (fb_ct (im_al s) 80)) (nI P) = -1
    rw [T_173_3, h5, if_pos (Int32.le_refl _)]
  · intro n j _ hj
    show T_173_3 (n + 1) s (nI u) (nI v) (nI (fb_ct (im_al s) 80)) (nI j) = T_173_3 n s (nI u) (nI v) (nI (fb_ct (im_al s) 80)) (nI (j + 1))
    rw [T_173_3, h5, if_neg (nI_ge hj (by omega)), im_T160 xy h5 hP (by omega), nI_1]
    by_cases r : im_al s j = true
    · have rj : im_rank s u v j < fb_ct (im_al s) 80 := im_rkb (show j < 80 by omega) r
      rw [if_pos r, if_neg (by decide), im_T174 h ho hu hv (by omega) r, if_neg (fun y => by
        have e := (nI_eq (by omega) (by omega)).mp y
        omega)]
    · rw [if_neg r, if_pos rfl]
theorem im_T15 {nth : Nat} (h : im_TI s o c cap P H V M) (ho : o < 6) (hu : u < 2 ^ o) (hv : v < 2 ^ o) (hn : nth ≤ 80) : T_15 N g s (nI u) (nI v) (nI nth) = (0, T_173 s (nI u) (nI v) (nI nth), N, g, s) := by
  unfold T_15
  rw [im_T37 h.1.1 ho hu hv, if_neg (by decide), if_neg (nI_pos (by omega)), if_neg (by decide)]
/-- who has this rank -/
theorem im_nearex (h : im_TI s o c cap P H V M) (ho : o < 6) (hu : u < 2 ^ o) (hv : v < 2 ^ o) {nth : Nat} (hn : nth < fb_ct (im_al s) 80) : ∃ p, p < 80 ∧ im_al s p = true ∧ im_rank s u v p = nth ∧ T_173 s (nI u) (nI v) (nI nth) = nI p := by
  obtain ⟨p, p1, p2, p3⟩ := im_rkex (im_kfi (s := s) (u := u) (v := v) (im_al s)) hn
  refine ⟨p, p1, p2, p3, ?_⟩
  have e : im_rank s u v p = nth := p3
  rw [← e]
  exact im_T173 h ho hu hv p1 p2
theorem im_nearlt {p q : Nat} (hp : p < 80) (hpl : im_al s p = true) (hq : q < 80) (hql : im_al s q = true) (h : im_rank s u v p < im_rank s u v q) : im_fr s u v p ≤ im_fr s u v q := by
  have a := im_rklt (im_kfi (im_al s)) hp hpl hq hql h
  have kd : im_kf s u v q = im_fr s u v q * 80 + q := rfl
  have kd2 : im_kf s u v p = im_fr s u v p * 80 + p := rfl
  omega
end ImR2
