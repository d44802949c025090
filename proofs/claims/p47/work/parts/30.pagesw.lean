/-! The pages, written. -/
/-- a number put into a row ahead of another -/
def im_ins (s : hm_St) (aa idx d : Nat) (v : Int32) : hm_St := fun c j => if c = aa then (if j = idx then v else if idx < j ∧ j ≤ idx + d then s aa (j - 1) else s aa j) else s c j
theorem im_T182l {aa nn idx : Nat} {v p2 : Int32} (hn : nn < 2 ^ 31) : ∀ (d n : Nat) (s : hm_St), d < n → idx + d < nn → T_182_3 aa nn n s (nI idx) p2 v (nI (idx + d)) = im_ins s aa idx d v
  | 0, 0, _, h, _ => absurd h (Nat.lt_irrefl 0)
  | 0, n + 1, s, _, hi => by
    rw [T_182_3, if_pos (show nI (idx + 0) ≤ nI idx from Int32.le_refl _), im_set (by omega) hn]
    funext c j
    unfold im_ins hm_w1
    by_cases q : c = aa
    · subst q
      simp only [if_true]
      by_cases r : j = idx
      · rw [if_pos r, if_pos r]
      · rw [if_neg r, if_neg r, if_neg (by omega)]
    · rw [if_neg q, if_neg q]
  | d + 1, 0, _, h, _ => absurd h (Nat.not_lt_zero _)
  | d + 1, n + 1, s, h, hi => by
    rw [T_182_3, if_neg (nI_ge (by omega) (by omega)), show nI (idx + (d + 1)) - 1 = nI (idx + d) from nI_pred _, show nI (idx + (d + 1)) + (-1) = nI (idx + d) from pk_m1 _, im_at (by omega) hn, im_set (by omega) hn]
    rw [im_T182l hn d n _ (by omega) (by omega)]
    funext c j
    unfold im_ins hm_w1
    by_cases q : c = aa
    · subst q
      simp only [if_true]
      by_cases r : j = idx
      · rw [if_pos r, if_pos r]
      · rw [if_neg r, if_neg r]
        by_cases r2 : idx < j ∧ j ≤ idx + d
        · rw [if_pos r2, if_neg (by omega), if_pos (by omega)]
        · rw [if_neg r2]
          by_cases r3 : j = idx + (d + 1)
          · rw [if_pos r3, if_pos (by omega), r3]
            rfl
          · rw [if_neg r3, if_neg (by omega)]
    · rw [if_neg q, if_neg q, if_neg q]
theorem im_T182 {s : hm_St} {aa nn idx d : Nat} {v : Int32} (hi : idx + d < nn) (hn : nn < 2 ^ 31 := by decide) : T_182 s aa nn (nI idx) (nI (idx + d)) v = im_ins s aa idx d v := by
  unfold T_182
  rw [im_df (by omega) (by omega)]
  exact im_T182l hn d _ s (by omega) hi
/-- a number taken out of a row -/
def im_drp (s : hm_St) (aa idx size : Nat) : hm_St := fun c j => if c = aa then (if idx ≤ j ∧ j + 1 < size then s aa (j + 1) else s aa j) else s c j
theorem im_T183l {aa nn size : Nat} {p1 : Int32} (hn : nn < 2 ^ 31) (hsz : size ≤ nn) : ∀ (d n i : Nat) (s : hm_St), d < n → size ≤ i + 1 + d → i + 1 < 2 ^ 31 → T_183_2 aa nn n s p1 (nI size) (nI i) = im_drp s aa i size
  | d, 0, _, _, h, _, _ => absurd h (Nat.not_lt_zero d)
  | d, n + 1, i, s, h, hi, hb => by
    rw [T_183_2, nI_1]
    by_cases q : size ≤ i + 1
    · rw [if_pos (nI_le q hb)]
      funext c j
      unfold im_drp
      by_cases r : c = aa
      · subst r
        rw [if_pos rfl, if_neg (by omega)]
      · rw [if_neg r]
    · cases d with
      | zero => omega
      | succ d =>
        rw [if_neg (nI_ge (by omega) (by omega)), im_at (by omega) hn, im_set (by omega) hn, im_T183l hn hsz d n (i + 1) _ (by omega) (by omega) (by omega)]
        funext c j
        unfold im_drp hm_w1
        by_cases r : c = aa
        · subst r
          simp only [if_true]
          by_cases r1 : i + 1 ≤ j ∧ j + 1 < size
          · rw [if_pos r1, if_neg (by omega), if_pos (by omega)]
          · rw [if_neg r1]
            by_cases r2 : j = i
            · subst r2
              rw [if_pos rfl, if_pos (by omega)]
            · rw [if_neg r2, if_neg (by omega)]
        · rw [if_neg r, if_neg r, if_neg r]
theorem im_T183 {s : hm_St} {aa nn idx size : Nat} (hsz : size ≤ nn) (hi : idx + 1 < 2 ^ 31) (hn : nn < 2 ^ 31 := by decide) : T_183 s aa nn (nI idx) (nI size) = im_drp s aa idx size := by
  unfold T_183
  rw [nI_1, im_df (by omega) (by omega)]
  exact im_T183l hn hsz (size - (idx + 1)) _ idx s (by omega) (by omega) hi
/-- a row filled -/
theorem im_T181 {s : hm_St} {aa nn : Nat} {v : Int32} (hn : nn < 2 ^ 31 := by decide) : ∀ c j, T_181 s aa nn v c j = if c = aa ∧ j < nn then v else s c j := by
  intro c j
  unfold T_181
  rw [show (Int32.ofNat nn) = nI nn from rfl, show (0 : Int32) = nI 0 from rfl, im_df (by omega) hn]
  refine loop_i (σ := hm_St) (fun n i t => T_181_2 aa nn n t v (nI i) c j = if c = aa ∧ j < nn then v else s c j) (fun i t => ∀ c j, t c j = if c = aa ∧ j < i then v else s c j) nn ?_ ?_ _ 0 s (Nat.zero_le _) (by omega) (fun c j => by rw [if_neg (by omega)])
  · intro n t ht
    show T_181_2 aa nn (n + 1) t v (nI nn) c j = _
    rw [T_181_2, if_pos (show Int32.ofNat nn ≤ nI nn from Int32.le_refl _)]
    exact ht c j
  · intro n i t hi ht ih
    show T_181_2 aa nn (n + 1) t v (nI i) c j = _
    rw [T_181_2, if_neg (show ¬ Int32.ofNat nn ≤ nI i from nI_ge hi hn), nI_1, nI_clamp (by omega)]
    refine ih _ fun c2 j2 => ?_
    unfold hm_w1
    by_cases q : c2 = aa
    · subst q
      simp only [if_true, true_and]
      by_cases r : j2 = i
      · rw [if_pos r, if_pos (by omega)]
      · rw [if_neg r, ht, ]
        by_cases r2 : j2 < i
        · rw [if_pos ⟨rfl, r2⟩, if_pos (by omega)]
        · rw [if_neg (fun h => r2 h.2), if_neg (by omega)]
    · rw [if_neg q, ht, if_neg (fun h => q h.1), if_neg (fun h => q h.1)]
/-- no page has more than cap entries -/
def im_PC (s : hm_St) (Z cap : Nat) (fl : Nat → Nat) : Prop := s 42 3 = nI cap ∧ 2 ≤ cap ∧ cap ≤ 8 ∧ ∀ i, i < Z → fb_ct (im_E s) (fl (i + 1)) ≤ fb_ct (im_E s) (fl i) + cap
def im_PG (s : hm_St) (n cap : Nat) : Prop := ∃ Z fl, im_PF s n Z fl ∧ im_PC s Z cap fl
theorem im_PFc {s t : hm_St} {n Z : Nat} {fl : Nat → Nat} (h : im_PF s n Z fl) (h2 : t 42 2 = s 42 2) (h4 : t 42 4 = s 42 4) (h46 : ∀ j, t 46 j = s 46 j) : im_PF t n Z fl := by
  obtain ⟨a1, a2, a3, a4, a5, a6, a7, a8⟩ := h
  exact ⟨h2.trans a1, h4.trans a2, a3, a4, a5, a6, a7, fun i hi => (h46 _).trans (a8 i hi)⟩
/-- an entry's place is written -/
def im_en1 (s : hm_St) (p1 p2 : Int32) : hm_St := T_179 (if T_178 s 44 1024 p1 = -2 then hm_w1 s 42 5 (s 42 5 - 1) else s) 44 1024 p1 p2
/-- .. and its page split, if it is too full -/
def im_en2 (s : hm_St) (p1 : Int32) : hm_St := if T_141 s (T_139 s p1) ≤ s 42 3 then s else
  hm_w1 (hm_w1 (T_182 s 46 1025 (T_139 s p1 + 1) (s 42 4 + 1) (T_145 s (T_139 s p1) (T_141 s (T_139 s p1) / 2))) 42 4 ((T_182 s 46 1025 (T_139 s p1 + 1) (s 42 4 + 1) (T_145 s (T_139 s p1) (T_141 s (T_139 s p1) / 2))) 42 4 + 1)) 42 6
    ((hm_w1 (T_182 s 46 1025 (T_139 s p1 + 1) (s 42 4 + 1) (T_145 s (T_139 s p1) (T_141 s (T_139 s p1) / 2))) 42 4 ((T_182 s 46 1025 (T_139 s p1 + 1) (s 42 4 + 1) (T_145 s (T_139 s p1) (T_141 s (T_139 s p1) / 2))) 42 4 + 1)) 42 6 + 1)
theorem im_T150e (s : hm_St) (p1 p2 : Int32) : T_150 s p1 p2 = im_en2 (im_en1 s p1 p2) p1 := by
  unfold T_150 im_en1
  by_cases q : T_178 s 44 1024 p1 = -2
  · rw [if_pos q, if_pos q]
    unfold im_en2
    rfl
  · rw [if_neg q, if_neg q]
    unfold im_en2
    rfl
