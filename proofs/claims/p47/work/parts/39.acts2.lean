/-! put, move, remove, sweep, speed. -/
def im_RS (e : hm_Er Int32) (N : Nat) (g : Nat → hm_Sh) (s : hm_St) (o c cap H V a : Nat) : Prop := (e.1 = 0 ∨ e.1 = 2 ∨ e.1 = 3) ∧ e.2.2.1 = N ∧ e.2.2.2.1 = g ∧ im_GO s e.2.2.2.2 o c cap H V a
section ImB
variable {s : hm_St} {o c cap P H V M N : Nat} {g : Nat → hm_Sh} {live : Nat → Bool}
theorem im_RSk {k a : Nat} {v : Int32} {t : hm_St} (hk : k = 0 ∨ k = 2 ∨ k = 3) (hG : im_GO s t o c cap H V a) : im_RS (k, v, N, g, t) N g s o c cap H V a := ⟨hk, rfl, rfl, hG⟩
theorem im_RSs {k : Nat} {v : Int32} (h : im_TI s o c cap P H V M) (hk : k = 0 ∨ k = 2 ∨ k = 3) (a : Nat) : im_RS (k, v, N, g, s) N g s o c cap H V a := ⟨hk, rfl, rfl, im_GOr h a⟩
theorem im_put {x y : Nat} (h : im_TI s o c cap P H V M) (ho : o < 6) (hc : c < 6) (hx : x < 2 ^ o) (hy : y < 2 ^ o) (hH : H < 2048) (hV : V + 1 < 1000000) : im_RS (T_5 N g s (nI x) (nI y)) N g s o c cap H V 1 := by
  have hK := (im_Kat h.1.1 ho hc hx hy).2.1
  unfold T_5
  rw [im_T37 h.1.1 ho hx hy, if_neg (by decide), im_T41 h.1 ho hc hx hy]
  rcases im_T140 h.1 ho hK with ⟨z1, z2⟩ | ⟨p, z1, z2, z3, z4, z5⟩
  · rw [if_pos z1]
    unfold T_157
    rw [h.1.2.2.2.1]
    by_cases q : P < 80
    · rw [if_neg (show ¬ (80 : Int32) ≤ nI P from nI_ge (b := 80) q (by decide)), if_neg (by decide)]
      obtain ⟨b1, b2⟩ := im_putNew h ho hc hx hy q z2 hH hV
      exact im_RSk (Or.inl rfl) ⟨P + 1, H + 1, V + 1, M, b1, Nat.le_refl _, Nat.le_refl _, Nat.le_succ V, b2⟩
    · rw [if_pos (show (80 : Int32) ≤ nI P from nI_le (a := 80) (by omega) (by have := h.1.2.2.2.2.1; omega)), if_pos rfl]
      exact im_RSs h (Or.inr (Or.inl rfl)) 1
  · rw [z3, if_neg (im_nm1 z1).1]
    exact im_RSs h (Or.inr (Or.inl rfl)) 1
theorem im_reloc {p x y : Nat} (h : im_TI s o c cap P H V M) (ho : o < 6) (hc : c < 6) (hp : p < 80) (hl : im_al s p = true) (hx : x < 2 ^ o) (hy : y < 2 ^ o)
    (hk : s 44 (im_K s o c x y) = -1 ∨ s 44 (im_K s o c x y) = -2) (hH : H < 2048) (hV : V + 1 < 1000000) : im_TI (T_44 s (nI p) (nI x) (nI y)) o c cap P (H + 1) (V + 1) M ∧ im_VS s (T_44 s (nI p) (nI x) (nI y)) V := by
  obtain ⟨b1, b2⟩ := im_relocate h.1 ho hc hp hl hx hy hk hH hV
  have t : ∀ b j, b = 2 ∨ b = 14 ∨ b = 20 → T_44 s (nI p) (nI x) (nI y) b j = s b j := by
    intro b j hb
    rcases hb with q | q | q <;> subst q <;> exact (by apply N_44 <;> decide)
  generalize T_44 s (nI p) (nI x) (nI y) = z at b1 b2 t
  have hz : im_al z = im_al s := by
    funext q
    unfold im_al
    rw [t _ _ (by decide)]
  refine ⟨⟨by rw [hz]; exact b1, ?_, ?_, h.2.2.2.1, h.2.2.2.2⟩, b2⟩
  · rw [hz, t _ _ (by decide)]
    exact h.2.1
  · rw [t _ _ (by decide)]
    exact h.2.2.1
theorem im_move {p x y : Nat} (h : im_TI s o c cap P H V M) (ho : o < 6) (hc : c < 6) (hp : p < 80) (hx : x < 2 ^ o) (hy : y < 2 ^ o) (hH : H < 2048) (hV : V + 1 < 1000000) : im_RS (T_7 N g s (nI p) (nI x) (nI y)) N g s o c cap H V 1 := by
  have hK := (im_Kat h.1.1 ho hc hx hy).2.1
  unfold T_7
  rw [im_T159 h.1.2.2.2.1 h.1.2.2.2.2.1 (by omega), im_T37 h.1.1 ho hx hy, im_T160 h.1.2.2.2.2.2.1 h.1.2.2.2.1 h.1.2.2.2.2.1 hp, im_T41 h.1 ho hc hx hy]
  by_cases q : p < P
  · rw [if_pos q, if_neg (by decide), if_neg (by decide)]
    by_cases r : im_al s p = true
    · rw [if_pos r, if_neg (by decide)]
      rcases im_T140 h.1 ho hK with ⟨z1, z2⟩ | ⟨p2, z1, z2, z3, z4, z5⟩
      · rw [if_pos z1, if_pos z1]
        obtain ⟨b1, b2⟩ := im_reloc h ho hc hp r hx hy z2 hH hV
        exact im_RSk (Or.inl rfl) ⟨P, H + 1, V + 1, M, b1, Nat.le_refl _, Nat.le_refl _, Nat.le_succ V, b2⟩
      · rw [z3, if_neg (im_nm1 z1).1, if_neg (im_nm1 z1).1]
        by_cases w : nI p2 = nI p
        · rw [if_pos w, if_neg (by decide)]
          exact im_RSs h (Or.inl rfl) 1
        · rw [if_neg w, if_pos rfl]
          exact im_RSs h (Or.inr (Or.inl rfl)) 1
    · rw [if_neg r, if_pos rfl]
      exact im_RSs h (Or.inr (Or.inl rfl)) 1
  · rw [if_neg q, if_pos rfl]
    exact im_RSs h (Or.inr (Or.inr rfl)) 1
theorem im_remove {p : Nat} (h : im_TI s o c cap P H V M) (ho : o < 6) (hc : c < 6) (hp : p < 80) (hV : V + 1 < 1000000) : im_RS (T_8 N g s (nI p)) N g s o c cap H V 1 := by
  unfold T_8
  rw [im_T159 h.1.2.2.2.1 h.1.2.2.2.2.1 (by omega), im_T160 h.1.2.2.2.2.2.1 h.1.2.2.2.1 h.1.2.2.2.2.1 hp]
  by_cases q : p < P
  · rw [if_pos q, if_neg (by decide)]
    by_cases r : im_al s p = true
    · rw [if_pos r, if_neg (by decide)]
      obtain ⟨r1, r2⟩ := im_riseI h.1 hV
      have u : ∀ b j, b ≠ 25 → T_117 s b j = s b j := fun b j hb => N_117 hb
      generalize T_117 s = s1 at r1 r2 u
      obtain ⟨l1, l2, _⟩ := im_leave r1 ho hc hp r
      have u2 : ∀ b j, b ∉ [33, 42, 44, 49, 58] → T_46 s1 (nI p) b j = s1 b j := by
        intro b j hb
        simp only [List.mem_cons, List.not_mem_nil, or_false, not_or] at hb
        exact N_46 hb.1 hb.2.1 hb.2.2.1 hb.2.2.2.1 hb.2.2.2.2
      generalize T_46 s1 (nI p) = s2 at l1 l2 u2
      have u3 : ∀ b j, b ≠ 41 → T_119 s2 (nI p) b j = s2 b j := fun b j hb => N_119 hb
      generalize T_119 s2 (nI p) = s3 at u3
      have E : T_168 s3 (nI p) = hm_w1 (hm_w1 s3 20 p 0) 14 6 (s3 14 6 - 1) := by
        unfold T_168
        rw [im_set hp, hm_w1n (show (14 : Nat) ≠ 20 by decide)]
      rw [E]
      have e20 : ∀ j, hm_w1 (hm_w1 s3 20 p 0) 14 6 (s3 14 6 - 1) 20 j = if j = p then 0 else s 20 j := by
        intro j
        rw [hm_w1n (by decide), im_wif, u3 _ _ (by decide), u2 _ _ (by decide), u _ _ (by decide)]
      have e146 : hm_w1 (hm_w1 s3 20 p 0) 14 6 (s3 14 6 - 1) 14 6 = nI (fb_ct (im_al s) 80) - 1 := by
        rw [im_ws, u3 _ _ (by decide), u2 _ _ (by decide), u _ _ (by decide), h.2.1]
      have e145 : hm_w1 (hm_w1 s3 20 p 0) 14 6 (s3 14 6 - 1) 14 5 = s2 14 5 := by
        rw [im_wj (by decide), hm_w1n (by decide), u3 _ _ (by decide)]
      have eo : ∀ b j, b ≠ 14 → b ≠ 20 → b ≠ 41 → hm_w1 (hm_w1 s3 20 p 0) 14 6 (s3 14 6 - 1) b j = s2 b j := by
        intro b j h1 h2 h3
        rw [hm_w1n h1, hm_w1n h2, u3 _ _ h3]
      generalize hm_w1 (hm_w1 s3 20 p 0) 14 6 (s3 14 6 - 1) = t at e20 e146 e145 eo
      have hz : im_al t = fun q => if q = p then false else im_al s q := by
        funext q
        show decide (t 20 q = 1) = _
        rw [e20]
        by_cases w : q = p
        · rw [if_pos w, if_pos w]
          rfl
        · rw [if_neg w, if_neg w]
          rfl
      have g1 := r1.2.2.2.2.2.2.1.1
      have g2 := l1.2.2.2.2.2.2.1.1
      have g3 := r1.2.2.2.2.2.2.1.2.2.1
      refine im_RSk (Or.inl rfl) ⟨P, H, V + 1, M, ⟨?_, ?_, ?_, h.2.2.2.1, h.2.2.2.2⟩, Nat.le_succ H, Nat.le_refl _, Nat.le_succ V, ?_⟩
      · rw [hz]
        refine im_IVp l1 (fun b j hb => ?_) (eo _ _ (by decide) (by decide) (by decide)) (e145.trans l1.2.2.2.1) (Nat.le_refl _) l1.2.2.2.2.1
        have w : b ≠ 14 ∧ b ≠ 20 ∧ b ≠ 41 := by
          revert hb
          simp only [List.mem_cons, List.not_mem_nil, or_false]
          omega
        exact eo b j w.1 w.2.1 w.2.2
      · rw [hz, e146, ← im_ctF1 hp r]
        exact nI_pred _
      · rw [eo _ _ (by decide) (by decide) (by decide), u2 _ _ (by decide), u _ _ (by decide)]
        exact h.2.2.1
      · have v1 : im_VS s2 t V := im_VSc (eo _ _ (by decide) (by decide) (by decide)) (fun j => eo _ _ (by decide) (by decide) (by decide)) (fun j => eo _ _ (by decide) (by decide) (by decide)) (fun j => eo _ _ (by decide) (by decide) (by decide)) (fun j => eo _ _ (by decide) (by decide) (by decide))
        exact im_VSt (im_VSt r2 (l2 V (by omega)) (Nat.le_refl _) g1 g3) v1 (Nat.le_refl _) g2 g3
    · rw [if_neg r, if_pos rfl]
      exact im_RSs h (Or.inr (Or.inl rfl)) 1
  · rw [if_neg q, if_pos rfl]
    exact im_RSs h (Or.inr (Or.inr rfl)) 1
/-- nothing of what is held changes but what a sweep changes -/
theorem im_sweepI (h : im_TI s o c cap P H V M) (ho : o < 6) : im_GO s (T_9 s).2 o c cap H V 0 := by
  obtain ⟨⟨a1, a2, a3, a4, a5, a6, a7, a8, a9⟩, h1, h2, h3, h4⟩ := h
  have pw := im_pw5 o ho
  have E : (T_9 s).2 = (T_152 s).2 := by
    unfold T_9
    with_reducible rfl
  rw [E]
  obtain ⟨b1, b2⟩ := im_sweep a3
  have u : ∀ b j, b ≠ 42 → b ≠ 44 → b ≠ 46 → (T_152 s).2 b j = s b j := fun b j h1 h2 h3 => N_152 h1 h2 h3
  generalize (T_152 s).2 = t at b1 b2 u
  have e : ∀ b j, b ∉ [42, 44, 46] → t b j = s b j := by
    intro b j hb
    simp only [List.mem_cons, List.not_mem_nil, or_false, not_or] at hb
    exact u b j hb.1 hb.2.1 hb.2.2
  have x : ∀ q, im_X t q = im_X s q := fun q => by unfold im_X; rw [e 16 q (by decide)]
  have y : ∀ q, im_Y t q = im_Y s q := fun q => by unfold im_Y; rw [e 18 q (by decide)]
  have k : ∀ a b, im_K t o c a b = im_K s o c a b := fun a b => im_Kc fun j => e 9 j (by decide)
  have hz : im_al t = im_al s := by
    funext q
    unfold im_al
    rw [e 20 q (by decide)]
  refine ⟨P, H, V, M, ⟨⟨im_CVc a1 (fun j => e 3 j (by decide)) (fun j => e 9 j (by decide)) (fun j => e 11 j (by decide)), (e _ _ (by decide)).trans a2, b1, (e 14 5 (by decide)).trans a4, a5, ?_, ?_, ?_, ?_⟩, ?_, (e _ _ (by decide)).trans h2, h3, h4⟩, Nat.le_refl _, Nat.le_refl _, Nat.le_refl _, ?_⟩
  · rw [hz]
    intro p hp hl
    rw [e 16 p (by decide), e 18 p (by decide), x, y]
    exact a6 p hp hl
  · rw [hz]
    refine im_HIc a7 (e 25 8 (by decide)) (e 25 9 (by decide)) fun b j hb => e b j ?_
    rcases hb with r | r | r | r | r <;> subst r <;> decide
  · rw [hz]
    refine ⟨(e 47 1 (by decide)).trans a8.1, fun l c2 hl hc => ?_⟩
    have z : im_in t o l c2 (im_al s) = im_in s o l c2 (im_al s) := by
      funext q
      unfold im_in
      rw [x, y]
    rw [e 49 _ (by decide), z]
    exact a8.2 l c2 hl hc
  · rw [hz]
    refine ⟨fun k2 hk => ?_, fun p hp hl => ?_⟩
    · rw [b2]
      by_cases r : k2 < 4 ^ o ∧ s 44 k2 = -2
      · rw [if_pos r]
        exact Or.inl rfl
      · rw [if_neg r]
        simp only [k, x, y]
        exact a9.1 k2 hk
    · have z := a9.2 p hp hl
      rw [b2, k, x, y, if_neg (by rw [z]; exact fun w => (im_nm1 hp).2 w.2)]
      exact z
  · rw [hz, e 14 6 (by decide)]
    exact h1
  · exact im_VSc (e _ _ (by decide)) (fun j => e _ _ (by decide)) (fun j => e _ _ (by decide)) (fun j => e _ _ (by decide)) (fun j => e _ _ (by decide))
/-- where nothing that counts is written -/
theorem im_TIc {t : hm_St} (h : im_TI s o c cap P H V M) (e : ∀ b j, b ∈ [3, 9, 11, 14, 16, 18, 20, 25, 27, 29, 31, 33, 35, 42, 44, 46, 47, 49] → t b j = s b j) (e2 : t 2 8 = s 2 8) (e29 : t 2 9 = s 2 9) : im_TI t o c cap P H V M := by
  have hz : im_al t = im_al s := by
    funext q
    unfold im_al
    rw [e 20 q (by decide)]
  refine ⟨?_, ?_, e29.trans h.2.2.1, h.2.2.2.1, h.2.2.2.2⟩
  · rw [hz]
    refine im_IVc h.1 (fun b j hb => e b j ?_) e2
    revert hb
    simp only [List.mem_cons, List.not_mem_nil, or_false]
    omega
  · rw [hz, e 14 6 (by decide)]
    exact h.2.1
theorem im_GOc {t : hm_St} (h : im_TI s o c cap P H V M) (e : ∀ b j, b ∈ [3, 9, 11, 14, 16, 18, 20, 25, 27, 29, 31, 33, 35, 42, 44, 46, 47, 49] → t b j = s b j) (e2 : t 2 8 = s 2 8) (e29 : t 2 9 = s 2 9) (a : Nat) : im_GO s t o c cap H V a :=
  ⟨P, H, V, M, im_TIc h e e2 e29, by omega, by omega, Nat.le_refl _, im_VSc (e _ _ (by decide)) (fun j => e _ _ (by decide)) (fun j => e _ _ (by decide)) (fun j => e _ _ (by decide)) (fun j => e _ _ (by decide))⟩
theorem im_speed {p : Nat} {a b : Int32} (h : im_TI s o c cap P H V M) (hp : p < 80) (ha : -3 ≤ a) (ha2 : a ≤ 3) (hb : -3 ≤ b) (hb2 : b ≤ 3) : im_RS (T_17 N g s (nI p) a b) N g s o c cap H V 0 := by
  unfold T_17
  rw [im_T159 h.1.2.2.2.1 h.1.2.2.2.2.1 (by omega), im_T160 h.1.2.2.2.2.2.1 h.1.2.2.2.1 h.1.2.2.2.2.1 hp, im_btw ha ha2, im_btw hb hb2]
  by_cases q : p < P
  · rw [if_pos q, if_neg (by decide), if_neg (by decide), if_neg (by decide)]
    by_cases r : im_al s p = true
    · rw [if_pos r, if_neg (by decide)]
      refine im_RSk (Or.inl rfl) (im_GOc h (fun b j hb => N_167 ?_ ?_) (N_167 (by decide) (by decide)) (N_167 (by decide) (by decide)) 0)
      · revert hb
        simp only [List.mem_cons, List.not_mem_nil, or_false]
        omega
      · revert hb
        simp only [List.mem_cons, List.not_mem_nil, or_false]
        omega
    · rw [if_neg r, if_pos rfl]
      exact im_RSs h (Or.inr (Or.inl rfl)) 0
  · rw [if_neg q, if_pos rfl]
    exact im_RSs h (Or.inr (Or.inr rfl)) 0
end ImB
