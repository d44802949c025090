/-! The calls that change: put, move, remove, sweep, bulk, tick, draw, share. -/
def im_al (s : hm_St) : Nat → Bool := fun p => decide (s 20 p = 1)
def im_TI (s : hm_St) (o c cap P H V M : Nat) : Prop := im_IV s o c cap P H V (im_al s) ∧ s 14 6 = nI (fb_ct (im_al s) 80) ∧ s 2 9 = nI M ∧ 1 ≤ M ∧ M ≤ 4
/-- s' comes of s, with at most a spells and versions more -/
def im_GO (s t : hm_St) (o c cap H V a : Nat) : Prop := ∃ P H' V' M, im_TI t o c cap P H' V' M ∧ H' ≤ H + a ∧ V' ≤ V + a ∧ V ≤ V' ∧ im_VS s t V
section ImA
variable {s : hm_St} {o c cap P H V M : Nat} {live : Nat → Bool}
theorem im_IVp {t : hm_St} {P2 : Nat} (h : im_IV s o c cap P H V live) (e : ∀ b j, b ∈ [3, 9, 11, 16, 18, 25, 27, 29, 31, 33, 35, 42, 44, 46, 47, 49] → t b j = s b j) (e2 : t 2 8 = s 2 8) (e14 : t 14 5 = nI P2) (hP : P ≤ P2) (hP2 : P2 ≤ 80) : im_IV t o c cap P2 H V live := by
  obtain ⟨a1, a2, a3, a4, a5, a6, a7, a8, a9⟩ := h
  have x : ∀ q, im_X t q = im_X s q := fun q => by unfold im_X; rw [e 16 q (by decide)]
  have y : ∀ q, im_Y t q = im_Y s q := fun q => by unfold im_Y; rw [e 18 q (by decide)]
  have k : ∀ a b, im_K t o c a b = im_K s o c a b := fun a b => im_Kc fun j => e 9 j (by decide)
  refine ⟨im_CVc a1 (fun j => e 3 j (by decide)) (fun j => e 9 j (by decide)) (fun j => e 11 j (by decide)), e2.trans a2, im_PGc a3 (fun j => e 42 j (by decide)) (fun j => e 44 j (by decide)) (fun j => e 46 j (by decide)), e14, hP2, ?_, ?_, ?_, ?_⟩
  · intro p hp hl
    rw [e 16 p (by decide), e 18 p (by decide), x, y]
    obtain ⟨b1, b2⟩ := a6 p hp hl
    exact ⟨by omega, b2⟩
  · refine im_HIc a7 (e 25 8 (by decide)) (e 25 9 (by decide)) fun b j hb => e b j ?_
    rcases hb with r | r | r | r | r <;> subst r <;> decide
  · refine ⟨(e 47 1 (by decide)).trans a8.1, fun l c2 hl hc => ?_⟩
    have z : im_in t o l c2 live = im_in s o l c2 live := by
      funext q
      unfold im_in
      rw [x, y]
    rw [e 49 _ (by decide), z]
    exact a8.2 l c2 hl hc
  · refine ⟨fun k2 hk => ?_, fun p hp hl => ?_⟩
    · simp only [e 44 _ (by decide : 44 ∈ [3, 9, 11, 16, 18, 25, 27, 29, 31, 33, 35, 42, 44, 46, 47, 49]), k, x, y]
      exact a9.1 k2 hk
    · rw [e 44 _ (by decide), k, x, y]
      exact a9.2 p hp hl
theorem im_GOr (h : im_TI s o c cap P H V M) (a : Nat) : im_GO s s o c cap H V a := ⟨P, H, V, M, h, by omega, by omega, Nat.le_refl _, im_VSr s V⟩
/-- who holds a key -/
theorem im_T140 {k : Nat} (h : im_IV s o c cap P H V live) (ho : o < 6) (hk : k < 4 ^ o) : (T_140 s (nI k) = -1 ∧ (s 44 k = -1 ∨ s 44 k = -2)) ∨ ∃ p, p < 80 ∧ live p = true ∧ T_140 s (nI k) = nI p ∧ s 44 k = nI p ∧ im_K s o c (im_X s p) (im_Y s p) = k := by
  have pw := im_pw5 o ho
  unfold T_140
  rw [im_at (by omega)]
  rcases h.2.2.2.2.2.2.2.2.1 k hk with z | z | ⟨p, z1, z2, z3, z4⟩
  · rw [z]
    exact Or.inl ⟨by decide, Or.inl rfl⟩
  · rw [z]
    exact Or.inl ⟨by decide, Or.inr rfl⟩
  · rw [z3]
    refine Or.inr ⟨p, z1, z2, ?_, rfl, z4⟩
    unfold hm_max
    rw [if_pos]
    rw [Int32.lt_iff_toInt_lt, nI_toInt (by omega), show (-1 : Int32).toInt = -1 from rfl]
    omega
theorem im_T41 {x y : Nat} (h : im_IV s o c cap P H V live) (ho : o < 6) (hc : c < 6) (hx : x < 2 ^ o) (hy : y < 2 ^ o) : T_41 s (nI x) (nI y) = T_140 s (nI (im_K s o c x y)) := by
  unfold T_41
  rw [im_T39 h.1 h.2.1 ho hc hx hy]
theorem im_T160 {p : Nat} (h : im_XY s o P (im_al s)) (h5 : s 14 5 = nI P) (hP : P ≤ 80) (hp : p < 80) : T_160 s (nI p) = if im_al s p then 1 else 0 := by
  unfold T_160 T_159
  rw [h5, if_neg (nI_pos (by omega))]
  by_cases q : P ≤ p
  · rw [if_pos (nI_le q (by omega)), if_pos rfl, if_neg]
    intro e
    have := (h p hp e).1
    omega
  · rw [if_neg (nI_ge (by omega) (by omega)), if_neg (by decide), im_at hp]
    unfold im_al
    by_cases r : s 20 p = 1
    · rw [if_pos r, if_pos (decide_eq_true r)]
    · rw [if_neg r, if_neg (by rw [decide_eq_true_iff]; exact r)]
theorem im_T159 {p : Nat} (h5 : s 14 5 = nI P) (hP : P ≤ 80) (hp : p < 2 ^ 31) : T_159 s (nI p) = if p < P then 1 else 0 := by
  unfold T_159
  rw [h5, if_neg (nI_pos hp)]
  by_cases q : p < P
  · rw [if_neg (nI_ge q (by omega)), if_pos q]
  · rw [if_pos (nI_le (by omega) hp), if_neg q]
theorem im_T43e (s : hm_St) (x y : Int32) : (T_43 s x y).2 = T_45 (T_118 (T_165 (T_117 s)).2 (T_165 (T_117 s)).1) (T_165 (T_117 s)).1 x y := by
  unfold T_43
  with_reducible rfl
theorem im_T165e {s1 : hm_St} (e5 : s1 14 5 = nI P) (hP : P < 80) : (T_165 s1).1 = nI P ∧ (T_165 s1).2 = hm_w1 (hm_w1 (hm_w1 (hm_w1 (hm_w1 s1 20 P 1) 22 P 0) 24 P 0) 14 5 (nI (P + 1))) 14 6 (s1 14 6 + 1) := by
  unfold T_165
  refine ⟨e5, ?_⟩
  dsimp only
  unfold T_167
  rw [e5, im_set hP, im_set hP, im_set hP, im_wj (show (6 : Nat) ≠ 5 by decide), hm_w1n (show (14 : Nat) ≠ 24 by decide), hm_w1n (show (14 : Nat) ≠ 22 by decide), hm_w1n (show (14 : Nat) ≠ 20 by decide), e5, nI_1, hm_w1n (show (14 : Nat) ≠ 24 by decide), hm_w1n (show (14 : Nat) ≠ 22 by decide), hm_w1n (show (14 : Nat) ≠ 20 by decide)]
/-- a new point -/
theorem im_putNew {x y : Nat} (h : im_TI s o c cap P H V M) (ho : o < 6) (hc : c < 6) (hx : x < 2 ^ o) (hy : y < 2 ^ o) (hP : P < 80)
    (hk : s 44 (im_K s o c x y) = -1 ∨ s 44 (im_K s o c x y) = -2) (hH : H < 2048) (hV : V + 1 < 1000000) :
    im_TI (T_43 s (nI x) (nI y)).2 o c cap (P + 1) (H + 1) (V + 1) M ∧ im_VS s (T_43 s (nI x) (nI y)).2 V := by
  obtain ⟨h0, h1, h2, h3, h4⟩ := h
  have hal : im_al s P = false := by
    cases q : im_al s P with
    | false => rfl
    | true =>
      have := (h0.2.2.2.2.2.1 P hP q).1
      omega
  obtain ⟨r1, r2⟩ := im_riseI h0 hV
  have E := im_T43e s (nI x) (nI y)
  have u : ∀ b j, b ≠ 25 → T_117 s b j = s b j := fun b j hb => N_117 hb
  have hal1 : im_al (T_117 s) = im_al s := by
    funext q
    unfold im_al
    rw [u _ _ (by decide)]
  generalize T_117 s = s1 at r1 r2 E u hal1
  have e5 : s1 14 5 = nI P := r1.2.2.2.1
  obtain ⟨e1, e2⟩ := im_T165e e5 hP
  rw [e1] at E
  have f : ∀ b j, b ∉ [14, 20, 22, 24] → (T_165 s1).2 b j = s1 b j := by
    intro b j hb
    simp only [List.mem_cons, List.not_mem_nil, or_false, not_or] at hb
    exact N_165 hb.1 hb.2.1 hb.2.2.1 hb.2.2.2
  have f5 : (T_165 s1).2 14 5 = nI (P + 1) := by rw [e2, im_wj (by decide), im_ws]
  have f6 : (T_165 s1).2 14 6 = s1 14 6 + 1 := by rw [e2, im_ws]
  have f20 : ∀ j, (T_165 s1).2 20 j = if j = P then 1 else s1 20 j := by
    intro j
    rw [e2, hm_w1n (by decide), hm_w1n (by decide), hm_w1n (by decide), hm_w1n (by decide), im_wif]
  generalize (T_165 s1).2 = s2 at E f f5 f6 f20
  have w : ∀ b j, b ∉ [37, 39, 41] → T_118 s2 (nI P) b j = s2 b j := by
    intro b j hb
    simp only [List.mem_cons, List.not_mem_nil, or_false, not_or] at hb
    exact N_118 hb.1 hb.2.1 hb.2.2
  generalize T_118 s2 (nI P) = s3 at E w
  have hI3 : im_IV s3 o c cap (P + 1) H (V + 1) (im_al s) := by
    refine im_IVp r1 (fun b j hb => ?_) ?_ ?_ (Nat.le_succ P) (by omega)
    · have q : b ∉ [14, 20, 22, 24] ∧ b ∉ [37, 39, 41] := by
        revert hb
        simp only [List.mem_cons, List.not_mem_nil, or_false, not_or]
        omega
      rw [w b j q.2, f b j q.1]
    · rw [w _ _ (by decide), f _ _ (by decide)]
    · rw [w _ _ (by decide), f5]
  have k3 : ∀ j, s3 44 j = s 44 j := fun j => by rw [w _ _ (by decide), f _ _ (by decide), u _ _ (by decide)]
  have K3 : im_K s3 o c x y = im_K s o c x y := im_Kc fun j => by rw [w _ _ (by decide), f _ _ (by decide), u _ _ (by decide)]
  obtain ⟨b1, b2⟩ := im_arrive hI3 ho hc (Nat.lt_succ_self P) hal hx hy (by rw [K3, k3]; exact hk) hH (by omega)
  have t : ∀ b j, b = 2 ∨ b = 14 ∨ b = 20 → T_45 s3 (nI P) (nI x) (nI y) b j = s3 b j := by
    intro b j hb
    rcases hb with q | q | q <;> subst q <;> exact (by apply N_45 <;> decide)
  rw [E]
  generalize T_45 s3 (nI P) (nI x) (nI y) = z at b1 b2 t
  have hz : im_al z = fun q => if q = P then true else im_al s q := by
    funext q
    show decide (z 20 q = 1) = _
    rw [t _ _ (by decide), w _ _ (by decide), f20]
    by_cases r : q = P
    · rw [if_pos r, if_pos r]
      rfl
    · rw [if_neg r, if_neg r, ← hal1]
      rfl
  refine ⟨⟨by rw [hz]; exact b1, ?_, ?_, h3, h4⟩, ?_⟩
  · rw [hz, im_ctT0 hP hal, t _ _ (by decide), w _ _ (by decide), f6, u _ _ (by decide), h1, nI_1]
  · rw [t _ _ (by decide), w _ _ (by decide), f _ _ (by decide), u _ _ (by decide)]
    exact h2
  · have v1 : im_VS s1 s3 V := im_VSc (by rw [w _ _ (by decide), f _ _ (by decide)]) (fun j => by rw [w _ _ (by decide), f _ _ (by decide)]) (fun j => by rw [w _ _ (by decide), f _ _ (by decide)]) (fun j => by rw [w _ _ (by decide), f _ _ (by decide)]) (fun j => by rw [w _ _ (by decide), f _ _ (by decide)])
    have g1 := r1.2.2.2.2.2.2.1.1
    have g2 := hI3.2.2.2.2.2.2.1.1
    exact im_VSt (im_VSt r2 v1 (Nat.le_refl _) g1 (by omega)) (b2 V (by omega)) (Nat.le_refl _) g2 (by omega)
end ImA
