/-! The history, read and written. -/
def im_hs (x0 y0 w h x y : Int32) : Bool := decide (¬ x < x0 ∧ ¬ x0 + w ≤ x ∧ ¬ y < y0 ∧ ¬ y0 + h ≤ y)
theorem im_T66 (s : hm_St) (bx : Nat) (x y : Int32) : T_66 s bx x y = if im_hs (s bx 0) (s bx 1) (s bx 2) (s bx 3) x y then 1 else 0 := by
  unfold T_66 im_hs
  by_cases a : x < s bx 0
  · simp [a]
  · by_cases b : s bx 0 + s bx 2 ≤ x
    · simp [a, b]
    · by_cases c : y < s bx 1
      · simp [a, b, c]
      · by_cases d : s bx 1 + s bx 3 ≤ y
        · simp [a, b, c, d]
        · simp [a, b, c, d]
/-- the spells that a box at a version has -/
def im_lv (s : hm_St) (x0 y0 w h v : Int32) : Nat → Bool := fun i => decide (¬ v < s 31 i ∧ ¬ s 33 i ≤ v) && im_hs x0 y0 w h (s 27 i) (s 29 i)
theorem im_T122 {s : hm_St} {bx H : Nat} {v : Int32} (h8 : s 25 8 = nI H) (hH : H ≤ 2048) : T_122 s bx v = nI (fb_ct (im_lv s (s bx 0) (s bx 1) (s bx 2) (s bx 3) v) H) := by
  unfold T_122
  rw [h8, show (0 : Int32) = nI 0 from rfl, im_df (by omega) (by omega)]
  have e := im_ctl (fun n c j => T_122_5 bx n s v c j) (im_lv s (s bx 0) (s bx 1) (s bx 2) (s bx 3) v) (a := 0) (e := H) (Nat.zero_le _) ?_ ?_ (n := H - 0 + 1) (by omega) 0
  · rw [e]
    exact congrArg nI (by show 0 + (_ - 0) = _; omega)
  · intro n c
    show T_122_5 bx (n + 1) s v c (nI H) = c
    rw [T_122_5, h8, if_pos (Int32.le_refl _)]
  · intro n c j _ hj
    show T_122_5 bx (n + 1) s v c (nI j) = _
    rw [T_122_5, h8, if_neg (nI_ge hj (by omega)), if_neg (show ¬ 2048 ≤ nI j from nI_ge (b := 2048) (by omega) (by decide)), im_at (by omega), im_at (by omega), im_at (by omega), im_at (by omega), nI_1, im_T66]
    unfold im_lv
    by_cases a : v < s 31 j
    · rw [if_pos a, if_neg (by simp [a])]
    · rw [if_neg a]
      by_cases b : s 33 j ≤ v
      · rw [if_pos b, if_neg (by simp [b])]
      · rw [if_neg b]
        by_cases d : im_hs (s bx 0) (s bx 1) (s bx 2) (s bx 3) (s 27 j) (s 29 j) = true
        · rw [if_pos d, if_neg (by decide), if_pos (by simp [a, b, d])]
        · rw [if_neg d, if_pos rfl, if_neg (by simp [d])]
/-- the history: H spells, version V, those in live have the open ones -/
def im_opn (s : hm_St) : Nat → Bool := fun i => decide (s 33 i = 2147483647)
def im_HI (s : hm_St) (side H V : Nat) (live : Nat → Bool) : Prop :=
  s 25 8 = nI H ∧ s 25 9 = nI V ∧ H ≤ 2048 ∧ V < 1000000 ∧
  (∀ i, i < H → ∃ b x y, s 31 i = nI b ∧ 1 ≤ b ∧ b ≤ V ∧ s 27 i = nI x ∧ x < side ∧ s 29 i = nI y ∧ y < side ∧ (s 33 i = 2147483647 ∨ ∃ e, s 33 i = nI e ∧ e ≤ V)) ∧
  (∀ p, p < 80 → live p = true → ∃ l, l < H ∧ s 35 p = nI l ∧ s 33 l = 2147483647) ∧
  (∀ p q, p < 80 → q < 80 → live p = true → live q = true → s 35 p = s 35 q → p = q) ∧
  fb_ct (im_opn s) H = fb_ct live 80
/-- at versions up to V all is as it was -/
def im_VS (s t : hm_St) (V : Nat) : Prop := ∀ x0 y0 w h v H H', v ≤ V → s 25 8 = nI H → H ≤ 2048 → t 25 8 = nI H' → H' ≤ 2048 → fb_ct (im_lv s x0 y0 w h (nI v)) H = fb_ct (im_lv t x0 y0 w h (nI v)) H'
theorem im_VSr (s : hm_St) (V : Nat) : im_VS s s V := by
  intro x0 y0 w h v H H' _ e1 h1 e2 h2
  have : H = H' := (nI_eq (by omega) (by omega)).mp (e1.symm.trans e2)
  rw [this]
theorem im_VSt {s t u : hm_St} {V W G : Nat} (h1 : im_VS s t V) (h2 : im_VS t u W) (hVW : V ≤ W) (hG : t 25 8 = nI G) (hG2 : G ≤ 2048) : im_VS s u V := by
  intro x0 y0 w h v H H' hv e1 hH e2 hH2
  exact (h1 x0 y0 w h v H G hv e1 hH hG hG2).trans (h2 x0 y0 w h v G H' (by omega) hG hG2 e2 hH2)
theorem im_VSc {s t : hm_St} {V : Nat} (h8 : t 25 8 = s 25 8) (h27 : ∀ j, t 27 j = s 27 j) (h29 : ∀ j, t 29 j = s 29 j) (h31 : ∀ j, t 31 j = s 31 j) (h33 : ∀ j, t 33 j = s 33 j) : im_VS s t V := by
  intro x0 y0 w h v H H' _ e1 h1 e2 h2
  have : H = H' := (nI_eq (by omega) (by omega)).mp (e1.symm.trans (h8.symm.trans e2))
  subst this
  refine fb_ct_cong fun k hk => ?_
  unfold im_lv
  rw [h27, h29, h31, h33]
section ImH
variable {s t : hm_St} {side H V : Nat} {live : Nat → Bool}
theorem im_HIc (h : im_HI s side H V live) (e8 : t 25 8 = s 25 8) (e9 : t 25 9 = s 25 9) (e : ∀ c j, (c = 27 ∨ c = 29 ∨ c = 31 ∨ c = 33 ∨ c = 35) → t c j = s c j) : im_HI t side H V live := by
  obtain ⟨a1, a2, a3, a4, a5, a6, a7, a8⟩ := h
  have o : im_opn t = im_opn s := by
    funext i
    unfold im_opn
    rw [e 33 i (by decide)]
  refine ⟨e8.trans a1, e9.trans a2, a3, a4, fun i hi => ?_, fun p hp hl => ?_, fun p q hp hq h1 h2 h3 => a7 p q hp hq h1 h2 ?_, by rw [o]; exact a8⟩
  · rw [e 31 i (by decide), e 27 i (by decide), e 29 i (by decide), e 33 i (by decide)]
    exact a5 i hi
  · obtain ⟨l, b1, b2, b3⟩ := a6 p hp hl
    exact ⟨l, b1, (e 35 p (by decide)).trans b2, (e 33 l (by decide)).trans b3⟩
  · rw [e 35 p (by decide), e 35 q (by decide)] at h3
    exact h3
theorem im_HIv (h : im_HI s side H V live) (e8 : t 25 8 = s 25 8) (e9 : t 25 9 = nI (V + 1)) (hV : V + 1 < 1000000) (e : ∀ c j, (c = 27 ∨ c = 29 ∨ c = 31 ∨ c = 33 ∨ c = 35) → t c j = s c j) : im_HI t side H (V + 1) live := by
  obtain ⟨a1, a2, a3, a4, a5, a6, a7, a8⟩ := h
  have o : im_opn t = im_opn s := by
    funext i
    unfold im_opn
    rw [e 33 i (by decide)]
  refine ⟨e8.trans a1, e9, a3, hV, fun i hi => ?_, fun p hp hl => ?_, fun p q hp hq h1 h2 h3 => a7 p q hp hq h1 h2 ?_, by rw [o]; exact a8⟩
  · rw [e 31 i (by decide), e 27 i (by decide), e 29 i (by decide), e 33 i (by decide)]
    obtain ⟨b, x, y, c1, c2, c3, c4, c5, c6, c7, c8⟩ := a5 i hi
    refine ⟨b, x, y, c1, c2, by omega, c4, c5, c6, c7, ?_⟩
    rcases c8 with r | ⟨e, r1, r2⟩
    · exact Or.inl r
    · exact Or.inr ⟨e, r1, by omega⟩
  · obtain ⟨l, b1, b2, b3⟩ := a6 p hp hl
    exact ⟨l, b1, (e 35 p (by decide)).trans b2, (e 33 l (by decide)).trans b3⟩
  · rw [e 35 p (by decide), e 35 q (by decide)] at h3
    exact h3
/-- the version rises -/
theorem im_rise (h : im_HI s side H V live) (hV : V + 1 < 1000000) : im_HI (T_117 s) side H (V + 1) live ∧ im_VS s (T_117 s) V := by
  have e : ∀ c j, c ≠ 25 → T_117 s c j = s c j := by
    intro c j hc
    unfold T_117
    rw [hm_w1n hc]
  have e8 : T_117 s 25 8 = s 25 8 := by
    unfold T_117
    rw [im_wj (by decide)]
  refine ⟨im_HIv h e8 ?_ hV fun c j hc => e c j ?_, im_VSc e8 (fun j => e _ _ (by decide)) (fun j => e _ _ (by decide)) (fun j => e _ _ (by decide)) (fun j => e _ _ (by decide))⟩
  · unfold T_117
    rw [im_ws, h.2.1, nI_1]
  · rcases hc with r | r | r | r | r <;> omega
/-- a point's spell begins -/
theorem im_begin {p x y : Nat} (h : im_HI s side H V live) (hp : p < 80) (hl : live p = false) (hx : x < side) (hy : y < side) (hH : H < 2048) (hV : 1 ≤ V) :
    im_HI (T_120 s (nI p) (nI x) (nI y)) side (H + 1) V (fun q => if q = p then true else live q) ∧ ∀ W, W < V → im_VS s (T_120 s (nI p) (nI x) (nI y)) W := by
  obtain ⟨a1, a2, a3, a4, a5, a6, a7, a8⟩ := h
  have E : T_120 s (nI p) (nI x) (nI y) = hm_w1 (hm_w1 (hm_w1 (hm_w1 (hm_w1 (hm_w1 (hm_w1 s 27 H (nI x)) 29 H (nI y)) 31 H (nI V)) 33 H 2147483647) 35 p (nI H)) 37 p (s 37 p + 1)) 25 8 (nI (H + 1)) := by
    unfold T_120
    have q : ∀ (u : hm_St) (j : Nat) (c : Nat) (v : Int32) (k : Nat), u 25 j = s 25 j → c ≠ 25 → hm_w1 u c k v 25 j = s 25 j := fun u j c v k hu hc => (hm_w1n (Ne.symm hc)).trans hu
    simp only [a1, im_set hH, im_set hp, im_add hp, hm_w1n (show (25 : Nat) ≠ 27 by decide), hm_w1n (show (25 : Nat) ≠ 29 by decide), hm_w1n (show (25 : Nat) ≠ 31 by decide), hm_w1n (show (25 : Nat) ≠ 33 by decide), hm_w1n (show (25 : Nat) ≠ 35 by decide), hm_w1n (show (25 : Nat) ≠ 37 by decide), a2, hm_w1n (show (37 : Nat) ≠ 27 by decide), hm_w1n (show (37 : Nat) ≠ 29 by decide), hm_w1n (show (37 : Nat) ≠ 31 by decide), hm_w1n (show (37 : Nat) ≠ 33 by decide), hm_w1n (show (37 : Nat) ≠ 35 by decide), nI_1]
  rw [E]
  have e27 : ∀ j, hm_w1 (hm_w1 (hm_w1 (hm_w1 (hm_w1 (hm_w1 (hm_w1 s 27 H (nI x)) 29 H (nI y)) 31 H (nI V)) 33 H 2147483647) 35 p (nI H)) 37 p (s 37 p + 1)) 25 8 (nI (H + 1)) 27 j = if j = H then nI x else s 27 j := by
    intro j
    rw [hm_w1n (by decide), hm_w1n (by decide), hm_w1n (by decide), hm_w1n (by decide), hm_w1n (by decide), hm_w1n (by decide), im_wif]
  have e29 : ∀ j, hm_w1 (hm_w1 (hm_w1 (hm_w1 (hm_w1 (hm_w1 (hm_w1 s 27 H (nI x)) 29 H (nI y)) 31 H (nI V)) 33 H 2147483647) 35 p (nI H)) 37 p (s 37 p + 1)) 25 8 (nI (H + 1)) 29 j = if j = H then nI y else s 29 j := by
    intro j
    rw [hm_w1n (by decide), hm_w1n (by decide), hm_w1n (by decide), hm_w1n (by decide), hm_w1n (by decide), im_wif, hm_w1n (by decide)]
  have e31 : ∀ j, hm_w1 (hm_w1 (hm_w1 (hm_w1 (hm_w1 (hm_w1 (hm_w1 s 27 H (nI x)) 29 H (nI y)) 31 H (nI V)) 33 H 2147483647) 35 p (nI H)) 37 p (s 37 p + 1)) 25 8 (nI (H + 1)) 31 j = if j = H then nI V else s 31 j := by
    intro j
    rw [hm_w1n (by decide), hm_w1n (by decide), hm_w1n (by decide), hm_w1n (by decide), im_wif, hm_w1n (by decide), hm_w1n (by decide)]
  have e33 : ∀ j, hm_w1 (hm_w1 (hm_w1 (hm_w1 (hm_w1 (hm_w1 (hm_w1 s 27 H (nI x)) 29 H (nI y)) 31 H (nI V)) 33 H 2147483647) 35 p (nI H)) 37 p (s 37 p + 1)) 25 8 (nI (H + 1)) 33 j = if j = H then 2147483647 else s 33 j := by
    intro j
    rw [hm_w1n (by decide), hm_w1n (by decide), hm_w1n (by decide), im_wif, hm_w1n (by decide), hm_w1n (by decide), hm_w1n (by decide)]
  have e35 : ∀ j, hm_w1 (hm_w1 (hm_w1 (hm_w1 (hm_w1 (hm_w1 (hm_w1 s 27 H (nI x)) 29 H (nI y)) 31 H (nI V)) 33 H 2147483647) 35 p (nI H)) 37 p (s 37 p + 1)) 25 8 (nI (H + 1)) 35 j = if j = p then nI H else s 35 j := by
    intro j
    rw [hm_w1n (by decide), hm_w1n (by decide), im_wif, hm_w1n (by decide), hm_w1n (by decide), hm_w1n (by decide), hm_w1n (by decide)]
  have e8 : hm_w1 (hm_w1 (hm_w1 (hm_w1 (hm_w1 (hm_w1 (hm_w1 s 27 H (nI x)) 29 H (nI y)) 31 H (nI V)) 33 H 2147483647) 35 p (nI H)) 37 p (s 37 p + 1)) 25 8 (nI (H + 1)) 25 8 = nI (H + 1) := im_ws
  have e9 : hm_w1 (hm_w1 (hm_w1 (hm_w1 (hm_w1 (hm_w1 (hm_w1 s 27 H (nI x)) 29 H (nI y)) 31 H (nI V)) 33 H 2147483647) 35 p (nI H)) 37 p (s 37 p + 1)) 25 8 (nI (H + 1)) 25 9 = s 25 9 := by
    rw [im_wj (by decide), hm_w1n (by decide), hm_w1n (by decide), hm_w1n (by decide), hm_w1n (by decide), hm_w1n (by decide), hm_w1n (by decide)]
  generalize hm_w1 (hm_w1 (hm_w1 (hm_w1 (hm_w1 (hm_w1 (hm_w1 s 27 H (nI x)) 29 H (nI y)) 31 H (nI V)) 33 H 2147483647) 35 p (nI H)) 37 p (s 37 p + 1)) 25 8 (nI (H + 1)) = t at e27 e29 e31 e33 e35 e8 e9
  refine ⟨⟨e8, e9.trans a2, by omega, a4, fun i hi => ?_, fun q hq hql => ?_, fun q r hq hr h1 h2 h3 => ?_, ?_⟩, fun W hW => ?_⟩
  · rw [e31, e27, e29, e33]
    by_cases r : i = H
    · exact ⟨V, x, y, if_pos r, hV, Nat.le_refl _, if_pos r, hx, if_pos r, hy, Or.inl (if_pos r)⟩
    · rw [if_neg r, if_neg r, if_neg r, if_neg r]
      exact a5 i (by omega)
  · dsimp only at hql
    by_cases r : q = p
    · exact ⟨H, by omega, by rw [e35, if_pos r], by rw [e33, if_pos rfl]⟩
    · rw [if_neg r] at hql
      obtain ⟨l, b1, b2, b3⟩ := a6 q hq hql
      exact ⟨l, by omega, by rw [e35, if_neg r]; exact b2, by rw [e33, if_neg (by omega)]; exact b3⟩
  · dsimp only at h1 h2
    rw [e35, e35] at h3
    by_cases c1 : q = p
    · by_cases c2 : r = p
      · omega
      · rw [if_neg c2] at h2 h3
        rw [if_pos c1] at h3
        obtain ⟨l, b1, b2, b3⟩ := a6 r hr h2
        rw [b2, nI_eq (by omega) (by omega)] at h3
        omega
    · rw [if_neg c1] at h1 h3
      by_cases c2 : r = p
      · rw [if_pos c2] at h3
        obtain ⟨l, b1, b2, b3⟩ := a6 q hq h1
        rw [b2, nI_eq (by omega) (by omega)] at h3
        omega
      · rw [if_neg c2] at h2 h3
        exact a7 q r hq hr h1 h2 h3
  · have o : im_opn t = fun k => if k = H then true else im_opn s k := by
      funext k
      unfold im_opn
      rw [e33]
      by_cases r : k = H
      · rw [if_pos r, if_pos r]
        simp
      · rw [if_neg r, if_neg r]
    rw [o, fb_ct_succ, if_pos rfl, fb_ct_out (im_opn s) true (Nat.le_refl H), if_pos rfl]
    rw [im_ctT0 hp hl, a8]
  · intro x0 y0 w h v G G' hv g1 g2 g3 g4
    have i1 : G = H := (nI_eq (by omega) (by omega)).mp (g1.symm.trans a1)
    have i2 : G' = H + 1 := (nI_eq (by omega) (by omega)).mp (g3.symm.trans e8)
    subst i1 i2
    rw [fb_ct_succ]
    have z : im_lv t x0 y0 w h (nI v) G = false := by
      unfold im_lv
      rw [e31, if_pos rfl]
      have : nI v < nI V := nI_lt (by omega) (by omega)
      simp [this]
    rw [z, if_neg (by decide), Nat.add_zero]
    refine fb_ct_cong fun k hk => ?_
    unfold im_lv
    rw [e31, e33, e27, e29, if_neg (by omega), if_neg (by omega), if_neg (by omega), if_neg (by omega)]
/-- a point's spell ends -/
theorem im_end {p : Nat} (h : im_HI s side H V live) (hp : p < 80) (hl : live p = true) :
    im_HI (T_121 s (nI p)) side H V (fun q => if q = p then false else live q) ∧ ∀ W, W < V → im_VS s (T_121 s (nI p)) W := by
  obtain ⟨a1, a2, a3, a4, a5, a6, a7, a8⟩ := h
  obtain ⟨l, l1, l2, l3⟩ := a6 p hp hl
  have E : T_121 s (nI p) = hm_w1 s 33 l (nI V) := by
    unfold T_121
    rw [im_at hp, l2, im_set (by omega), a2]
  rw [E]
  have hm : ¬ (nI V = 2147483647) := by
    rw [show (2147483647 : Int32) = nI 2147483647 from rfl, nI_eq (by omega) (by decide)]
    omega
  refine ⟨⟨(hm_w1n (by decide)).trans a1, (hm_w1n (by decide)).trans a2, a3, a4, fun i hi => ?_, fun q hq hql => ?_, fun q r hq hr h1 h2 h3 => ?_, ?_⟩, fun W hW => ?_⟩
  · rw [hm_w1n (by decide), hm_w1n (by decide), hm_w1n (by decide), im_wif]
    obtain ⟨b, x, y, c1, c2, c3, c4, c5, c6, c7, c8⟩ := a5 i hi
    refine ⟨b, x, y, c1, c2, c3, c4, c5, c6, c7, ?_⟩
    by_cases r : i = l
    · rw [if_pos r]
      exact Or.inr ⟨V, rfl, Nat.le_refl _⟩
    · rw [if_neg r]
      exact c8
  · dsimp only at hql
    by_cases r : q = p
    · rw [if_pos r] at hql
      exact absurd hql (by decide)
    · rw [if_neg r] at hql
      obtain ⟨l', b1, b2, b3⟩ := a6 q hq hql
      refine ⟨l', b1, (hm_w1n (by decide)).trans b2, ?_⟩
      rw [im_wif, if_neg]
      · exact b3
      · intro e
        subst e
        exact r (a7 q p hq hp hql hl (b2.trans l2.symm))
  · dsimp only at h1 h2
    have c1 : ¬ q = p := by
      intro c1
      rw [if_pos c1] at h1
      exact absurd h1 (by decide)
    have c2 : ¬ r = p := by
      intro c2
      rw [if_pos c2] at h2
      exact absurd h2 (by decide)
    rw [if_neg c1] at h1
    rw [if_neg c2] at h2
    rw [hm_w1n (by decide), hm_w1n (by decide)] at h3
    exact a7 q r hq hr h1 h2 h3
  · have o : im_opn (hm_w1 s 33 l (nI V)) = fun k => if k = l then false else im_opn s k := by
      funext k
      unfold im_opn
      rw [im_wif]
      by_cases r : k = l
      · rw [if_pos r, if_pos r]
        simp [hm]
      · rw [if_neg r, if_neg r]
    have u3 : im_opn s l = true := by
      unfold im_opn
      simp [l3]
    rw [o]
    have u := im_ctF1 hp hl
    have u2 := im_ctF1 l1 u3
    omega
  · intro x0 y0 w h v G G' hv g1 g2 g3 g4
    rw [hm_w1n (by decide)] at g3
    have i1 : G = G' := (nI_eq (by omega) (by omega)).mp (g1.symm.trans g3)
    subst i1
    refine fb_ct_cong fun k hk => ?_
    unfold im_lv
    rw [hm_w1n (show (31 : Nat) ≠ 33 by decide), im_wif, hm_w1n (show (27 : Nat) ≠ 33 by decide), hm_w1n (show (29 : Nat) ≠ 33 by decide)]
    by_cases r : k = l
    · subst r
      rw [if_pos rfl, l3]
      have v1 : ¬ (2147483647 : Int32) ≤ nI v := show ¬ nI 2147483647 ≤ nI v from nI_ge (by omega) (by decide)
      have v2 : ¬ nI V ≤ nI v := nI_ge (by omega) (by omega)
      simp [v1, v2]
    · rw [if_neg r]
end ImH
