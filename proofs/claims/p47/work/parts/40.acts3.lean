/-! bulk, tick, draw, share. -/
section ImD
variable {s : hm_St} {o c cap P H V M N : Nat} {g : Nat → hm_Sh}
theorem im_GOt {t u : hm_St} {P2 H2 V2 M2 a b : Nat} (ht : im_TI t o c cap P2 H2 V2 M2) (h1 : H2 ≤ H + a) (h2 : V2 ≤ V + a) (h3 : V ≤ V2) (hv : im_VS s t V) (hu : im_GO t u o c cap H2 V2 b) : im_GO s u o c cap H V (a + b) := by
  obtain ⟨P3, H3, V3, M3, k1, k2, k3, k4, k5⟩ := hu
  have g1 := ht.1.2.2.2.2.2.2.1
  exact ⟨P3, H3, V3, M3, k1, by omega, by omega, by omega, im_VSt hv k5 h3 g1.1 g1.2.2.1⟩
theorem im_GOw {t : hm_St} {a b : Nat} (h : im_GO s t o c cap H V a) (hab : a ≤ b) : im_GO s t o c cap H V b := by
  obtain ⟨P3, H3, V3, M3, k1, k2, k3, k4, k5⟩ := h
  exact ⟨P3, H3, V3, M3, k1, by omega, by omega, k4, k5⟩
theorem im_T42 {m : Nat} (hm : m < 1000) : T_42 s (nI m) = nI ((37 * m + 11) % 113) := by
  unfold T_42
  rw [show (37 : Int32) = nI 37 from rfl, show (11 : Int32) = nI 11 from rfl, show (113 : Int32) = nI 113 from rfl, pk_mul, nI_add]
  exact pk_rem (by omega) (by decide) (by decide)
theorem im_bulk {many seed : Nat} (h : im_TI s o c cap P H V M) (ho : o < 6) (hc : c < 6) (h1 : 1 ≤ many) (h2 : many ≤ 40) (h3 : seed ≤ 99) (hH : H + many ≤ 2048) (hV : V + many < 1000000) : im_RS (T_6 N g s (nI many) (nI seed)) N g s o c cap H V many := by
  have pw := im_pw5 o ho
  unfold T_6
  rw [show T_34 s (nI many) 1 40 = 1 from im_btwN (lo := 1) (hi := 40) h1 h2 (by decide), if_neg (by decide), show T_34 s (nI seed) 0 99 = 1 from im_btwN (lo := 0) (hi := 99) (Nat.zero_le _) h3 (by decide), if_neg (by decide), show (0 : Int32) = nI 0 from rfl, im_df (by omega) (by omega)]
  refine loop_i (σ := hm_St × Int32 × Int32) (fun n i q => im_RS (T_6_36 N g n q.1 (nI many) (nI seed) q.2.1 q.2.2 (nI i)) N g s o c cap H V many) (fun i q => im_GO s q.1 o c cap H V i ∧ ∃ m, m < 200 ∧ q.2.1 = nI m) many ?_ ?_ _ 0 (s, nI seed, nI 0) (Nat.zero_le _) (by omega) ⟨im_GOr h 0, seed, by omega, rfl⟩
  · intro n ⟨t, v3, v4⟩ ⟨b1, b2⟩
    show im_RS (T_6_36 N g (n + 1) t (nI many) (nI seed) v3 v4 (nI many)) N g s o c cap H V many
    rw [T_6_36, if_pos (Int32.le_refl _)]
    exact im_RSk (Or.inl rfl) b1
  · intro n i ⟨t, v3, v4⟩ hi ⟨b1, b2⟩ ih
    dsimp only at b1 b2
    show im_RS (T_6_36 N g (n + 1) t (nI many) (nI seed) v3 v4 (nI i)) N g s o c cap H V many
    obtain ⟨P2, H2, V2, M2, k1, k2, k3, k4, k5⟩ := b1
    obtain ⟨m, m1, m2⟩ := b2
    have r1 : (37 * m + 11) % 113 < 113 := Nat.mod_lt _ (by decide)
    have r2 : (37 * ((37 * m + 11) % 113) + 11) % 113 < 113 := Nat.mod_lt _ (by decide)
    have x1 : (37 * m + 11) % 113 % 2 ^ o < 2 ^ o := Nat.mod_lt _ (Nat.two_pow_pos o)
    have x2 : (37 * ((37 * m + 11) % 113) + 11) % 113 % 2 ^ o < 2 ^ o := Nat.mod_lt _ (Nat.two_pow_pos o)
    have hK := (im_Kat k1.1.1 ho hc x1 x2).2.1
    rw [T_6_36, if_neg (nI_ge hi (by omega)), m2, im_T42 (by omega), im_T42 (by omega), im_T86 k1.1.1, show nI (2 ^ o) - 1 = nI (2 ^ o - 1) from pk_sub pw.2.2.2, fa_mask, fa_mask, im_T41 k1.1 ho hc x1 x2, nI_1]
    rcases im_T140 k1.1 ho hK with ⟨z1, z2⟩ | ⟨p, z1, z2, z3, z4, z5⟩
    · rw [if_pos z1]
      unfold T_157
      rw [k1.1.2.2.2.1]
      by_cases q : P2 < 80
      · rw [if_neg (show ¬ (80 : Int32) ≤ nI P2 from nI_ge (b := 80) q (by decide))]
        obtain ⟨c1, c2⟩ := im_putNew k1 ho hc x1 x2 q z2 (by omega) (by omega)
        exact ih (_, _, _) ⟨im_GOt (a := i) (b := 1) k1 k2 k3 k4 k5 ⟨P2 + 1, H2 + 1, V2 + 1, M2, c1, Nat.le_refl _, Nat.le_refl _, Nat.le_succ _, c2⟩, _, by omega, rfl⟩
      · rw [if_pos (show (80 : Int32) ≤ nI P2 from nI_le (a := 80) (by omega) (by have := k1.1.2.2.2.2.1; omega))]
        exact ih (t, _, _) ⟨⟨P2, H2, V2, M2, k1, by omega, by omega, k4, k5⟩, _, by omega, rfl⟩
    · rw [z3, if_neg (im_nm1 z1).1]
      exact ih (t, _, _) ⟨⟨P2, H2, V2, M2, k1, by omega, by omega, k4, k5⟩, _, by omega, rfl⟩
/-- a number kept between 0 and m -/
theorem im_clip {m : Nat} (hm : m < 2 ^ 31) (z : Int32) : ∃ x, x ≤ m ∧ hm_max 0 (hm_min (nI m) z) = nI x := by
  by_cases q : z < 0
  · refine ⟨0, Nat.zero_le _, ?_⟩
    have q2 : z < nI m := by
      rw [Int32.lt_iff_toInt_lt] at q ⊢
      rw [nI_toInt hm]
      rw [show (0 : Int32).toInt = 0 from rfl] at q
      omega
    unfold hm_min
    rw [if_pos q2]
    unfold hm_max
    rw [if_neg]
    · rfl
    · intro w
      rw [Int32.lt_iff_toInt_lt] at q w
      omega
  · obtain ⟨j, j1, rfl⟩ := nI_of q
    rw [im_min hm j1, show (0 : Int32) = nI 0 from rfl, im_max (by decide) (by omega)]
    exact ⟨_, by omega, rfl⟩
theorem im_soon {p : Int32} {d : Int32} (h : im_CV s o) (ho : o < 6) : (∃ x, x < 2 ^ o ∧ T_169 s p d (T_86 s) = nI x) ∧ ∃ y, y < 2 ^ o ∧ T_170 s p d (T_86 s) = nI y := by
  have pw := im_pw5 o ho
  unfold T_169 T_170
  rw [im_T86 h, show (1 : Int32) = nI 1 from rfl, pk_sub pw.2.2.2]
  obtain ⟨x, x1, x2⟩ := im_clip (m := 2 ^ o - 1) (by omega) (T_161 s p + d * T_163 s p)
  obtain ⟨y, y1, y2⟩ := im_clip (m := 2 ^ o - 1) (by omega) (T_162 s p + d * T_164 s p)
  exact ⟨⟨x, by omega, x2⟩, y, by omega, y2⟩
def im_GP (s t : hm_St) (o c cap P H V M a : Nat) : Prop := ∃ H' V', im_TI t o c cap P H' V' M ∧ H' ≤ H + a ∧ V' ≤ V + a ∧ V ≤ V' ∧ im_VS s t V
theorem im_T47 {p : Nat} (h : im_TI s o c cap P H V M) (ho : o < 6) (hc : c < 6) (hp : p < 80) (hl : im_al s p = true) (hH : H < 2048) (hV : V + 1 < 1000000) : im_GP s (T_47 s (nI p)).2 o c cap P H V M 1 := by
  obtain ⟨⟨x, x1, x2⟩, y, y1, y2⟩ := im_soon (p := nI p) (d := 1) h.1.1 ho
  have hK := (im_Kat h.1.1 ho hc x1 y1).2.1
  unfold T_47
  rw [x2, y2, im_T41 h.1 ho hc x1 y1]
  rcases im_T140 h.1 ho hK with ⟨z1, z2⟩ | ⟨p2, z1, z2, z3, z4, z5⟩
  · rw [if_pos z1]
    obtain ⟨b1, b2⟩ := im_reloc h ho hc hp hl x1 y1 z2 hH hV
    dsimp only
    exact ⟨H + 1, V + 1, b1, Nat.le_refl _, Nat.le_refl _, Nat.le_succ _, b2⟩
  · rw [z3, if_neg (im_nm1 z1).1]
    by_cases w : nI p2 = nI p
    · rw [if_pos w]
      dsimp only
      exact ⟨H, V, h, Nat.le_succ _, Nat.le_succ _, Nat.le_refl _, im_VSr s V⟩
    · rw [if_neg w]
      dsimp only
      have e : ∀ b j, b ≠ 2 → hm_w1 s 2 12 (s 2 12 + 1) b j = s b j := fun b j hb => hm_w1n hb
      refine ⟨H, V, im_TIc h (fun b j hb => e b j ?_) (im_wj (by decide)) (im_wj (by decide)), Nat.le_succ _, Nat.le_succ _, Nat.le_refl _, im_VSc (e _ _ (by decide)) (fun j => e _ _ (by decide)) (fun j => e _ _ (by decide)) (fun j => e _ _ (by decide)) (fun j => e _ _ (by decide))⟩
      revert hb
      simp only [List.mem_cons, List.not_mem_nil, or_false]
      omega
theorem im_GPt {t u : hm_St} {H2 V2 a b : Nat} (ht : im_TI t o c cap P H2 V2 M) (h1 : H2 ≤ H + a) (h2 : V2 ≤ V + a) (h3 : V ≤ V2) (hv : im_VS s t V) (hu : im_GP t u o c cap P H2 V2 M b) : im_GP s u o c cap P H V M (a + b) := by
  obtain ⟨H3, V3, k1, k2, k3, k4, k5⟩ := hu
  have g1 := ht.1.2.2.2.2.2.2.1
  exact ⟨H3, V3, k1, by omega, by omega, by omega, im_VSt hv k5 h3 g1.1 g1.2.2.1⟩
theorem im_GPw {t : hm_St} {a b : Nat} (h : im_GP s t o c cap P H V M a) (hab : a ≤ b) : im_GP s t o c cap P H V M b := by
  obtain ⟨H3, V3, k1, k2, k3, k4, k5⟩ := h
  exact ⟨H3, V3, k1, by omega, by omega, k4, k5⟩
theorem im_GPo {t : hm_St} {a : Nat} (h : im_GP s t o c cap P H V M a) : im_GO s t o c cap H V a := by
  obtain ⟨H3, V3, k⟩ := h
  exact ⟨P, H3, V3, M, k⟩
theorem im_tick {ticks : Nat} (h : im_TI s o c cap P H V M) (ho : o < 6) (hc : c < 6) (h1 : 1 ≤ ticks) (h2 : ticks ≤ 2) (hV : V + 200 < 1000000) : im_RS (T_18 N g s (nI ticks)) N g s o c cap H V (if H ≤ 400 then 160 else 0) := by
  have hP := h.1.2.2.2.2.1
  have hHb := h.1.2.2.2.2.2.2.1.2.2.1
  unfold T_18
  rw [show T_34 s (nI ticks) 1 9 = 1 from im_btwN (lo := 1) (hi := 9) h1 (by omega) (by decide), if_neg (by decide)]
  unfold T_112
  rw [h.1.2.2.2.2.2.2.1.1]
  by_cases q : H ≤ 400
  · rw [if_neg (show ¬ (400 : Int32) < nI H from nI_nlt (a := 400) q (by decide)), if_neg (by decide), if_pos q, show (0 : Int32) = nI 0 from rfl, im_df (by omega) (by omega)]
    refine loop_i (σ := hm_St × Int32) (fun n i q => im_RS (T_18_35 N g n q.1 (nI ticks) q.2 (nI i)) N g s o c cap H V 160) (fun i q => im_GP s q.1 o c cap P H V M (80 * i)) ticks ?_ ?_ _ 0 (s, nI 0) (Nat.zero_le _) (by omega) ⟨H, V, h, by omega, by omega, Nat.le_refl _, im_VSr s V⟩
    · intro n ⟨t, v2⟩ b1
      show im_RS (T_18_35 N g (n + 1) t (nI ticks) v2 (nI ticks)) N g s o c cap H V 160
      rw [T_18_35, if_pos (Int32.le_refl _)]
      exact im_RSk (Or.inl rfl) (im_GOw (im_GPo b1) (by omega))
    · intro n i ⟨t, v2⟩ hi b1 ih
      show im_RS (T_18_35 N g (n + 1) t (nI ticks) v2 (nI i)) N g s o c cap H V 160
      rw [T_18_35, if_neg (nI_ge hi (by omega))]
      have e5 : T_157 t = nI P := by
        obtain ⟨H3, V3, k1, _⟩ := b1
        exact k1.1.2.2.2.1
      rw [e5, show (0 : Int32) = nI 0 from rfl, im_df (by omega) (by omega)]
      refine loop_i (σ := hm_St × Int32) (fun m j q => im_RS (T_18_43 (fun s v1 v2 v3 => T_18_35 N g n s v1 v2 v3) N g m q.1 (nI ticks) q.2 (nI i) (nI j)) N g s o c cap H V 160) (fun j q => im_GP s q.1 o c cap P H V M (80 * i + j)) P ?_ ?_ _ 0 (t, v2) (Nat.zero_le _) (by omega) b1
      · intro m ⟨u, w2⟩ d1
        show im_RS (T_18_43 (fun s v1 v2 v3 => T_18_35 N g n s v1 v2 v3) N g (m + 1) u (nI ticks) w2 (nI i) (nI P)) N g s o c cap H V 160
        have f5 : T_157 u = nI P := by
          obtain ⟨H3, V3, k1, _⟩ := d1
          exact k1.1.2.2.2.1
        rw [T_18_43, f5, if_pos (Int32.le_refl _), nI_1]
        exact ih (u, w2) (im_GPw d1 (by omega))
      · intro m j ⟨u, w2⟩ hj d1 ih2
        show im_RS (T_18_43 (fun s v1 v2 v3 => T_18_35 N g n s v1 v2 v3) N g (m + 1) u (nI ticks) w2 (nI i) (nI j)) N g s o c cap H V 160
        obtain ⟨H3, V3, k1, k2, k3, k4, k5⟩ := d1
        have f5 : T_157 u = nI P := k1.1.2.2.2.1
        rw [T_18_43, f5, if_neg (nI_ge hj (by omega)), im_T160 k1.1.2.2.2.2.2.1 k1.1.2.2.2.1 hP (by omega), nI_1]
        by_cases r : im_al u j = true
        · have g1 := im_T47 k1 ho hc (by omega) r (by omega) (by omega)
          have g2 := im_GPt k1 k2 k3 k4 k5 g1
          rw [if_pos r, if_neg (by decide)]
          by_cases w : (T_47 u (nI j)).1 = 0
          · rw [if_pos w]
            exact ih2 (_, _) (im_GPw g2 (by omega))
          · rw [if_neg w]
            exact ih2 (_, _) (im_GPw g2 (by omega))
        · rw [if_neg r, if_pos rfl]
          exact ih2 (_, _) ⟨H3, V3, k1, by omega, by omega, k4, k5⟩
  · rw [if_pos (show (400 : Int32) < nI H from nI_lt (a := 400) (by omega) (by omega)), if_pos rfl]
    exact im_RSs h (Or.inr (Or.inl rfl)) _
theorem im_T71 {l q : Nat} (h47 : s 47 1 = nI o) (ho : o < 6) (hl : l ≤ o) (hq : q < 4 ^ l) : T_71 s (nI l) (nI q) = 1 := by
  have pw := im_pw5 l (by omega)
  unfold T_71 T_70
  rw [h47, if_neg (nI_pos (by omega)), if_neg (nI_nlt hl (by omega)), if_neg (by decide), if_neg (nI_pos (by omega)), im_T72 (by omega), if_neg (nI_ge hq (by omega))]
theorem im_draw {l q : Nat} (h : im_TI s o c cap P H V M) (ho : o < 6) (hl : l ≤ o) (hq : q < 4 ^ l) : im_RS (T_26 N g s (nI l) (nI q)) N g s o c cap H V 0 := by
  unfold T_26
  rw [im_T71 h.1.2.2.2.2.2.2.2.1.1 ho hl hq, if_neg (by decide)]
  by_cases r : T_188 s (nI l) (nI q) = 0
  · rw [if_pos r]
    exact im_RSs h (Or.inr (Or.inl rfl)) 0
  · rw [if_neg r]
    have e : ∀ b j, b ∉ [50, 52, 54, 56, 58] → T_189 s (nI l) (nI q) (T_75 s (nI l) (nI q)) b j = s b j := by
      intro b j hb
      simp only [List.mem_cons, List.not_mem_nil, or_false, not_or] at hb
      exact N_189 hb.1 hb.2.1 hb.2.2.1 hb.2.2.2.1 hb.2.2.2.2
    refine im_RSk (Or.inl rfl) (im_GOc h (fun b j hb => e b j ?_) (e _ _ (by decide)) (e _ _ (by decide)) 0)
    revert hb
    simp only [List.mem_cons, List.not_mem_nil, or_false, not_or]
    omega
theorem im_share {m : Nat} (h : im_TI s o c cap P H V M) (h1 : 1 ≤ m) (h2 : m ≤ 4) : im_RS (T_21 N g s (nI m)) N g s o c cap H V 0 := by
  obtain ⟨Z, hZ, hZb⟩ : ∃ Z, s 42 4 = nI Z ∧ Z ≤ 1024 := by
    obtain ⟨Z, fl, hF, _⟩ := h.1.2.2.1
    have z1 := im_Zn hF
    have z2 := hF.2.2.1
    exact ⟨Z, hF.2.1, by omega⟩
  unfold T_21
  rw [show T_34 s (nI m) 1 4 = 1 from im_btwN (lo := 1) (hi := 4) h1 h2 (by decide), if_neg (by decide), show T_133 s = nI Z from hZ, show (0 : Int32) = nI 0 from rfl, im_df (by omega) (by omega)]
  refine loop_i (σ := Int32) (fun n j w => im_RS (T_21_13 N g n s (nI m) w (nI j)) N g s o c cap H V 0) (fun _ _ => True) Z ?_ ?_ _ 0 (nI 0) (Nat.zero_le _) (by omega) trivial
  · intro n w _
    show im_RS (T_21_13 N g (n + 1) s (nI m) w (nI Z)) N g s o c cap H V 0
    rw [T_21_13, show T_133 s = nI Z from hZ, if_pos (Int32.le_refl _)]
    have e : ∀ b j, b ≠ 2 → hm_w1 s 2 9 (nI m) b j = s b j := fun b j hb => hm_w1n hb
    have hz : im_al (hm_w1 s 2 9 (nI m)) = im_al s := by
      funext q
      unfold im_al
      rw [e 20 q (by decide)]
    refine im_RSk (Or.inl rfl) ⟨P, H, V, m, ⟨?_, ?_, im_ws, h1, h2⟩, Nat.le_refl _, Nat.le_refl _, Nat.le_refl _, im_VSc (e _ _ (by decide)) (fun j => e _ _ (by decide)) (fun j => e _ _ (by decide)) (fun j => e _ _ (by decide)) (fun j => e _ _ (by decide))⟩
    · rw [hz]
      refine im_IVc h.1 (fun b j hb => e b j ?_) (im_wj (by decide))
      revert hb
      simp only [List.mem_cons, List.not_mem_nil, or_false]
      omega
    · rw [hz, e _ _ (by decide)]
      exact h.2.1
  · intro n j w hj _ ih
    show im_RS (T_21_13 N g (n + 1) s (nI m) w (nI j)) N g s o c cap H V 0
    rw [T_21_13, show T_133 s = nI Z from hZ, if_neg (nI_ge hj (by omega)), nI_1]
    by_cases q : T_146 s (nI j) (nI m) = T_146 s (nI j) (s 2 9)
    · rw [if_pos q]
      exact ih _ trivial
    · rw [if_neg q]
      exact ih _ trivial
end ImD
