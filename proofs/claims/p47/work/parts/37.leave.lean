/-! A point leaves; moves; is put; is taken away. -/
section ImL
variable {s : hm_St} {o c cap P H V : Nat} {live : Nat → Bool}
theorem im_T161 {p : Nat} (h : im_XY s o P live) (hp : p < 80) (hl : live p = true) : T_161 s (nI p) = nI (im_X s p) ∧ T_162 s (nI p) = nI (im_Y s p) := by
  obtain ⟨b1, b2, b3, b4, b5⟩ := h p hp hl
  unfold T_161 T_162
  rw [im_at hp, im_at hp]
  exact ⟨b2, b4⟩
theorem im_leave {p : Nat} (h : im_IV s o c cap P H V live) (ho : o < 6) (hc : c < 6) (hp : p < 80) (hl : live p = true) :
    im_IV (T_46 s (nI p)) o c cap P H V (fun q => if q = p then false else live q) ∧ (∀ W, W < V → im_VS s (T_46 s (nI p)) W) ∧
    (∀ j, T_46 s (nI p) 44 j = if j = im_K s o c (im_X s p) (im_Y s p) then -2 else s 44 j) := by
  obtain ⟨a1, a2, a3, a4, a5, a6, a7, a8, a9⟩ := h
  have pw := im_pw5 o ho
  obtain ⟨b1, b2, b3, b4, b5⟩ := a6 p hp hl
  have hKl := (im_Kat a1 ho hc b3 b5).2.1
  have E : T_46 s (nI p) = T_191 (T_76 (T_151 (T_121 s (nI p)) (T_39 (T_121 s (nI p)) (T_161 s (nI p)) (T_162 s (nI p)))) (T_161 s (nI p)) (T_162 s (nI p)) (-1)) (T_161 s (nI p)) (T_162 s (nI p)) := rfl
  rw [(im_T161 a6 hp hl).1, (im_T161 a6 hp hl).2] at E
  obtain ⟨hH1, hVS1⟩ := im_end a7 hp hl
  have us : ∀ b j, b ≠ 33 → T_121 s (nI p) b j = s b j := fun b j hb => N_121 hb
  generalize T_121 s (nI p) = s1 at E us hH1 hVS1
  have hCV1 : im_CV s1 o := im_CVc a1 (fun j => us _ _ (by decide)) (fun j => us _ _ (by decide)) (fun j => us _ _ (by decide))
  have hKe : ∀ a b, im_K s1 o c a b = im_K s o c a b := fun a b => im_Kc fun j => us _ _ (by decide)
  have hT39 : T_39 s1 (nI (im_X s p)) (nI (im_Y s p)) = nI (im_K s o c (im_X s p) (im_Y s p)) := by
    rw [im_T39 hCV1 ((us 2 8 (by decide)).trans a2) ho hc b3 b5, hKe]
  rw [hT39] at E
  have hPG1 : im_PG s1 (4 ^ o) cap := im_PGc a3 (fun j => us _ _ (by decide)) (fun j => us _ _ (by decide)) (fun j => us _ _ (by decide))
  have hold := a9.2 p hp hl
  obtain ⟨hPG2, e44⟩ := im_bury hPG1 hKl (by rw [us _ _ (by decide), hold]; exact (im_nm1 hp).1)
  have u2 : ∀ b j, b ≠ 42 → b ≠ 44 → T_151 s1 (nI (im_K s o c (im_X s p) (im_Y s p))) b j = s1 b j := fun b j h1 h2 => N_151 h1 h2
  generalize T_151 s1 (nI (im_K s o c (im_X s p) (im_Y s p))) = s2 at E hPG2 e44 u2
  have h47 : s2 47 1 = nI o := (u2 _ _ (by decide) (by decide)).trans ((us _ _ (by decide)).trans a8.1)
  obtain ⟨b47, b49⟩ := im_T76 (d := -1) h47 ho b3 b5
  have u3 : ∀ b j, b ≠ 49 → T_76 s2 (nI (im_X s p)) (nI (im_Y s p)) (-1) b j = s2 b j := fun b j h1 => N_76 h1
  generalize T_76 s2 (nI (im_X s p)) (nI (im_Y s p)) (-1) = s3 at E b47 b49 u3
  have u4 : ∀ b j, b ≠ 58 → T_191 s3 (nI (im_X s p)) (nI (im_Y s p)) b j = s3 b j := fun b j h1 => N_191 h1
  rw [E]
  generalize T_191 s3 (nI (im_X s p)) (nI (im_Y s p)) = t at u4
  have ut : ∀ b j, b ∉ [33, 42, 44, 49, 58] → t b j = s b j := by
    intro b j hb
    simp only [List.mem_cons, List.not_mem_nil, or_false, not_or] at hb
    rw [u4 b j (by omega), u3 b j (by omega), u2 b j (by omega) (by omega), us b j (by omega)]
  have t1 : ∀ b j, b ∉ [42, 44, 49, 58] → t b j = s1 b j := by
    intro b j hb
    simp only [List.mem_cons, List.not_mem_nil, or_false, not_or] at hb
    rw [u4 b j (by omega), u3 b j (by omega), u2 b j (by omega) (by omega)]
  have t44 : ∀ j, t 44 j = if j = im_K s o c (im_X s p) (im_Y s p) then -2 else s 44 j := fun j => by rw [u4 _ _ (by decide), u3 _ _ (by decide), e44, us _ _ (by decide)]
  have tX : ∀ q, im_X t q = im_X s q := fun q => by unfold im_X; rw [ut _ _ (by decide)]
  have tY : ∀ q, im_Y t q = im_Y s q := fun q => by unfold im_Y; rw [ut _ _ (by decide)]
  have tK : ∀ a b, im_K t o c a b = im_K s o c a b := fun a b => im_Kc fun j => ut _ _ (by decide)
  have lv : ∀ q, (if q = p then false else live q) = true → live q = true ∧ q ≠ p := by
    intro q hq
    by_cases r : q = p
    · rw [if_pos r] at hq
      exact absurd hq (by decide)
    · rw [if_neg r] at hq
      exact ⟨hq, r⟩
  refine ⟨⟨im_CVc a1 (fun j => ut _ _ (by decide)) (fun j => ut _ _ (by decide)) (fun j => ut _ _ (by decide)), (ut _ _ (by decide)).trans a2, ?_, (ut _ _ (by decide)).trans a4, a5, ?_, ?_, ?_, ?_⟩, ?_, t44⟩
  · exact im_PGc hPG2 (fun j => by rw [u4 _ _ (by decide), u3 _ _ (by decide)]) (fun j => by rw [u4 _ _ (by decide), u3 _ _ (by decide)]) (fun j => by rw [u4 _ _ (by decide), u3 _ _ (by decide)])
  · intro q hq hql
    rw [ut _ _ (by decide), ut _ _ (by decide), tX, tY]
    exact a6 q hq (lv q hql).1
  · refine im_HIc hH1 (t1 _ _ (by decide)) (t1 _ _ (by decide)) fun b j hb => t1 b j ?_
    rcases hb with r | r | r | r | r <;> subst r <;> decide
  · refine im_CEsub a8 ho hp hl tX tY ((ut _ _ (by decide)).trans a8.1) fun l c2 hlo hc2 => ?_
    rw [u4 _ _ (by decide), b49 l c2 hlo hc2, u2 _ _ (by decide) (by decide), us _ _ (by decide)]
  · refine ⟨fun k hk2 => ?_, fun q hq hql => ?_⟩
    · rw [t44]
      by_cases r : k = im_K s o c (im_X s p) (im_Y s p)
      · rw [if_pos r]
        exact Or.inr (Or.inl rfl)
      · rw [if_neg r]
        rcases a9.1 k hk2 with z | z | ⟨q, z1, z2, z3, z4⟩
        · exact Or.inl z
        · exact Or.inr (Or.inl z)
        · have e : ¬ q = p := by
            intro e
            rw [e] at z4
            exact r z4.symm
          refine Or.inr (Or.inr ⟨q, z1, (if_neg e).trans z2, z3, ?_⟩)
          rw [tK, tX, tY]
          exact z4
    · obtain ⟨l1, l2⟩ := lv q hql
      rw [tK, tX, tY, t44, a9.2 q hq l1, if_neg]
      intro e
      have z := a9.2 q hq l1
      rw [e, hold] at z
      exact l2 ((nI_eq (by omega) (by omega)).mp z.symm)
  · intro W hWV
    have v1 : im_VS s1 t W := im_VSc (t1 _ _ (by decide)) (fun j => t1 _ _ (by decide)) (fun j => t1 _ _ (by decide)) (fun j => t1 _ _ (by decide)) (fun j => t1 _ _ (by decide))
    exact im_VSt (hVS1 W hWV) v1 (Nat.le_refl _) hH1.1 (by have := a7.2.2.1; omega)
theorem im_lup {p : Nat} (hl : live p = true) : (fun q => if q = p then true else (fun q => if q = p then false else live q) q) = live := by
  funext q
  show (if q = p then true else if q = p then false else live q) = live q
  by_cases r : q = p
  · rw [if_pos r, r, hl]
  · rw [if_neg r, if_neg r]
/-- the version rises -/
theorem im_riseI (h : im_IV s o c cap P H V live) (hV : V + 1 < 1000000) : im_IV (T_117 s) o c cap P H (V + 1) live ∧ im_VS s (T_117 s) V := by
  obtain ⟨a1, a2, a3, a4, a5, a6, a7, a8, a9⟩ := h
  obtain ⟨r1, r2⟩ := im_rise a7 hV
  have u : ∀ b j, b ≠ 25 → T_117 s b j = s b j := fun b j hb => N_117 hb
  generalize T_117 s = t at r1 r2 u
  have x : ∀ q, im_X t q = im_X s q := fun q => by unfold im_X; rw [u 16 q (by decide)]
  have y : ∀ q, im_Y t q = im_Y s q := fun q => by unfold im_Y; rw [u 18 q (by decide)]
  have k : ∀ a b, im_K t o c a b = im_K s o c a b := fun a b => im_Kc fun j => u 9 j (by decide)
  refine ⟨⟨im_CVc a1 (fun j => u 3 j (by decide)) (fun j => u 9 j (by decide)) (fun j => u 11 j (by decide)), (u _ _ (by decide)).trans a2, im_PGc a3 (fun j => u 42 j (by decide)) (fun j => u 44 j (by decide)) (fun j => u 46 j (by decide)), (u 14 5 (by decide)).trans a4, a5, ?_, r1, ?_, ?_⟩, r2⟩
  · intro p hp hl
    rw [u 16 p (by decide), u 18 p (by decide), x, y]
    exact a6 p hp hl
  · refine ⟨(u 47 1 (by decide)).trans a8.1, fun l c2 hl hc => ?_⟩
    have z : im_in t o l c2 live = im_in s o l c2 live := by
      funext q
      unfold im_in
      rw [x, y]
    rw [u 49 _ (by decide), z]
    exact a8.2 l c2 hl hc
  · refine ⟨fun k2 hk => ?_, fun p hp hl => ?_⟩
    · simp only [u 44 _ (by decide : 44 ≠ 25), k, x, y]
      exact a9.1 k2 hk
    · rw [u 44 _ (by decide), k, x, y]
      exact a9.2 p hp hl
theorem im_relocate {p x y : Nat} (h : im_IV s o c cap P H V live) (ho : o < 6) (hc : c < 6) (hp : p < 80) (hl : live p = true) (hx : x < 2 ^ o) (hy : y < 2 ^ o)
    (hk : s 44 (im_K s o c x y) = -1 ∨ s 44 (im_K s o c x y) = -2) (hH : H < 2048) (hV : V + 1 < 1000000) :
    im_IV (T_44 s (nI p) (nI x) (nI y)) o c cap P (H + 1) (V + 1) live ∧ im_VS s (T_44 s (nI p) (nI x) (nI y)) V := by
  have E : T_44 s (nI p) (nI x) (nI y) = T_45 (T_46 (T_117 s) (nI p)) (nI p) (nI x) (nI y) := rfl
  obtain ⟨r1, r2⟩ := im_riseI h hV
  obtain ⟨l1, l2, l3⟩ := im_leave r1 ho hc hp hl
  have hpP := (h.2.2.2.2.2.1 p hp hl).1
  have e44 : ∀ j, T_117 s 44 j = s 44 j := fun j => N_117 (by decide)
  have eK : im_K (T_46 (T_117 s) (nI p)) o c x y = im_K s o c x y := im_Kc fun j => by rw [N_46 (by decide) (by decide) (by decide) (by decide) (by decide), N_117 (by decide)]
  obtain ⟨b1, b2⟩ := im_arrive l1 ho hc hpP (if_pos rfl) hx hy (by
    rw [eK, l3, e44]
    by_cases r : im_K s o c x y = im_K (T_117 s) o c (im_X (T_117 s) p) (im_Y (T_117 s) p)
    · rw [if_pos r]
      exact Or.inr rfl
    · rw [if_neg r]
      exact hk) hH (by omega)
  rw [im_lup hl] at b1
  rw [E]
  refine ⟨b1, ?_⟩
  have g1 := r1.2.2.2.2.2.2.1.1
  have g2 := l1.2.2.2.2.2.2.1.1
  have g3 := r1.2.2.2.2.2.2.1.2.2.1
  exact im_VSt (im_VSt r2 (l2 V (by omega)) (Nat.le_refl _) g1 g3) (b2 V (by omega)) (Nat.le_refl _) g2 g3
end ImL
