/-! The house's invariant; a point arrives, leaves. -/
def im_PL (s : hm_St) (o c : Nat) (live : Nat → Bool) : Prop :=
  (∀ k, k < 4 ^ o → s 44 k = -1 ∨ s 44 k = -2 ∨ ∃ p, p < 80 ∧ live p = true ∧ s 44 k = nI p ∧ im_K s o c (im_X s p) (im_Y s p) = k) ∧
  ∀ p, p < 80 → live p = true → s 44 (im_K s o c (im_X s p) (im_Y s p)) = nI p
def im_XY (s : hm_St) (o P : Nat) (live : Nat → Bool) : Prop := ∀ p, p < 80 → live p = true → p < P ∧ s 16 p = nI (im_X s p) ∧ im_X s p < 2 ^ o ∧ s 18 p = nI (im_Y s p) ∧ im_Y s p < 2 ^ o
def im_IV (s : hm_St) (o c cap P H V : Nat) (live : Nat → Bool) : Prop :=
  im_CV s o ∧ s 2 8 = nI c ∧ im_PG s (4 ^ o) cap ∧ s 14 5 = nI P ∧ P ≤ 80 ∧ im_XY s o P live ∧ im_HI s (2 ^ o) H V live ∧ im_CE s o live ∧ im_PL s o c live
theorem im_PGc {s t : hm_St} {n cap : Nat} (h : im_PG s n cap) (e42 : ∀ j, t 42 j = s 42 j) (e44 : ∀ j, t 44 j = s 44 j) (e46 : ∀ j, t 46 j = s 46 j) : im_PG t n cap := by
  obtain ⟨Z, fl, hF, h3, hc1, hc2, hC⟩ := h
  have hE : im_E t = im_E s := by
    funext k
    unfold im_E
    rw [e44]
  exact ⟨Z, fl, im_PFc hF (e42 _) (e42 _) e46, (e42 _).trans h3, hc1, hc2, by rw [hE]; exact hC⟩
theorem im_nm1 {p : Nat} (h : p < 80) : ¬ nI p = -1 ∧ ¬ nI p = -2 := by
  constructor
  · intro e
    have := congrArg Int32.toInt e
    rw [nI_toInt (by omega), show (-1 : Int32).toInt = -1 from rfl] at this
    omega
  · intro e
    have := congrArg Int32.toInt e
    rw [nI_toInt (by omega), show (-2 : Int32).toInt = -2 from rfl] at this
    omega
section ImI
variable {s : hm_St} {o c cap P H V : Nat} {live : Nat → Bool}
/-- what the invariant reads -/
theorem im_IVc {t : hm_St} (h : im_IV s o c cap P H V live) (e : ∀ b j, b ∈ [3, 9, 11, 14, 16, 18, 25, 27, 29, 31, 33, 35, 42, 44, 46, 47, 49] → t b j = s b j) (e2 : t 2 8 = s 2 8) : im_IV t o c cap P H V live := by
  obtain ⟨a1, a2, a3, a4, a5, a6, a7, a8, a9⟩ := h
  have x : ∀ q, im_X t q = im_X s q := fun q => by unfold im_X; rw [e 16 q (by decide)]
  have y : ∀ q, im_Y t q = im_Y s q := fun q => by unfold im_Y; rw [e 18 q (by decide)]
  have k : ∀ a b, im_K t o c a b = im_K s o c a b := fun a b => im_Kc fun j => e 9 j (by decide)
  refine ⟨im_CVc a1 (fun j => e 3 j (by decide)) (fun j => e 9 j (by decide)) (fun j => e 11 j (by decide)), e2.trans a2, im_PGc a3 (fun j => e 42 j (by decide)) (fun j => e 44 j (by decide)) (fun j => e 46 j (by decide)), (e 14 5 (by decide)).trans a4, a5, ?_, ?_, ?_, ?_⟩
  · intro p hp hl
    rw [e 16 p (by decide), e 18 p (by decide), x, y]
    exact a6 p hp hl
  · refine im_HIc a7 (e 25 8 (by decide)) (e 25 9 (by decide)) fun b j hb => e b j ?_
    rcases hb with r | r | r | r | r <;> subst r <;> decide
  · refine ⟨(e 47 1 (by decide)).trans a8.1, fun l c2 hl hc => ?_⟩
    have z : im_in t o l c2 live = im_in s o l c2 live := by
      funext q
      unfold im_in
      rw [x, y]
    rw [e 49 _ (by decide), z]
    exact a8.2 l c2 hl hc
  · refine ⟨fun k2 hk => ?_, fun p hp hl => ?_⟩
    · simp only [e 44 _ (by decide : 44 ∈ [3, 9, 11, 14, 16, 18, 25, 27, 29, 31, 33, 35, 42, 44, 46, 47, 49]), k, x, y]
      exact a9.1 k2 hk
    · rw [e 44 _ (by decide), k, x, y]
      exact a9.2 p hp hl
theorem im_arrive {p x y : Nat} (h : im_IV s o c cap P H V live) (ho : o < 6) (hc : c < 6) (hp : p < P) (hl : live p = false) (hx : x < 2 ^ o) (hy : y < 2 ^ o)
    (hk : s 44 (im_K s o c x y) = -1 ∨ s 44 (im_K s o c x y) = -2) (hH : H < 2048) (hV : 1 ≤ V) :
    im_IV (T_45 s (nI p) (nI x) (nI y)) o c cap P (H + 1) V (fun q => if q = p then true else live q) ∧ ∀ W, W < V → im_VS s (T_45 s (nI p) (nI x) (nI y)) W := by
  obtain ⟨a1, a2, a3, a4, a5, a6, a7, a8, a9⟩ := h
  have pw := im_pw5 o ho
  have hp80 : p < 80 := by omega
  have hKl := (im_Kat a1 ho hc hx hy).2.1
  have E : T_45 s (nI p) (nI x) (nI y) = T_191 (T_76 (T_150 (T_120 (T_166 s (nI p) (nI x) (nI y)) (nI p) (nI x) (nI y)) (T_39 (T_120 (T_166 s (nI p) (nI x) (nI y)) (nI p) (nI x) (nI y)) (nI x) (nI y)) (nI p)) (nI x) (nI y) 1) (nI x) (nI y) := rfl
  have hW : T_166 s (nI p) (nI x) (nI y) = hm_w1 (hm_w1 s 16 p (nI x)) 18 p (nI y) := by
    unfold T_166
    rw [im_set hp80, im_set hp80]
  have u0 : ∀ b j, b ≠ 16 → b ≠ 18 → T_166 s (nI p) (nI x) (nI y) b j = s b j := fun b j h1 h2 => N_166 h1 h2
  have u016 : ∀ j, T_166 s (nI p) (nI x) (nI y) 16 j = if j = p then nI x else s 16 j := by
    intro j
    rw [hW, hm_w1n (by decide), im_wif]
  have u018 : ∀ j, T_166 s (nI p) (nI x) (nI y) 18 j = if j = p then nI y else s 18 j := by
    intro j
    rw [hW, im_wif, hm_w1n (by decide)]
  have hH0 : im_HI (T_166 s (nI p) (nI x) (nI y)) (2 ^ o) H V live := im_HIc a7 (u0 _ _ (by decide) (by decide)) (u0 _ _ (by decide) (by decide)) fun b j hb => u0 b j (by omega) (by omega)
  have hVS0 : im_VS s (T_166 s (nI p) (nI x) (nI y)) V := im_VSc (u0 _ _ (by decide) (by decide)) (fun j => u0 _ _ (by decide) (by decide)) (fun j => u0 _ _ (by decide) (by decide)) (fun j => u0 _ _ (by decide) (by decide)) (fun j => u0 _ _ (by decide) (by decide))
  generalize T_166 s (nI p) (nI x) (nI y) = s0 at E u0 u016 u018 hH0 hVS0
  obtain ⟨hH1, hVS1⟩ := im_begin hH0 hp80 hl hx hy hH hV
  have u1 : ∀ b j, b ∉ [25, 27, 29, 31, 33, 35, 37] → T_120 s0 (nI p) (nI x) (nI y) b j = s0 b j := by
    intro b j hb
    simp only [List.mem_cons, List.not_mem_nil, or_false, not_or] at hb
    exact N_120 hb.1 hb.2.1 hb.2.2.1 hb.2.2.2.1 hb.2.2.2.2.1 hb.2.2.2.2.2.1 hb.2.2.2.2.2.2
  generalize T_120 s0 (nI p) (nI x) (nI y) = s1 at E u1 hH1 hVS1
  have us : ∀ b j, b ∉ [16, 18, 25, 27, 29, 31, 33, 35, 37] → s1 b j = s b j := by
    intro b j hb
    simp only [List.mem_cons, List.not_mem_nil, or_false, not_or] at hb
    rw [u1 b j (by simp only [List.mem_cons, List.not_mem_nil, or_false, not_or]; omega), u0 b j (by omega) (by omega)]
  have hCV1 : im_CV s1 o := im_CVc a1 (fun j => us _ _ (by decide)) (fun j => us _ _ (by decide)) (fun j => us _ _ (by decide))
  have hKe : ∀ a b, im_K s1 o c a b = im_K s o c a b := fun a b => im_Kc fun j => us _ _ (by decide)
  have hT39 : T_39 s1 (nI x) (nI y) = nI (im_K s o c x y) := by
    rw [im_T39 hCV1 ((us 2 8 (by decide)).trans a2) ho hc hx hy, hKe]
  rw [hT39] at E
  have hPG1 : im_PG s1 (4 ^ o) cap := im_PGc a3 (fun j => us _ _ (by decide)) (fun j => us _ _ (by decide)) (fun j => us _ _ (by decide))
  obtain ⟨hPG2, e44⟩ := im_enter (v := nI p) hPG1 hKl (im_nm1 hp80).1
  have u2 : ∀ b j, b ≠ 42 → b ≠ 44 → b ≠ 46 → T_150 s1 (nI (im_K s o c x y)) (nI p) b j = s1 b j := fun b j h1 h2 h3 => N_150 h1 h2 h3
  generalize T_150 s1 (nI (im_K s o c x y)) (nI p) = s2 at E hPG2 e44 u2
  have h47 : s2 47 1 = nI o := (u2 _ _ (by decide) (by decide) (by decide)).trans ((us _ _ (by decide)).trans a8.1)
  obtain ⟨b47, b49⟩ := im_T76 (d := 1) h47 ho hx hy
  have u3 : ∀ b j, b ≠ 49 → T_76 s2 (nI x) (nI y) 1 b j = s2 b j := fun b j h1 => N_76 h1
  generalize T_76 s2 (nI x) (nI y) 1 = s3 at E b47 b49 u3
  have u4 : ∀ b j, b ≠ 58 → T_191 s3 (nI x) (nI y) b j = s3 b j := fun b j h1 => N_191 h1
  rw [E]
  generalize T_191 s3 (nI x) (nI y) = t at u4
  have ut : ∀ b j, b ∉ [16, 18, 25, 27, 29, 31, 33, 35, 37, 42, 44, 46, 49, 58] → t b j = s b j := by
    intro b j hb
    simp only [List.mem_cons, List.not_mem_nil, or_false, not_or] at hb
    rw [u4 b j (by omega), u3 b j (by omega), u2 b j (by omega) (by omega) (by omega), us b j (by simp only [List.mem_cons, List.not_mem_nil, or_false, not_or]; omega)]
  have t1 : ∀ b j, b ∉ [42, 44, 46, 49, 58] → t b j = s1 b j := by
    intro b j hb
    simp only [List.mem_cons, List.not_mem_nil, or_false, not_or] at hb
    rw [u4 b j (by omega), u3 b j (by omega), u2 b j (by omega) (by omega) (by omega)]
  have t16 : ∀ j, t 16 j = if j = p then nI x else s 16 j := fun j => by rw [t1 _ _ (by decide), u1 _ _ (by decide), u016]
  have t18 : ∀ j, t 18 j = if j = p then nI y else s 18 j := fun j => by rw [t1 _ _ (by decide), u1 _ _ (by decide), u018]
  have t44 : ∀ j, t 44 j = if j = im_K s o c x y then nI p else s 44 j := fun j => by rw [u4 _ _ (by decide), u3 _ _ (by decide), e44, us _ _ (by decide)]
  have tX : ∀ q, im_X t q = if q = p then x else im_X s q := by
    intro q
    unfold im_X
    rw [t16]
    by_cases r : q = p
    · rw [if_pos r, if_pos r, nI_clamp (by omega)]
    · rw [if_neg r, if_neg r]
  have tY : ∀ q, im_Y t q = if q = p then y else im_Y s q := by
    intro q
    unfold im_Y
    rw [t18]
    by_cases r : q = p
    · rw [if_pos r, if_pos r, nI_clamp (by omega)]
    · rw [if_neg r, if_neg r]
  have tK : ∀ a b, im_K t o c a b = im_K s o c a b := fun a b => im_Kc fun j => ut _ _ (by decide)
  refine ⟨⟨im_CVc a1 (fun j => ut _ _ (by decide)) (fun j => ut _ _ (by decide)) (fun j => ut _ _ (by decide)), (ut _ _ (by decide)).trans a2, ?_, (ut _ _ (by decide)).trans a4, a5, ?_, ?_, ?_, ?_⟩, ?_⟩
  · exact im_PGc hPG2 (fun j => by rw [u4 _ _ (by decide), u3 _ _ (by decide)]) (fun j => by rw [u4 _ _ (by decide), u3 _ _ (by decide)]) (fun j => by rw [u4 _ _ (by decide), u3 _ _ (by decide)])
  · intro q hq hql
    dsimp only at hql
    rw [t16, t18, tX, tY]
    by_cases r : q = p
    · rw [if_pos r, if_pos r, if_pos r, if_pos r]
      exact ⟨by omega, rfl, hx, rfl, hy⟩
    · rw [if_neg r] at hql
      rw [if_neg r, if_neg r, if_neg r, if_neg r]
      exact a6 q hq hql
  · refine im_HIc hH1 (t1 _ _ (by decide)) (t1 _ _ (by decide)) fun b j hb => t1 b j ?_
    rcases hb with r | r | r | r | r <;> subst r <;> decide
  · refine im_CEadd a8 ho hp80 hl hx hy tX tY ((ut _ _ (by decide)).trans a8.1) fun l c2 hlo hc2 => ?_
    rw [u4 _ _ (by decide), b49 l c2 hlo hc2, u2 _ _ (by decide) (by decide) (by decide), us _ _ (by decide)]
  · refine ⟨fun k hk2 => ?_, fun q hq hql => ?_⟩
    · rw [t44]
      by_cases r : k = im_K s o c x y
      · rw [if_pos r]
        refine Or.inr (Or.inr ⟨p, hp80, if_pos rfl, rfl, ?_⟩)
        rw [tK, tX, tY, if_pos rfl, if_pos rfl, r]
      · rw [if_neg r]
        rcases a9.1 k hk2 with z | z | ⟨q, z1, z2, z3, z4⟩
        · exact Or.inl z
        · exact Or.inr (Or.inl z)
        · have e : ¬ q = p := by
            intro e
            rw [e, hl] at z2
            exact absurd z2 (by decide)
          refine Or.inr (Or.inr ⟨q, z1, (if_neg e).trans z2, z3, ?_⟩)
          rw [tK, tX, tY, if_neg e, if_neg e]
          exact z4
    · dsimp only at hql
      rw [tK, tX, tY, t44]
      by_cases r : q = p
      · rw [if_pos r, if_pos r, if_pos rfl, r]
      · rw [if_neg r] at hql
        rw [if_neg r, if_neg r, a9.2 q hq hql, if_neg]
        intro e
        have z := a9.2 q hq hql
        rw [e] at z
        rcases hk with w | w
        · exact (im_nm1 hq).1 (z.symm.trans w)
        · exact (im_nm1 hq).2 (z.symm.trans w)
  · intro W hWV
    have v1 : im_VS s1 t W := im_VSc (t1 _ _ (by decide)) (fun j => t1 _ _ (by decide)) (fun j => t1 _ _ (by decide)) (fun j => t1 _ _ (by decide)) (fun j => t1 _ _ (by decide))
    have v0 : im_VS s s0 W := fun x0 y0 w h v G G' hv => hVS0 x0 y0 w h v G G' (by omega)
    exact im_VSt (im_VSt v0 (hVS1 W hWV) (Nat.le_refl _) hH0.1 (by omega)) v1 (Nat.le_refl _) hH1.1 (by omega)
end ImI
