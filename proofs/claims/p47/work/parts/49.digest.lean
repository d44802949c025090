/-! The checksum: what it leaves, and that asking keeps it. -/
section ImD
variable {s t : hm_St} {o c cap P H V M N K L : Nat} {g : Nat → hm_Sh}
def im_dg1 (s : hm_St) : Int64 := T_64 (T_124 s) (T_60 (T_124 s) (T_60 (T_124 s) (T_60 s (T_60 s (T_63 s (T_62 s (T_61 s 58283))) (((T_176 s 1)).toInt64)) (((T_176 s 0)).toInt64)) (((T_127 (T_124 s))).toInt64)) (((T_128 (T_124 s) 1)).toInt64))
def im_dg (s : hm_St) (N o cap : Nat) : Int64 := T_60 s (T_60 s (T_60 s (T_60 s (im_dg1 s) ((im_rv s N o cap).toInt64)) ((T_82 s (nI cap)).toInt64)) ((T_83 s (nI cap)).toInt64)) 1
theorem im_digest (h : im_TI s o c cap P H V M) (ho : o < 6) (hc : c < 6) (hN : 68 ≤ N) : T_30 N g s = (im_dg s N o cap, N + 2, hm_gb (hm_gb g N) (N + 1), T_50 (N + 1) (T_50 N (T_124 s))) := by
  have hu := im_takeSM h ho hc
  have hTu := im_SMTI hu h
  have e0 : ∀ N g, 68 ≤ N → T_58 N g (T_124 s) 0 = (im_rv (T_124 s) N o cap, N + 1, hm_gb g N, T_50 N (T_124 s)) := by
    intro N g hN
    unfold T_58 im_rv
    rw [if_pos rfl, im_134 hTu, im_50 hTu hN]
  have hS2 := im_50SM (L := 0) hTu hN
  have hT2 := im_SMTI hS2 hTu
  have r0 := im_rvc (o := o) (cap := cap) hu hN hN
  have r1 : T_82 (T_50 N (T_124 s)) (nI cap) = T_82 s (nI cap) := (F_82 (im_SMf hS2)).trans (F_82 (im_SMf hu))
  have r2 : T_83 (T_50 N (T_124 s)) (nI cap) = T_83 s (nI cap) := (F_83 (im_SMf hS2)).trans (F_83 (im_SMf hu))
  have e1 : ∀ N g, T_58 N g (T_50 N (T_124 s)) 1 = (T_82 (T_50 N (T_124 s)) (T_134 (T_50 N (T_124 s))), N, g, T_50 N (T_124 s)) := by
    intro N g
    unfold T_58
    rw [if_neg (by decide), if_pos rfl]
  have e1 : T_58 (N + 1) (hm_gb g N) (T_50 N (T_124 s)) 1 = (T_82 s (nI cap), N + 1, hm_gb g N, T_50 N (T_124 s)) := by
    unfold T_58
    rw [if_neg (by decide), if_pos rfl, im_134 hT2, r1]
  have e2 : T_58 (N + 1) (hm_gb g N) (T_50 N (T_124 s)) 2 = (T_83 s (nI cap), N + 1, hm_gb g N, T_50 N (T_124 s)) := by
    unfold T_58
    rw [if_neg (by decide), if_neg (by decide), im_134 hT2, r2]
  have e3 := im_sound (g := hm_gb g N) hT2 ho hc (show 68 ≤ N + 1 by omega)
  have z : ∀ (a b : hm_St) x y, T_60 a x y = T_60 b x y := fun _ _ _ _ => rfl
  unfold T_30
  rw [show T_64 (T_124 s) (T_60 (T_124 s) (T_60 (T_124 s) (T_60 s (T_60 s (T_63 s (T_62 s (T_61 s 58283))) (((T_176 s 1)).toInt64)) (((T_176 s 0)).toInt64)) (((T_127 (T_124 s))).toInt64)) (((T_128 (T_124 s) 1)).toInt64)) = im_dg1 s from rfl]
  unfold im_dg
  generalize im_dg1 s = d
  rw [T_30_96, if_neg (by decide), e0 N g hN]
  dsimp only
  rw [show (0 + 1 : Int32) = 1 from rfl, T_30_96, if_neg (by decide), e1]
  dsimp only
  rw [show (1 + 1 : Int32) = 2 from rfl, T_30_96, if_neg (by decide), e2]
  dsimp only
  rw [show (2 + 1 : Int32) = 3 from rfl, T_30_96, if_pos (by decide), e3]
  dsimp only
  rw [if_neg (by decide), r0]
  rfl
theorem im_129c {p1 p2 p3 : Int32} (h : t 66 = s 66) : T_129 t p1 p2 p3 = T_129 s p1 p2 p3 := by
  unfold T_129
  simp only [F_178 h]
theorem im_130lc (h : t 66 = s 66) : ∀ (n : Nat) (v0 : Int32) (v1 : Int32) (v2 : Int32) (v3 : Int32), T_130_5 n t v0 v1 v2 v3 = T_130_5 n s v0 v1 v2 v3 := by
  intro n
  induction n with
  | zero => intros; rfl
  | succ n ih =>
    intros
    unfold T_130_5
    simp only [ih, im_129c h, F_178 h]
theorem im_130c {p1 p2 : Int32} (h : t 66 = s 66) : T_130 t p1 p2 = T_130 s p1 p2 := by
  unfold T_130
  rw [im_130lc h]
theorem im_128lc (h : t 66 = s 66) (h1 : t 64 1 = s 64 1) : ∀ (n : Nat) (v0 : Int32) (v1 : Int32) (v2 : Int32) (v3 : Int32), T_128_7 n t v0 v1 v2 v3 = T_128_7 n s v0 v1 v2 v3 := by
  intro n
  induction n with
  | zero => intros; rfl
  | succ n ih =>
    intros
    unfold T_128_7
    simp only [ih, h1, im_130c h]
theorem im_128c {p1 : Int32} (h : t 66 = s 66) (h1 : t 64 1 = s 64 1) : T_128 t p1 = T_128 s p1 := by
  unfold T_128
  rw [h1, im_128lc h h1]
theorem im_127c (h : t 66 = s 66) (h1 : t 64 1 = s 64 1) : T_127 t = T_127 s := by
  unfold T_127
  rw [h1, im_130c h]
/-- the line is taken anew: the same -/
theorem im_takec (h : im_TI s o c cap P H V M) (ho : o < 6) (hc : c < 6) (hS : im_SM s t (fb_ct (im_al s) 80)) : T_124 t 66 = T_124 s 66 ∧ T_124 t 64 1 = T_124 s 64 1 := by
  have hT := im_SMTI hS h
  have al : im_al t = im_al s := by
    funext q
    unfold im_al
    rw [hS.1 20 q (Or.inl (by decide))]
  have hd : im_Hd t = im_Hd s := by
    funext q
    unfold im_Hd
    rw [hS.1 44 q (Or.inl (by decide))]
  refine ⟨?_, ?_⟩
  · funext j
    rcases Nat.lt_or_ge j (fb_ct (im_al s) 80) with z | z
    · obtain ⟨k, k1, k2, k3, k4⟩ := im_takek h ho hc z
      obtain ⟨q, q1, q2, q3, q4⟩ := im_takek hT ho hc (j := j) (by rw [al]; exact z)
      rw [hd] at q2 q3
      rw [k4, q4, fb_ct_kth_one k2 q2 (k3.trans q3.symm)]
    · rw [(im_takeSM h ho hc).2 j z, (im_takeSM hT ho hc).2 j (by rw [al]; exact z)]
      exact hS.2 j z
  · rw [im_take1 h ho hc, im_take1 hT ho hc, al]
theorem im_60c (a b : hm_St) : T_60 a = T_60 b := rfl
theorem im_digestc (h : im_TI s o c cap P H V M) (ho : o < 6) (hc : c < 6) (hN : 68 ≤ N) (hK : 68 ≤ K) (hS : im_SM s t (fb_ct (im_al s) 80)) : im_dg t K o cap = im_dg s N o cap := by
  have hT := im_SMTI hS h
  obtain ⟨a, b⟩ := im_takec h ho hc hS
  have f := im_SMf hS
  have fu : ∀ b, Nat.blt b 59 = true → T_124 t b = T_124 s b := fun b hb => by
    rw [im_SMf (im_takeSM hT ho hc) b hb, im_SMf (im_takeSM h ho hc) b hb, f b hb]
  have z1 : T_60 t = T_60 s := im_60c _ _
  have z2 : T_60 (T_124 t) = T_60 (T_124 s) := im_60c _ _
  have d : im_dg1 t = im_dg1 s := by
    unfold im_dg1
    rw [F_64 fu, im_127c a b, im_128c a b, F_61 f, F_62 f, F_63 f, F_176 f, F_176 f, z1, z2]
  unfold im_dg
  rw [d, im_rvc hS hN hK, F_82 f, F_83 f, z1]
theorem im_digSM (h : im_TI s o c cap P H V M) (ho : o < 6) (hc : c < 6) (hN : 68 ≤ N) : im_SM s (T_50 (N + 1) (T_50 N (T_124 s))) (fb_ct (im_al s) 80) := by
  have hu := im_takeSM h ho hc
  have hTu := im_SMTI hu h
  have h2 := im_50SM (L := fb_ct (im_al s) 80) hTu hN
  have hT2 := im_SMTI h2 hTu
  exact im_SMt hu (im_SMt h2 (im_50SM hT2 (by omega)))
end ImD
