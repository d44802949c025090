/-! The line of keys: pieces and guess. -/
section ImL
variable {s t : hm_St} {o c cap P H V M N L : Nat} {g : Nat → hm_Sh}
def im_TK (s t : hm_St) (n k : Nat) : Prop := (∀ b j, b ≠ 64 → b ≠ 66 → t b j = s b j) ∧ (∀ j, j ≠ 1 → t 64 j = s 64 j) ∧ t 64 1 = nI (fb_ct (im_Hd s) k) ∧ (∀ j, j < k → im_Hd s j = true → t 66 (fb_ct (im_Hd s) j) = nI j) ∧ ∀ j, fb_ct (im_Hd s) k ≤ j → t 66 j = s 66 j
theorem im_T140e (h : im_TI s o c cap P H V M) (ho : o < 6) {k : Nat} (hk : k < 4 ^ o) : (T_140 s (nI k) = -1 ∧ im_Hd s k = false) ∨ (¬ T_140 s (nI k) = -1 ∧ im_Hd s k = true) := by
  rcases im_T140 h.1 ho hk with ⟨e, z⟩ | ⟨p, z1, z2, e, z3, z4⟩
  · refine Or.inl ⟨e, ?_⟩
    unfold im_Hd
    rcases z with z | z
    · rw [z]
      decide
    · rw [z]
      decide
  · have b := im_nm1 z1
    refine Or.inr ⟨by rw [e]; exact b.1, ?_⟩
    unfold im_Hd
    rw [z3, decide_eq_true b.1, decide_eq_true b.2]
    rfl
theorem im_take (h : im_TI s o c cap P H V M) (ho : o < 6) (hc : c < 6) : im_TK s (T_124 s) (4 ^ o) (4 ^ o) := by
  have pw := im_pw5 o ho
  have hl := im_Hl h.1 ho hc
  have hl8 := fb_ct_le (im_al s) 80
  obtain ⟨Z, fl, hF, _⟩ := h.1.2.2.1
  have h0 : im_TK s (hm_w1 s 64 1 0) (4 ^ o) 0 := by
    refine ⟨fun b j b1 b2 => hm_w1n b1, fun j hj => im_wj hj, im_ws, fun j hj => absurd hj (Nat.not_lt_zero _), fun j _ => hm_w1n (by decide)⟩
  unfold T_124
  generalize hm_w1 s 64 1 0 = t0 at h0
  have e137 : T_137 t0 = nI (4 ^ o) := (h0.1 42 2 (by decide) (by decide)).trans hF.1
  rw [e137, show (0 : Int32) = nI 0 from rfl, im_df (by omega) (by omega)]
  refine loop_i (σ := hm_St) (fun m k t => im_TK s (T_124_7 m t (nI k)) (4 ^ o) (4 ^ o)) (fun k t => im_TK s t (4 ^ o) k) (4 ^ o) ?_ ?_ (4 ^ o - 0 + 1) 0 t0 (Nat.zero_le _) (by omega) h0
  · intro m t ht
    have e : T_137 t = nI (4 ^ o) := (ht.1 42 2 (by decide) (by decide)).trans hF.1
    rw [T_124_7, e, if_pos (Int32.le_refl _)]
    exact ht
  · intro m k t hk ht ih
    have e : T_137 t = nI (4 ^ o) := (ht.1 42 2 (by decide) (by decide)).trans hF.1
    have e140 : T_140 t (nI k) = T_140 s (nI k) := F_140 fun b hb => funext fun j => by
      have := Nat.blt_eq.mp hb
      exact ht.1 b j (by omega) (by omega)
    rw [T_124_7, e, if_neg (nI_ge hk (by omega)), e140, nI_1]
    have sc := fb_ct_succ (im_Hd s) k
    rcases im_T140e h ho hk with ⟨a, z⟩ | ⟨a, z⟩
    · rw [if_pos a]
      rw [z, if_neg (by decide), Nat.add_zero] at sc
      refine ih t ⟨ht.1, ht.2.1, by rw [sc]; exact ht.2.2.1, fun j hj q => ?_, fun j hj => ht.2.2.2.2 j (by omega)⟩
      rcases Nat.lt_or_ge j k with y | y
      · exact ht.2.2.2.1 j y q
      · have e2 : j = k := by omega
        rw [e2, z] at q
        exact absurd q (by decide)
    · rw [if_neg a]
      rw [z, if_pos rfl] at sc
      have hS : fb_ct (im_Hd s) k < 80 := by
        have := fb_ct_mono (im_Hd s) (show k + 1 ≤ 4 ^ o by omega)
        omega
      rw [ht.2.2.1, im_set hS, hm_w1n (by decide), ht.2.2.1, nI_1]
      refine ih _ ⟨fun b j b1 b2 => ?_, fun j hj => ?_, ?_, fun j hj q => ?_, fun j hj => ?_⟩
      · rw [hm_w1n b1, hm_w1n b2]
        exact ht.1 b j b1 b2
      · rw [im_wj hj, hm_w1n (by decide)]
        exact ht.2.1 j hj
      · rw [im_ws, sc]
      · rw [hm_w1n (by decide), im_wif]
        rcases Nat.lt_or_ge j k with y | y
        · have m1 := fb_ct_mono (im_Hd s) (show j + 1 ≤ k by omega)
          rw [fb_ct_succ, q, if_pos rfl] at m1
          rw [if_neg (by omega)]
          exact ht.2.2.2.1 j y q
        · have e2 : j = k := by omega
          rw [e2, if_pos rfl]
      · rw [hm_w1n (by decide), im_wj (by omega)]
        exact ht.2.2.2.2 j (by omega)
theorem im_takeSM (h : im_TI s o c cap P H V M) (ho : o < 6) (hc : c < 6) : im_SM s (T_124 s) (fb_ct (im_al s) 80) := by
  obtain ⟨a, b, d, e, f⟩ := im_take h ho hc
  rw [im_Hl h.1 ho hc] at f
  exact ⟨fun b j hb => a b j (by omega) (by omega), f⟩
theorem im_take1 (h : im_TI s o c cap P H V M) (ho : o < 6) (hc : c < 6) : T_124 s 64 1 = nI (fb_ct (im_al s) 80) := by
  obtain ⟨a, b, d, e, f⟩ := im_take h ho hc
  rw [im_Hl h.1 ho hc] at d
  exact d
/-- the keys of the line -/
theorem im_takek (h : im_TI s o c cap P H V M) (ho : o < 6) (hc : c < 6) {j : Nat} (hj : j < fb_ct (im_al s) 80) : ∃ k, k < 4 ^ o ∧ im_Hd s k = true ∧ fb_ct (im_Hd s) k = j ∧ T_124 s 66 j = nI k := by
  obtain ⟨a, b, d, e, f⟩ := im_take h ho hc
  rw [← im_Hl h.1 ho hc] at hj
  obtain ⟨k, k1, k2, k3⟩ := fb_ct_kth hj
  refine ⟨k, k1, k2, k3, ?_⟩
  rw [← k3]
  exact e k k1 k2
theorem im_takeK (h : im_TI s o c cap P H V M) (ho : o < 6) (hc : c < 6) : ∃ kf : Nat → Nat, (∀ j, j < fb_ct (im_al s) 80 → T_124 s 66 j = nI (kf j) ∧ kf j < 4 ^ o) ∧ ∀ i j, i ≤ j → j < fb_ct (im_al s) 80 → kf i ≤ kf j := by
  have pw := im_pw5 o ho
  have key : ∀ j, j < fb_ct (im_al s) 80 → ∃ k, k < 4 ^ o ∧ im_Hd s k = true ∧ fb_ct (im_Hd s) k = j ∧ T_124 s 66 j = nI k ∧ (T_124 s 66 j).toNatClampNeg = k := by
    intro j hj
    obtain ⟨k, k1, k2, k3, k4⟩ := im_takek h ho hc hj
    refine ⟨k, k1, k2, k3, k4, ?_⟩
    rw [k4, nI_clamp (by omega)]
  refine ⟨fun j => (T_124 s 66 j).toNatClampNeg, fun j hj => ?_, fun i j hij hj => ?_⟩
  · obtain ⟨k, k1, k2, k3, k4, k5⟩ := key j hj
    dsimp only
    rw [k5]
    exact ⟨k4, k1⟩
  · obtain ⟨k, k1, k2, k3, k4, k5⟩ := key j hj
    obtain ⟨q, q1, q2, q3, q4, q5⟩ := key i (by omega)
    dsimp only
    rw [k5, q5]
    rcases Nat.lt_or_ge k q with z | z
    · have m1 := fb_ct_mono (im_Hd s) (show k + 1 ≤ q by omega)
      rw [fb_ct_succ, k2, if_pos rfl] at m1
      omega
    · exact z
theorem im_abs {a b : Nat} (ha : a < 2 ^ 31) (hb : b < 2 ^ 31) : hm_abs (nI a - nI b) = nI (im_ad a b) := by
  unfold hm_abs im_ad
  by_cases q : a < b
  · rw [if_neg, if_pos q, show 0 - (nI a - nI b) = nI b - nI a from by rw [Int32.zero_sub, Int32.neg_sub], pk_sub (Nat.le_of_lt q)]
    rw [Int32.le_iff_toInt_le, fb_subI, nI_toInt ha, nI_toInt hb]
    · show ¬ (0 : Int) ≤ _
      omega
    · rw [nI_toInt ha, nI_toInt hb]
      omega
    · rw [nI_toInt ha, nI_toInt hb]
      omega
  · rw [if_neg q, pk_sub (by omega), if_pos (nI_pos' (by omega))]
theorem im_T129 {kf : Nat → Nat} {l hi j : Nat} (hk : ∀ j, j < l → t 66 j = nI (kf j) ∧ kf j < 1024) (hm : ∀ i j, i ≤ j → j < l → kf i ≤ kf j) (hl : l ≤ 80) (hhi : hi < l) (hj : j ≤ hi) : ∃ e, e ≤ hi ∧ T_129 t (nI 0) (nI hi) (t 66 j) = nI e := by
  have k0 := hk 0 (by omega)
  have kh := hk hi hhi
  have kj := hk j (by omega)
  have m0 := hm 0 hi (Nat.zero_le _) hhi
  have m1 := hm 0 j (Nat.zero_le _) (by omega)
  have m2 := hm j hi hj hhi
  unfold T_129
  rw [im_at (by omega), im_at (by omega), k0.1, kh.1, kj.1, pk_sub m0]
  by_cases q : 0 < kf hi - kf 0
  · have b1 : (kf j - kf 0) * (hi - 0) ≤ 1024 * 80 := Nat.mul_le_mul (by omega) (by omega)
    rw [if_pos (show 0 < nI (kf hi - kf 0) from nI_lt (a := 0) q (by omega)), pk_sub m1, pk_sub (Nat.zero_le hi), pk_mul, pk_div (by omega) q (by omega), nI_add]
    refine ⟨_, ?_, rfl⟩
    rw [Nat.zero_add, Nat.sub_zero]
    have b2 : (kf j - kf 0) * hi ≤ (kf hi - kf 0) * hi := Nat.mul_le_mul (by omega) (Nat.le_refl _)
    calc (kf j - kf 0) * hi / (kf hi - kf 0) ≤ (kf hi - kf 0) * hi / (kf hi - kf 0) := Nat.div_le_div_right b2
      _ = hi := Nat.mul_div_cancel_left hi q
  · rw [if_neg (show ¬ 0 < nI (kf hi - kf 0) from nI_nlt (a := 0) (b := kf hi - kf 0) (by omega) (by omega))]
    exact ⟨0, Nat.zero_le _, rfl⟩
theorem im_T130 {kf : Nat → Nat} {l hi : Nat} (hk : ∀ j, j < l → t 66 j = nI (kf j) ∧ kf j < 1024) (hm : ∀ i j, i ≤ j → j < l → kf i ≤ kf j) (hl : l ≤ 80) (hhi : hi < l) : ∃ r, r ≤ 79 ∧ T_130 t (nI 0) (nI hi) = nI r := by
  unfold T_130
  rw [im_df1 (by omega) (by omega)]
  refine loop_i (σ := Nat) (fun n j x => ∃ r, r ≤ 79 ∧ T_130_5 n t (nI 0) (nI hi) (nI x) (nI j) = nI r) (fun _ x => x ≤ 79) (hi + 1) ?_ ?_ (hi + 1 - 0 + 1) 0 0 (Nat.zero_le _) (by omega) (Nat.zero_le _)
  · intro n x hx
    refine ⟨x, hx, ?_⟩
    rw [T_130_5, if_pos (nI_lt (by omega) (by omega))]
  · intro n j x hj hx ih
    obtain ⟨e, e1, e2⟩ := im_T129 hk hm hl hhi (j := j) (by omega)
    have a : im_ad e j ≤ 79 := by
      have := im_adb (a := e) (b := j) (n := 80) (by omega) (by omega)
      omega
    rw [T_130_5, if_neg (nI_nlt (by omega) (by omega)), im_at (by omega), e2, im_abs (by omega) (by omega), im_max (by omega) (by omega), nI_1]
    exact ih _ (by omega)
theorem im_pieces (h : im_TI s o c cap P H V M) (ho : o < 6) (hc : c < 6) : T_20 N g s 80 = (0, (if fb_ct (im_al s) 80 = 0 then 0 else 1), N, g, T_124 s) := by
  have pw := im_pw5 o ho
  have hl8 := fb_ct_le (im_al s) 80
  have e1 := im_take1 h ho hc
  obtain ⟨kf, k1, k2⟩ := im_takeK h ho hc
  have hk : ∀ j, j < fb_ct (im_al s) 80 → T_124 s 66 j = nI (kf j) ∧ kf j < 1024 := fun j hj => ⟨(k1 j hj).1, by
    have := (k1 j hj).2
    omega⟩
  have E : T_128 (T_124 s) 80 = if fb_ct (im_al s) 80 = 0 then 0 else 1 := by
    generalize T_124 s = t at e1 hk
    generalize fb_ct (im_al s) 80 = l at *
    unfold T_128
    rw [e1, show (0 : Int32) = nI 0 from rfl, im_df (by omega) (by omega)]
    by_cases q : l = 0
    · rw [T_128_7, e1, if_pos (nI_le (by omega) (by omega)), if_pos q]
    · rw [T_128_7, e1, if_neg (nI_ge (by omega) (by omega)), if_pos (show nI 0 = 0 from rfl), if_neg q]
      refine loop_i (σ := Unit) (fun n j _ => T_128_7 n t 80 (nI 0 + 1) (nI 0) (nI j) = 1) (fun j _ => 1 ≤ j) l ?_ ?_ (l - 0) 1 () (by omega) (by omega) (Nat.le_refl _)
      · intro n _ _
        rw [T_128_7, e1, if_pos (Int32.le_refl _)]
        decide
      · intro n j _ hj j1 ih
        obtain ⟨r, r1, r2⟩ := im_T130 hk k2 hl8 hj
        rw [T_128_7, e1, if_neg (nI_ge hj (by omega)), if_neg (fun z => nI_ne0 (n := j) (by omega) (by omega) z), r2, if_pos (show nI r ≤ (80 : Int32) from nI_le (b := 80) (by omega) (by omega)), nI_1 j]
        exact ih () (by omega)
  unfold T_20
  rw [show T_34 s 80 0 80 = 1 from im_btw (by decide) (by decide), if_neg (by decide), E]
theorem im_guess (h : im_TI s o c cap P H V M) (ho : o < 6) (hc : c < 6) : T_19 N g s 0 1 = (0, 0, N, g, T_124 s) := by
  have pw := im_pw5 o ho
  have hl8 := fb_ct_le (im_al s) 80
  have e1 := im_take1 h ho hc
  obtain ⟨kf, k1, k2⟩ := im_takeK h ho hc
  have E : T_125 (T_124 s) 0 = 0 := by
    generalize T_124 s = t at e1 k1
    generalize fb_ct (im_al s) 80 = l at *
    unfold T_125
    rw [e1, show hm_df (nI l) 0 = l - 0 from im_df (a := 0) (by omega) (by omega)]
    refine loop_i (σ := Unit) (fun n j _ => T_125_4 n t 0 0 (nI j) = 0) (fun _ _ => True) l ?_ ?_ (l - 0 + 1) 0 () (Nat.zero_le _) (by omega) trivial
    · intro n _ _
      rw [T_125_4, e1, if_pos (Int32.le_refl _)]
    · intro n j _ hj _ ih
      have a := k1 j hj
      rw [T_125_4, e1, if_neg (nI_ge hj (by omega)), im_at (by omega), a.1, if_pos (nI_pos' (by omega)), nI_1]
      exact ih () trivial
  unfold T_19
  rw [show T_36 s 0 = 1 from im_T36 (k := 0) h.1.1 ho (im_p4l o ho).1, if_neg (by decide), if_neg (by decide), E]
end ImL
