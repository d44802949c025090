/-! A house is new, then founded. -/
section ImF
variable {s t : hm_St} {o c cap N : Nat} {g : Nat → hm_Sh}
theorem im_nsn {c j : Nat} (h : c ≠ N) (h2 : c ≠ N + 1) : hm_ns s N c j = s c j := by
  unfold hm_ns
  rw [if_neg h, if_neg h2]
theorem im_nsz {j : Nat} : hm_ns s N N j = 0 ∧ hm_ns s N (N + 1) j = 0 := by
  unfold hm_ns
  rw [if_pos rfl, if_neg (by omega), if_pos rfl]
  exact ⟨rfl, rfl⟩
theorem im_snz {j : Nat} : hm_sn s N N j = 0 := by
  unfold hm_sn
  rw [if_pos rfl]
theorem im_179c {a nn : Nat} {i v : Int32} (h : t a = s a) : T_179 t a nn i v a = T_179 s a nn i v a := by
  unfold T_179
  by_cases q : i < 0
  · rw [if_pos q, if_pos q]
    exact h
  · rw [if_neg q, if_neg q]
    by_cases z : Int32.ofNat nn ≤ i
    · rw [if_pos z, if_pos z]
      exact h
    · rw [if_neg z, if_neg z]
      unfold hm_w1
      rw [if_pos rfl, if_pos rfl, h]
def im_EQ (s t : hm_St) : Prop := t 0 = s 0 ∧ t 5 = s 5 ∧ t 7 = s 7
theorem im_93 {a b d : Int32} (h : im_EQ s t) : im_EQ (T_93 s a b d) (T_93 t a b d) := by
  obtain ⟨h0, h5, h7⟩ := h
  unfold T_93
  refine ⟨?_, ?_, ?_⟩
  · funext j
    rw [N_179 (by decide), N_179 (by decide), N_179 (by decide), N_179 (by decide), h0]
  · funext j
    rw [N_179 (aa := 7) (by decide), N_179 (aa := 7) (by decide), im_179c h5]
  · refine im_179c ?_
    funext j
    rw [N_179 (by decide), N_179 (by decide), h7]
def im_84 : Nat → hm_St → Nat → hm_St
  | 0, s, _ => s
  | n + 1, s, j => im_84 n (T_93 s (2 + nI j / 4) (nI j - nI j / 4 * 4) (s 0 j)) (j + 1)
theorem im_T84l (v : Int32) : ∀ (n m : Nat) (s : hm_St) (j : Nat), j + n = 16 → n < m → T_84_73 m s v (nI j) = T_92 (im_84 n s j) v
  | _, 0, _, _, _, h => absurd h (Nat.not_lt_zero _)
  | 0, m + 1, s, j, h, _ => by
    rw [T_84_73, if_pos (show Int32.ofNat 16 ≤ nI j from nI_le (by omega) (by omega))]
    rfl
  | n + 1, m + 1, s, j, h, h2 => by
    rw [T_84_73, if_neg (show ¬ Int32.ofNat 16 ≤ nI j from nI_ge (by omega) (by omega)), nI_1, nI_clamp (by omega)]
    exact im_T84l v n m _ (j + 1) (by omega) (by omega)
theorem im_84c : ∀ (n : Nat) (s t : hm_St) (j : Nat), im_EQ s t → im_EQ (im_84 n s j) (im_84 n t j)
  | 0, _, _, _, h => h
  | n + 1, s, t, j, h => by
    rw [im_84, im_84, h.1]
    exact im_84c n _ _ (j + 1) (im_93 h)
theorem im_84n {b q : Nat} (h5 : b ≠ 5) (h7 : b ≠ 7) : ∀ (n : Nat) (s : hm_St) (j : Nat), im_84 n s j b q = s b q
  | 0, _, _ => rfl
  | n + 1, s, j => by
    rw [im_84, im_84n h5 h7 n, N_93 h5 h7]
def im_a0 : hm_St := fun c j => if c = 0 then hm_tab j else 0
theorem im_84d : ∀ j, j < 16 → im_84 16 im_a0 0 5 j = im_r5 j ∧ im_84 16 im_a0 0 7 j = im_r7 j := by decide +kernel
def im_A (s : hm_St) : hm_St := hm_ns (hm_ns (hm_ns (hm_ns (hm_ns (hm_sn s 3) 4) 6) 8) 10) 12
theorem im_T84 (h0 : s 0 = hm_tab) : im_CV (T_84 (im_A s) 3) 3 ∧ im_DS (T_84 (im_A s) 3) := by
  have e : T_84 (im_A s) 3 = T_92 (im_84 16 (im_A s) 0) (nI 3) := im_T84l 3 16 _ _ 0 rfl (by decide)
  have q : im_EQ im_a0 (im_A s) := by
    refine ⟨funext fun j => ?_, funext fun j => ?_, funext fun j => ?_⟩
    · unfold im_A
      rw [im_nsn (by decide) (by decide), im_nsn (by decide) (by decide), im_nsn (by decide) (by decide), im_nsn (by decide) (by decide), im_nsn (by decide) (by decide), hm_snn (by decide), h0]
      rfl
    · unfold im_A
      rw [im_nsn (by decide) (by decide), im_nsn (by decide) (by decide), im_nsn (by decide) (by decide), im_nsn (by decide) (by decide), im_nsz.2]
      rfl
    · unfold im_A
      rw [im_nsn (by decide) (by decide), im_nsn (by decide) (by decide), im_nsn (by decide) (by decide), im_nsz.2]
      rfl
  have qq := im_84c 16 _ _ 0 q
  have hD : im_DS (im_84 16 (im_A s) 0) := fun j hj => by
    rw [qq.2.1, qq.2.2]
    exact im_84d j hj
  rw [e]
  refine ⟨im_T92 hD (by decide) (by decide) fun z => ?_, fun j hj => ?_⟩
  · rw [im_84n (by decide) (by decide)] at z
    unfold im_A at z
    rw [im_nsn (by decide) (by decide), im_nsn (by decide) (by decide), im_nsn (by decide) (by decide), im_nsn (by decide) (by decide), im_nsn (by decide) (by decide), im_snz] at z
    exact absurd z (by decide)
  · rw [N_92 (by decide) (by decide) (by decide) (by decide), N_92 (by decide) (by decide) (by decide) (by decide)]
    exact hD j hj
theorem im_s0c {c j : Nat} (h2 : c ≠ 2) (h14 : c < 14) : hm_s0 s c j = T_84 (im_A s) 3 c j := by
  unfold hm_s0 im_A
  repeat (first | rw [im_nsn (by omega) (by omega)] | rw [hm_snn (by omega)] | rw [hm_w1n (by omega)] | rw [N_69 (by omega) (by omega)] | rw [N_132 (by omega) (by omega) (by omega)])
theorem im_s020 {j : Nat} : hm_s0 s 20 j = 0 := by
  unfold hm_s0
  repeat (first | rw [im_nsn (by decide) (by decide)] | rw [hm_snn (by decide)] | rw [hm_w1n (by decide)] | rw [N_69 (by decide) (by decide)] | rw [N_132 (by decide) (by decide) (by decide)])
  exact im_nsz.2
def im_t4 (s : hm_St) (p1 p2 p3 : Int32) : hm_St := hm_w1 (hm_w1 (hm_w1 (hm_w1 (T_185 (T_69 (T_132 (T_111 (T_156 (T_92 (hm_w1 s 2 8 p2) p1))) p1 p3) p1)) 2 9 1) 2 10 0) 2 11 0) 2 12 0
theorem im_found (h0 : s 0 = hm_tab) (h1 : 1 ≤ o) (h4 : o ≤ 4) (hc : c < 6) (hp1 : 2 ≤ cap) (hp2 : cap ≤ 8) :
    T_4 N g (hm_s0 s) (nI o) (nI c) (nI cap) = (0, T_87 (im_t4 (hm_s0 s) (nI o) (nI c) (nI cap)), N, g, im_t4 (hm_s0 s) (nI o) (nI c) (nI cap)) ∧ im_TI (im_t4 (hm_s0 s) (nI o) (nI c) (nI cap)) o c cap 0 0 0 1 := by
  refine ⟨?_, ?_⟩
  · unfold T_4
    rw [show T_34 (hm_s0 s) (nI o) 1 5 = 1 from im_btwN (lo := 1) (hi := 5) h1 (by omega) (by omega), if_neg (by decide), im_T35 hc, if_neg (by decide), show T_34 (hm_s0 s) (nI cap) 2 8 = 1 from im_btwN (lo := 2) (hi := 8) hp1 hp2 (by omega), if_neg (by decide)]
    rfl
  · obtain ⟨cv, ds⟩ := im_T84 h0
    have cv3 : im_CV (hm_s0 s) 3 := im_CVc cv (fun j => im_s0c (by decide) (by decide)) (fun j => im_s0c (by decide) (by decide)) (fun j => im_s0c (by decide) (by decide))
    have ds3 : im_DS (hm_s0 s) := fun j hj => by
      rw [im_s0c (by decide) (by decide), im_s0c (by decide) (by decide)]
      exact ds j hj
    have z20 : ∀ j, hm_s0 s 20 j = 0 := fun j => im_s020
    generalize hm_s0 s = r at cv3 ds3 z20
    have cvo : im_CV (T_92 (hm_w1 r 2 8 (nI c)) (nI o)) o := by
      refine im_T92 (fun j hj => ?_) h1 h4 fun z => ?_
      · rw [hm_w1n (by decide), hm_w1n (by decide)]
        exact ds3 j hj
      · rw [hm_w1n (by decide), cv3.1] at z
        have e := (nI_eq (by omega) (by omega)).mp z
        rw [← e]
        exact im_CVc cv3 (fun j => hm_w1n (by decide)) (fun j => hm_w1n (by decide)) (fun j => hm_w1n (by decide))
    unfold im_t4
    have a92 : ∀ b j, b ≠ 3 → b ≠ 9 → b ≠ 11 → b ≠ 13 → T_92 (hm_w1 r 2 8 (nI c)) (nI o) b j = hm_w1 r 2 8 (nI c) b j := fun b j b3 b9 b11 b13 => N_92 b3 b9 b11 b13
    generalize T_92 (hm_w1 r 2 8 (nI c)) (nI o) = s2 at cvo a92
    obtain ⟨pg, k44⟩ := im_clear (s := T_111 (T_156 s2)) (o := o) (by omega) hp1 hp2
    have a132 : ∀ b j, b ≠ 42 → b ≠ 44 → b ≠ 46 → T_132 (T_111 (T_156 s2)) (nI o) (nI cap) b j = T_111 (T_156 s2) b j := fun b j b1 b2 b3 => N_132 b1 b2 b3
    generalize T_132 (T_111 (T_156 s2)) (nI o) (nI cap) = s5 at pg k44 a132
    have e8 : ∀ b j, b ≠ 2 → b ≠ 47 → b ≠ 49 → b ≠ 50 → (hm_w1 (hm_w1 (hm_w1 (hm_w1 (T_185 (T_69 s5 (nI o))) 2 9 1) 2 10 0) 2 11 0) 2 12 0) b j = s5 b j := by
      intro b j b2 b47 b49 b50
      rw [hm_w1n b2, hm_w1n b2, hm_w1n b2, hm_w1n b2, N_185 b50, N_69 b47 b49]
    have e5 : ∀ b j, b ≠ 42 → b ≠ 44 → b ≠ 46 → b ≠ 25 → b ≠ 14 → s5 b j = s2 b j := by
      intro b j b42 b44 b46 b25 b14
      rw [a132 b j b42 b44 b46, N_111 b25, N_156 b14]
    have e28 : (hm_w1 (hm_w1 (hm_w1 (hm_w1 (T_185 (T_69 s5 (nI o))) 2 9 1) 2 10 0) 2 11 0) 2 12 0) 2 8 = nI c := by
      rw [im_wj (by decide), im_wj (by decide), im_wj (by decide), im_wj (by decide), N_185 (by decide), N_69 (by decide) (by decide), e5 _ _ (by decide) (by decide) (by decide) (by decide) (by decide), a92 _ _ (by decide) (by decide) (by decide) (by decide), im_ws]
    have e29 : (hm_w1 (hm_w1 (hm_w1 (hm_w1 (T_185 (T_69 s5 (nI o))) 2 9 1) 2 10 0) 2 11 0) 2 12 0) 2 9 = nI 1 := by
      rw [im_wj (by decide), im_wj (by decide), im_wj (by decide), im_ws]
      rfl
    have e47 : (hm_w1 (hm_w1 (hm_w1 (hm_w1 (T_185 (T_69 s5 (nI o))) 2 9 1) 2 10 0) 2 11 0) 2 12 0) 47 1 = nI o := by
      rw [hm_w1n (by decide), hm_w1n (by decide), hm_w1n (by decide), hm_w1n (by decide), N_185 (by decide)]
      unfold T_69
      rw [im_T181, if_neg (by omega), im_ws]
    have e49 : ∀ j, j < 1365 → (hm_w1 (hm_w1 (hm_w1 (hm_w1 (T_185 (T_69 s5 (nI o))) 2 9 1) 2 10 0) 2 11 0) 2 12 0) 49 j = 0 := by
      intro j hj
      rw [hm_w1n (by decide), hm_w1n (by decide), hm_w1n (by decide), hm_w1n (by decide), N_185 (by decide)]
      unfold T_69
      rw [im_T181, if_pos ⟨rfl, hj⟩]
    generalize hm_w1 (hm_w1 (hm_w1 (hm_w1 (T_185 (T_69 s5 (nI o))) 2 9 1) 2 10 0) 2 11 0) 2 12 0 = t at e8 e28 e29 e47 e49
    have al : ∀ p, im_al t p = false := by
      intro p
      unfold im_al
      rw [e8 _ _ (by decide) (by decide) (by decide) (by decide), e5 _ _ (by decide) (by decide) (by decide) (by decide) (by decide), a92 _ _ (by decide) (by decide) (by decide) (by decide), hm_w1n (by decide), z20]
      decide
    have al0 : fb_ct (im_al t) 80 = 0 := fb_ct_zero.mpr fun p _ => al p
    have no : ∀ {P : Prop} {p : Nat}, im_al t p = true → P := fun {P p} h => by
      rw [al p] at h
      exact absurd h (by decide)
    have t14 : ∀ j, t 14 j = T_156 s2 14 j := fun j => by
      rw [e8 _ _ (by decide) (by decide) (by decide) (by decide), a132 _ _ (by decide) (by decide) (by decide), N_111 (by decide)]
    have t25 : ∀ j, t 25 j = T_111 (T_156 s2) 25 j := fun j => by
      rw [e8 _ _ (by decide) (by decide) (by decide) (by decide), a132 _ _ (by decide) (by decide) (by decide)]
    refine ⟨⟨?_, e28, ?_, ?_, by omega, fun p _ h => no h, ⟨?_, ?_, by omega, by omega, fun i hi => absurd hi (Nat.not_lt_zero _), fun p _ h => no h, fun p q _ _ h => no h, ?_⟩, ⟨e47, fun l q hl hq => ?_⟩, fun k hk => Or.inl ?_, fun p _ h => no h⟩, ?_, e29, by omega, by omega⟩
    · refine im_CVc cvo (fun j => ?_) (fun j => ?_) (fun j => ?_)
      · rw [e8 _ _ (by decide) (by decide) (by decide) (by decide), e5 _ _ (by decide) (by decide) (by decide) (by decide) (by decide)]
      · rw [e8 _ _ (by decide) (by decide) (by decide) (by decide), e5 _ _ (by decide) (by decide) (by decide) (by decide) (by decide)]
      · rw [e8 _ _ (by decide) (by decide) (by decide) (by decide), e5 _ _ (by decide) (by decide) (by decide) (by decide) (by decide)]
    · exact im_PGc pg (fun j => e8 _ _ (by decide) (by decide) (by decide) (by decide)) (fun j => e8 _ _ (by decide) (by decide) (by decide) (by decide)) (fun j => e8 _ _ (by decide) (by decide) (by decide) (by decide))
    · rw [t14]
      unfold T_156
      rw [im_wj (by decide), im_ws]
      rfl
    · rw [t25]
      unfold T_111
      rw [im_wj (by decide), im_ws]
      rfl
    · rw [t25]
      unfold T_111
      rw [im_ws]
      rfl
    · rw [al0]
      rfl
    · have b := im_ofb l (by omega)
      have z : fb_ct (im_in t o l q (im_al t)) 80 = 0 := fb_ct_zero.mpr fun p _ => by
        unfold im_in
        rw [al p, Bool.false_and]
      rw [e49 _ (by omega), z]
      rfl
    · have pw := im_pw5 o (by omega)
      rw [e8 _ _ (by decide) (by decide) (by decide) (by decide)]
      exact k44 k (by omega)
    · rw [t14, al0]
      unfold T_156
      rw [im_ws]
      rfl
end ImF
