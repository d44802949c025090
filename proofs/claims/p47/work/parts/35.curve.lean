/-! The curves' rows, read. -/
def im_CV (s : hm_St) (o : Nat) : Prop := s 3 5 = nI o ∧ s 3 6 = nI (2 ^ o) ∧
  (∀ c x y, c < 6 → x < 2 ^ o → y < 2 ^ o → ∃ k, k < 4 ^ o ∧ s 9 (c * 1024 + y * 2 ^ o + x) = nI k ∧ s 11 (c * 1024 + k) = nI (y * 2 ^ o + x)) ∧
  ∀ c k, c < 6 → k < 4 ^ o → ∃ x y, x < 2 ^ o ∧ y < 2 ^ o ∧ s 11 (c * 1024 + k) = nI (y * 2 ^ o + x) ∧ s 9 (c * 1024 + y * 2 ^ o + x) = nI k
/-- a place's key -/
def im_K (s : hm_St) (o c x y : Nat) : Nat := (s 9 (c * 1024 + y * 2 ^ o + x)).toNatClampNeg
theorem im_CVc {s t : hm_St} {o : Nat} (h : im_CV s o) (e3 : ∀ j, t 3 j = s 3 j) (e9 : ∀ j, t 9 j = s 9 j) (e11 : ∀ j, t 11 j = s 11 j) : im_CV t o := by
  obtain ⟨a1, a2, a3, a4⟩ := h
  refine ⟨(e3 _).trans a1, (e3 _).trans a2, fun c x y hc hx hy => ?_, fun c k hc hk => ?_⟩
  · simp only [e9, e11]
    exact a3 c x y hc hx hy
  · simp only [e9, e11]
    exact a4 c k hc hk
theorem im_Kc {s t : hm_St} {o c x y : Nat} (e9 : ∀ j, t 9 j = s 9 j) : im_K t o c x y = im_K s o c x y := by
  unfold im_K
  rw [e9]
section ImK
variable {s : hm_St} {o c x y k : Nat}
theorem im_lt (ho : o < 6) (hx : x < 2 ^ o) (hy : y < 2 ^ o) : y * 2 ^ o + x < 4 ^ o := by
  have p := im_pw5 o ho
  have h4 : (y + 1) * 2 ^ o ≤ 2 ^ o * 2 ^ o := Nat.mul_le_mul_right _ hy
  rw [Nat.add_mul, Nat.one_mul] at h4
  omega
theorem im_xy (hx : x < 2 ^ o) : (y * 2 ^ o + x) % 2 ^ o = x ∧ (y * 2 ^ o + x) / 2 ^ o = y := by
  constructor
  · rw [Nat.mul_comm, Nat.mul_add_mod]
    exact Nat.mod_eq_of_lt hx
  · rw [Nat.mul_comm, Nat.mul_add_div (Nat.two_pow_pos o), Nat.div_eq_of_lt hx, Nat.add_zero]
theorem im_T86 (h : im_CV s o) : T_86 s = nI (2 ^ o) := h.2.1
theorem im_T87 (h : im_CV s o) (ho : o < 6) : T_87 s = nI (4 ^ o) := by
  unfold T_87
  rw [h.2.1, pk_mul, (im_pw5 o ho).2.2.1]
theorem im_Kat (h : im_CV s o) (ho : o < 6) (hc : c < 6) (hx : x < 2 ^ o) (hy : y < 2 ^ o) : s 9 (c * 1024 + y * 2 ^ o + x) = nI (im_K s o c x y) ∧ im_K s o c x y < 4 ^ o ∧ s 11 (c * 1024 + im_K s o c x y) = nI (y * 2 ^ o + x) := by
  have p := im_pw5 o ho
  obtain ⟨k, h1, h2, h3⟩ := h.2.2.1 c x y hc hx hy
  have e : im_K s o c x y = k := by
    unfold im_K
    rw [h2, nI_clamp (by omega)]
  rw [e]
  exact ⟨h2, h1, h3⟩
theorem im_T88 (h : im_CV s o) (ho : o < 6) (hc : c < 6) (hx : x < 2 ^ o) (hy : y < 2 ^ o) : T_88 s (nI c) (nI x) (nI y) = nI (im_K s o c x y) := by
  have p := im_pw5 o ho
  have q := im_lt ho hx hy
  unfold T_88
  rw [h.2.1, show (1024 : Int32) = nI 1024 from rfl, pk_mul, pk_mul, nI_add, nI_add, im_at (by omega)]
  exact (im_Kat h ho hc hx hy).1
theorem im_T89 (h : im_CV s o) (ho : o < 6) (hc : c < 6) (hx : x < 2 ^ o) (hy : y < 2 ^ o) : T_89 s (nI c) (nI (im_K s o c x y)) = nI x ∧ T_90 s (nI c) (nI (im_K s o c x y)) = nI y := by
  have p := im_pw5 o ho
  have q := im_lt ho hx hy
  obtain ⟨k1, k2, k3⟩ := im_Kat h ho hc hx hy
  have e : T_178 s 11 6144 (nI c * 1024 + nI (im_K s o c x y)) = nI (y * 2 ^ o + x) := by
    rw [show (1024 : Int32) = nI 1024 from rfl, pk_mul, nI_add, im_at (by omega)]
    exact k3
  unfold T_89 T_90
  rw [e, h.2.1, h.1, show (1 : Int32) = nI 1 from rfl, pk_sub p.2.2.2, fa_mask, im_shr (by omega) (by omega), (im_xy hx).1, (im_xy hx).2]
  exact ⟨rfl, rfl⟩
theorem im_Kex (h : im_CV s o) (ho : o < 6) (hc : c < 6) (hk : k < 4 ^ o) : ∃ x y, x < 2 ^ o ∧ y < 2 ^ o ∧ im_K s o c x y = k := by
  have p := im_pw5 o ho
  obtain ⟨x, y, h1, h2, h3, h4⟩ := h.2.2.2 c k hc hk
  refine ⟨x, y, h1, h2, ?_⟩
  unfold im_K
  rw [h4, nI_clamp (by omega)]
theorem im_Kinj {x2 y2 : Nat} (h : im_CV s o) (ho : o < 6) (hc : c < 6) (hx : x < 2 ^ o) (hy : y < 2 ^ o) (hx2 : x2 < 2 ^ o) (hy2 : y2 < 2 ^ o) (e : im_K s o c x y = im_K s o c x2 y2) : x = x2 ∧ y = y2 := by
  have p := im_pw5 o ho
  have h1 := im_T89 h ho hc hx hy
  have h2 := im_T89 h ho hc hx2 hy2
  rw [e] at h1
  exact ⟨(nI_eq (by omega) (by omega)).mp (h1.1.symm.trans h2.1), (nI_eq (by omega) (by omega)).mp (h1.2.symm.trans h2.2)⟩
theorem im_T39 (h : im_CV s o) (h2 : s 2 8 = nI c) (ho : o < 6) (hc : c < 6) (hx : x < 2 ^ o) (hy : y < 2 ^ o) : T_39 s (nI x) (nI y) = nI (im_K s o c x y) := by
  unfold T_39
  rw [h2]
  exact im_T88 h ho hc hx hy
theorem im_T37 (h : im_CV s o) (ho : o < 6) (hx : x < 2 ^ o) (hy : y < 2 ^ o) : T_37 s (nI x) (nI y) = 1 := by
  have p := im_pw5 o ho
  unfold T_37
  rw [im_T86 h, show (1 : Int32) = nI 1 from rfl, show (0 : Int32) = nI 0 from rfl, pk_sub p.2.2.2, im_btwN (Nat.zero_le _) (by omega) (by omega), im_btwN (Nat.zero_le _) (by omega) (by omega), if_neg (by decide), if_neg (by decide)]
theorem im_T36 (h : im_CV s o) (ho : o < 6) (hk : k < 4 ^ o) : T_36 s (nI k) = 1 := by
  have p := im_pw5 o ho
  unfold T_36
  rw [im_T87 h ho, show (1 : Int32) = nI 1 from rfl, pk_sub (by omega)]
  exact im_btwN (Nat.zero_le _) (by omega) (by omega)
theorem im_T35 (hc : c < 6) : T_35 s (nI c) = 1 := by
  unfold T_35
  exact im_btwN (Nat.zero_le _) (show c ≤ 5 by omega) (by decide)
theorem im_T38 {w q : Nat} (h : im_CV s o) (ho : o < 6) (hx : x < 2 ^ o) (hy : y < 2 ^ o) (hw : 1 ≤ w) (hw2 : x + w ≤ 2 ^ o) (hq : 1 ≤ q) (hq2 : y + q ≤ 2 ^ o) : T_38 s (nI x) (nI y) (nI w) (nI q) = 1 := by
  have p := im_pw5 o ho
  unfold T_38
  rw [im_T37 h ho hx hy, if_neg (by decide), im_T86 h, pk_sub (by omega), pk_sub (by omega), show (1 : Int32) = nI 1 from rfl, im_btwN hw (by omega) (by omega), im_btwN hq (by omega) (by omega), if_neg (by decide), if_neg (by decide)]
end ImK
