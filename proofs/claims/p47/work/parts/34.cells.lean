/-! The cells of each level. -/
def im_of : Nat → Nat
  | 0 => 0
  | l + 1 => im_of l + 4 ^ l
theorem im_ofm {l : Nat} : ∀ {m : Nat}, l < m → im_of l + 4 ^ l ≤ im_of m
  | 0, h => absurd h (Nat.not_lt_zero l)
  | m + 1, h => by
    by_cases e : l = m
    · subst e
      exact Nat.le_refl _
    · have h1 := im_ofm (l := l) (m := m) (by omega)
      exact Nat.le_trans h1 (Nat.le_add_right _ _)
theorem im_ofb : ∀ l, l < 6 → im_of l + 4 ^ l ≤ 1365 ∧ (nI (4 ^ l) - 1) / 3 = nI (im_of l) := by decide +kernel
/-- a place's cell -/
def im_ca (o l x y : Nat) : Nat := y / 2 ^ (o - l) * 2 ^ l + x / 2 ^ (o - l)
theorem im_div {o l x : Nat} (hl : l ≤ o) (hx : x < 2 ^ o) : x / 2 ^ (o - l) < 2 ^ l := by
  rw [Nat.div_lt_iff_lt_mul (Nat.two_pow_pos _), ← Nat.pow_add, show l + (o - l) = o by omega]
  exact hx
theorem im_cal {o l x y : Nat} (hl : l ≤ o) (hx : x < 2 ^ o) (hy : y < 2 ^ o) : im_ca o l x y < 4 ^ l := by
  have h1 := im_div hl hx
  have h2 := im_div hl hy
  unfold im_ca
  have h3 : (4 : Nat) ^ l = 2 ^ l * 2 ^ l := by rw [← Nat.mul_pow]
  rw [h3]
  have h4 : (y / 2 ^ (o - l) + 1) * 2 ^ l ≤ 2 ^ l * 2 ^ l := Nat.mul_le_mul_right _ h2
  rw [Nat.add_mul, Nat.one_mul] at h4
  omega
theorem im_sh31 : ∀ k, k < 31 → (((nI k) &&& 31).toBitVec.smod 32).toNat = k := by decide +kernel
theorem im_shr {a k : Nat} (ha : a < 2 ^ 31) (hk : k < 31) : nI a >>> (nI k &&& 31) = nI (a / 2 ^ k) := pk_shrN ha _ k (im_sh31 k hk)
theorem im_shl {a k : Nat} (hk : k < 31) (h : a * 2 ^ k < 2 ^ 32) : nI a <<< (nI k &&& 31) = nI (a * 2 ^ k) := pk_shlN _ k (im_sh31 k hk) h
theorem im_pw5 : ∀ l, l < 6 → 2 ^ l ≤ 32 ∧ 4 ^ l ≤ 1024 ∧ 2 ^ l * 2 ^ l = 4 ^ l ∧ 1 ≤ 2 ^ l := by decide
theorem im_T72 {s : hm_St} {l : Nat} (hl : l < 6) : T_72 s (nI l) = nI (4 ^ l) := im_p4 l hl
theorem im_T73 {s : hm_St} {l c : Nat} (hl : l < 6) : T_73 s (nI l) (nI c) = nI (im_of l + c) := by
  unfold T_73
  rw [im_T72 hl, (im_ofb l hl).2, nI_add]
theorem im_T74 {s : hm_St} {o l x y : Nat} (h47 : s 47 1 = nI o) (hl : l ≤ o) (ho : o < 6) (hx : x < 2 ^ o) (hy : y < 2 ^ o) : T_74 s (nI l) (nI x) (nI y) = nI (im_ca o l x y) := by
  have p1 := im_pw5 o ho
  have p2 := im_pw5 l (by omega)
  have d1 := im_div hl hy
  unfold T_74
  rw [h47, pk_sub hl, im_shr (by omega) (by omega), im_shr (by omega) (by omega), im_shl (by omega), nI_add]
  · rfl
  · have : y / 2 ^ (o - l) * 2 ^ l ≤ 2 ^ l * 2 ^ l := Nat.mul_le_mul_right _ (Nat.le_of_lt d1)
    omega
theorem im_T75 {s : hm_St} {l c : Nat} (hl : l < 6) (hc : c < 4 ^ l) : T_75 s (nI l) (nI c) = s 49 (im_of l + c) := by
  have := im_ofb l hl
  unfold T_75
  rw [im_T73 hl, im_at (by omega)]
/-- where points are -/
def im_X (s : hm_St) (p : Nat) : Nat := (s 16 p).toNatClampNeg
def im_Y (s : hm_St) (p : Nat) : Nat := (s 18 p).toNatClampNeg
def im_in (s : hm_St) (o l c : Nat) (live : Nat → Bool) : Nat → Bool := fun p => live p && decide (im_ca o l (im_X s p) (im_Y s p) = c)
/-- each cell's count is that of those in it -/
def im_CE (s : hm_St) (o : Nat) (live : Nat → Bool) : Prop := s 47 1 = nI o ∧ ∀ l c, l ≤ o → c < 4 ^ l → s 49 (im_of l + c) = nI (fb_ct (im_in s o l c live) 80)
section ImC
variable {s : hm_St} {o : Nat} {live : Nat → Bool}
/-- a place is counted -/
theorem im_T76 {x y : Nat} {d : Int32} (h47 : s 47 1 = nI o) (ho : o < 6) (hx : x < 2 ^ o) (hy : y < 2 ^ o) :
    T_76 s (nI x) (nI y) d 47 1 = nI o ∧ ∀ l c, l ≤ o → c < 4 ^ l → T_76 s (nI x) (nI y) d 49 (im_of l + c) = if c = im_ca o l x y then s 49 (im_of l + c) + d else s 49 (im_of l + c) := by
  unfold T_76
  rw [h47, show (0 : Int32) = nI 0 from rfl, im_df1 (by omega) (by omega)]
  refine loop_i (σ := hm_St) (fun n i t => T_76_3 n t (nI x) (nI y) d (nI i) 47 1 = nI o ∧ ∀ l c, l ≤ o → c < 4 ^ l → T_76_3 n t (nI x) (nI y) d (nI i) 49 (im_of l + c) = if c = im_ca o l x y then s 49 (im_of l + c) + d else s 49 (im_of l + c))
    (fun i t => t 47 1 = nI o ∧ ∀ l c, l ≤ o → c < 4 ^ l → t 49 (im_of l + c) = if l < i ∧ c = im_ca o l x y then s 49 (im_of l + c) + d else s 49 (im_of l + c)) (o + 1) ?_ ?_ _ 0 s (Nat.zero_le _) (by omega) ⟨h47, fun l c _ _ => (if_neg (by omega)).symm⟩
  · intro n t ⟨b1, b2⟩
    show T_76_3 (n + 1) t (nI x) (nI y) d (nI (o + 1)) 47 1 = nI o ∧ ∀ l c, l ≤ o → c < 4 ^ l → T_76_3 (n + 1) t (nI x) (nI y) d (nI (o + 1)) 49 (im_of l + c) = _
    rw [T_76_3, b1, if_pos (nI_lt (by omega) (by omega))]
    refine ⟨b1, fun l c hl hc => ?_⟩
    rw [b2 l c hl hc]
    by_cases q : c = im_ca o l x y
    · rw [if_pos ⟨by omega, q⟩, if_pos q]
    · rw [if_neg (fun h => q h.2), if_neg q]
  · intro n i t hi ⟨b1, b2⟩ ih
    show T_76_3 (n + 1) t (nI x) (nI y) d (nI i) 47 1 = nI o ∧ ∀ l c, l ≤ o → c < 4 ^ l → T_76_3 (n + 1) t (nI x) (nI y) d (nI i) 49 (im_of l + c) = _
    have hca := im_cal (l := i) (by omega) hx hy
    have hb := im_ofb i (by omega)
    rw [T_76_3, b1, if_neg (nI_nlt (by omega) (by omega)), im_T74 b1 (by omega) ho hx hy, im_T73 (by omega), im_add (by omega), nI_1]
    refine ih _ ⟨(hm_w1n (by decide)).trans b1, fun l c hl hc => ?_⟩
    rw [im_wif]
    by_cases q : im_of l + c = im_of i + im_ca o i x y
    · have e : l = i := by
        rcases Nat.lt_trichotomy l i with r | r | r
        · have := im_ofm r
          omega
        · exact r
        · have := im_ofm r
          omega
      subst e
      have e2 : c = im_ca o l x y := by omega
      rw [if_pos q, ← e2, if_pos ⟨by omega, rfl⟩, b2 l c hl hc, if_neg (by omega)]
    · rw [if_neg q, b2 l c hl hc]
      by_cases r : l < i ∧ c = im_ca o l x y
      · rw [if_pos r, if_pos ⟨by omega, r.2⟩]
      · rw [if_neg r, if_neg]
        rintro ⟨r1, r2⟩
        by_cases e : l = i
        · subst e
          exact q (by rw [r2])
        · exact r ⟨by omega, r2⟩
/-- one more, one less in the cells -/
theorem im_CEadd {t : hm_St} {p x y : Nat} (h : im_CE s o live) (ho : o < 6) (hp : p < 80) (hl : live p = false) (hx : x < 2 ^ o) (hy : y < 2 ^ o)
    (hX : ∀ q, im_X t q = if q = p then x else im_X s q) (hY : ∀ q, im_Y t q = if q = p then y else im_Y s q) (h47 : t 47 1 = nI o)
    (h49 : ∀ l c, l ≤ o → c < 4 ^ l → t 49 (im_of l + c) = if c = im_ca o l x y then s 49 (im_of l + c) + 1 else s 49 (im_of l + c)) : im_CE t o (fun q => if q = p then true else live q) := by
  refine ⟨h47, fun l c hlo hc => ?_⟩
  rw [h49 l c hlo hc, h.2 l c hlo hc]
  have e : im_in t o l c (fun q => if q = p then true else live q) = fun q => if q = p then decide (im_ca o l x y = c) else im_in s o l c live q := by
    funext q
    unfold im_in
    rw [hX, hY]
    by_cases r : q = p
    · simp only [if_pos r, Bool.true_and]
    · simp only [if_neg r]
  have z : im_in s o l c live p = false := by
    unfold im_in
    rw [hl, Bool.false_and]
  rw [e]
  have u := fb_ct_upd (im_in s o l c live) (decide (im_ca o l x y = c)) hp
  rw [z, if_neg (by decide), Nat.add_zero] at u
  rw [u]
  by_cases q : c = im_ca o l x y
  · rw [if_pos q, if_pos (decide_eq_true q.symm), nI_1]
  · rw [if_neg q, if_neg (by rw [decide_eq_true_iff]; omega), Nat.add_zero]
theorem im_CEsub {t : hm_St} {p : Nat} (h : im_CE s o live) (ho : o < 6) (hp : p < 80) (hl : live p = true) (hX : ∀ q, im_X t q = im_X s q) (hY : ∀ q, im_Y t q = im_Y s q) (h47 : t 47 1 = nI o)
    (h49 : ∀ l c, l ≤ o → c < 4 ^ l → t 49 (im_of l + c) = if c = im_ca o l (im_X s p) (im_Y s p) then s 49 (im_of l + c) + (-1) else s 49 (im_of l + c)) : im_CE t o (fun q => if q = p then false else live q) := by
  refine ⟨h47, fun l c hlo hc => ?_⟩
  rw [h49 l c hlo hc, h.2 l c hlo hc]
  have e : im_in t o l c (fun q => if q = p then false else live q) = fun q => if q = p then false else im_in s o l c live q := by
    funext q
    unfold im_in
    rw [hX, hY]
    by_cases r : q = p
    · simp only [if_pos r, Bool.false_and]
    · simp only [if_neg r]
  rw [e]
  by_cases q : c = im_ca o l (im_X s p) (im_Y s p)
  · have z : im_in s o l c live p = true := by
      unfold im_in
      rw [hl, Bool.true_and]
      exact decide_eq_true q.symm
    have u := im_ctF1 hp z
    rw [if_pos q, ← u]
    exact pk_m1 _
  · have z : im_in s o l c live p = false := by
      unfold im_in
      rw [hl, Bool.true_and]
      exact decide_eq_false (fun h => q h.symm)
    have u := im_ctF (im_in s o l c live) hp
    rw [z, if_neg (by decide), Nat.add_zero] at u
    rw [if_neg q, u]
end ImC
