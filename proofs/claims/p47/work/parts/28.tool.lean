/-! Tools: numbers, rows, loops. -/
theorem im_df {a b : Nat} (ha : a < 2 ^ 31) (hb : b < 2 ^ 31) : hm_df (nI b) (nI a) = b - a := by
  unfold hm_df
  rw [nI_toInt ha, nI_toInt hb]
  omega
theorem im_df1 {a b : Nat} (ha : a < 2 ^ 31) (hb : b < 2 ^ 31) : hm_df1 (nI b) (nI a) = b + 1 - a := by
  unfold hm_df1
  rw [nI_toInt ha, nI_toInt hb]
  omega
theorem im_at {s : hm_St} {aa nn i : Nat} (h : i < nn) (hn : nn < 2 ^ 31 := by decide) : T_178 s aa nn (nI i) = s aa i := by
  unfold T_178
  rw [if_neg (nI_pos (by omega)), if_neg (show ¬ Int32.ofNat nn ≤ nI i from nI_ge h hn), nI_clamp (by omega)]
theorem im_atm {s : hm_St} {aa nn : Nat} : T_178 s aa nn (-1) = -1 := by
  unfold T_178
  rw [if_pos (by decide)]
theorem im_set {s : hm_St} {aa nn i : Nat} {v : Int32} (h : i < nn) (hn : nn < 2 ^ 31 := by decide) : T_179 s aa nn (nI i) v = hm_w1 s aa i v := by
  unfold T_179
  rw [if_neg (nI_pos (by omega)), if_neg (show ¬ Int32.ofNat nn ≤ nI i from nI_ge h hn), nI_clamp (by omega)]
theorem im_add {s : hm_St} {aa nn i : Nat} {v : Int32} (h : i < nn) (hn : nn < 2 ^ 31 := by decide) : T_180 s aa nn (nI i) v = hm_w1 s aa i (s aa i + v) := by
  unfold T_180
  rw [im_set h hn, im_at h hn]
theorem im_btw {s : hm_St} {a lo hi : Int32} (h1 : lo ≤ a) (h2 : a ≤ hi) : T_34 s a lo hi = 1 := by
  unfold T_34
  rw [if_neg (Int32.not_lt.mpr h1), if_neg (Int32.not_lt.mpr h2)]
theorem im_btwN {s : hm_St} {a lo hi : Nat} (h1 : lo ≤ a) (h2 : a ≤ hi) (hh : hi < 2 ^ 31) : T_34 s (nI a) (nI lo) (nI hi) = 1 := im_btw (nI_le h1 (by omega)) (nI_le h2 hh)
theorem im_ws {s : hm_St} {a i : Nat} {x : Int32} : hm_w1 s a i x a i = x := by
  unfold hm_w1
  rw [if_pos rfl]
  exact if_pos rfl
theorem im_wj {s : hm_St} {a i j : Nat} {x : Int32} (h : j ≠ i) : hm_w1 s a i x a j = s a j := by
  unfold hm_w1
  rw [if_pos rfl]
  exact if_neg h
theorem im_wif {s : hm_St} {a i j : Nat} {x : Int32} : hm_w1 s a i x a j = if j = i then x else s a j := by
  unfold hm_w1
  rw [if_pos rfl]
theorem im_max {a b : Nat} (ha : a < 2 ^ 31) (hb : b < 2 ^ 31) : hm_max (nI a) (nI b) = nI (max a b) := by
  unfold hm_max
  by_cases h : a < b
  · rw [if_pos (nI_lt h hb), Nat.max_eq_right (by omega)]
  · rw [if_neg (nI_nlt (by omega) ha), Nat.max_eq_left (by omega)]
theorem im_min {a b : Nat} (ha : a < 2 ^ 31) (hb : b < 2 ^ 31) : hm_min (nI a) (nI b) = nI (min a b) := by
  unfold hm_min
  by_cases h : b < a
  · rw [if_pos (nI_lt h ha), Nat.min_eq_right (by omega)]
  · rw [if_neg (nI_nlt (by omega) hb), Nat.min_eq_left (by omega)]
/-- a loop that counts -/
theorem im_ctl (f : Nat → Int32 → Int32 → Int32) (p : Nat → Bool) {a e : Nat} (hae : a ≤ e) (he : ∀ n c, f (n + 1) c (nI e) = c)
    (hs : ∀ n c j, a ≤ j → j < e → f (n + 1) c (nI j) = f n (if p j then c + 1 else c) (nI (j + 1))) {n : Nat} (hn : e - a < n) (c : Nat) :
    f n (nI c) (nI a) = nI (c + (fb_ct p e - fb_ct p a)) := by
  refine loop_i (σ := Nat) (fun n j c2 => f n (nI c2) (nI j) = nI (c + (fb_ct p e - fb_ct p a))) (fun j c2 => a ≤ j ∧ c2 + fb_ct p a = c + fb_ct p j) e ?_ ?_ n a c hae hn ⟨Nat.le_refl _, rfl⟩
  · intro n c2 ⟨h1, h2⟩
    have h3 := fb_ct_mono p hae
    show f (n + 1) (nI c2) (nI e) = _
    rw [he]
    exact congrArg nI (by omega)
  · intro n j c2 hj ⟨h1, h2⟩ ih
    show f (n + 1) (nI c2) (nI j) = _
    rw [hs n _ j h1 hj]
    have h3 := fb_ct_succ p j
    by_cases q : p j = true
    · rw [if_pos q] at h3 ⊢
      rw [nI_1]
      exact ih (c2 + 1) ⟨by omega, by omega⟩
    · rw [if_neg q] at h3 ⊢
      exact ih c2 ⟨by omega, by omega⟩
/-- a loop that sums -/
theorem im_sml (f : Nat → Int32 → Int32 → Int32) (g : Nat → Nat) {e : Nat} (he : ∀ n c, f (n + 1) c (nI e) = c)
    (hs : ∀ n c j, j < e → f (n + 1) c (nI j) = f n (c + nI (g j)) (nI (j + 1))) {n : Nat} (hn : e < n) : f n 0 0 = nI (fb_sm g e) := by
  refine loop_i (σ := Nat) (fun n j c2 => f n (nI c2) (nI j) = nI (fb_sm g e)) (fun j c2 => c2 = fb_sm g j) e ?_ ?_ n 0 0 (Nat.zero_le _) hn rfl
  · intro n c2 h2
    show f (n + 1) (nI c2) (nI e) = _
    rw [he, h2]
  · intro n j c2 hj h2 ih
    show f (n + 1) (nI c2) (nI j) = _
    rw [hs n _ j hj, nI_add]
    exact ih _ (by rw [h2, fb_sm_succ])
/-- a loop that goes on to i and ends there -/
theorem im_hit {γ : Type} (f : Nat → Int32 → γ) {a i : Nat} (hai : a ≤ i) (r : γ) (hr : ∀ n, f (n + 1) (nI i) = r)
    (hs : ∀ n j, a ≤ j → j < i → f (n + 1) (nI j) = f n (nI (j + 1))) {n : Nat} (hn : i - a < n) : f n (nI a) = r := by
  refine loop_i (σ := Unit) (fun n j _ => f n (nI j) = r) (fun j _ => a ≤ j) i ?_ ?_ n a () hai hn (Nat.le_refl _)
  · exact fun n _ _ => hr n
  · intro n j _ hj h1 ih
    show f (n + 1) (nI j) = r
    rw [hs n j h1 hj]
    exact ih () (by omega)
theorem im_ctT (p : Nat → Bool) {i n : Nat} (h : i < n) : fb_ct (fun k => if k = i then true else p k) n + (if p i then 1 else 0) = fb_ct p n + 1 := fb_ct_upd p true h
theorem im_ctF (p : Nat → Bool) {i n : Nat} (h : i < n) : fb_ct (fun k => if k = i then false else p k) n + (if p i then 1 else 0) = fb_ct p n := fb_ct_upd p false h
theorem im_ctT0 {p : Nat → Bool} {i n : Nat} (h : i < n) (q : p i = false) : fb_ct (fun k => if k = i then true else p k) n = fb_ct p n + 1 := by
  have u := im_ctT p h
  rw [if_neg (by rw [q]; decide)] at u
  exact u
theorem im_ctF1 {p : Nat → Bool} {i n : Nat} (h : i < n) (q : p i = true) : fb_ct (fun k => if k = i then false else p k) n + 1 = fb_ct p n := by
  have u := im_ctF p h
  rw [if_pos q] at u
  exact u
theorem im_set0 {s : hm_St} {aa nn : Nat} {v : Int32} (h : 0 < nn) (hn : nn < 2 ^ 31 := by decide) : T_179 s aa nn 0 v = hm_w1 s aa 0 v := im_set h hn
theorem im_set1 {s : hm_St} {aa nn : Nat} {v : Int32} (h : 1 < nn) (hn : nn < 2 ^ 31 := by decide) : T_179 s aa nn 1 v = hm_w1 s aa 1 v := im_set h hn
theorem im_at0 {s : hm_St} {aa nn : Nat} (h : 0 < nn) (hn : nn < 2 ^ 31 := by decide) : T_178 s aa nn 0 = s aa 0 := im_at h hn
