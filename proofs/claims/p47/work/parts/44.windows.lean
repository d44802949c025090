/-! Windows: runs of keys, laid and joined. -/
abbrev im_W := Nat × (Nat → Nat) × (Nat → Nat) × Nat
def im_pv (q : Nat → Bool) : Nat → Bool
  | 0 => false
  | k + 1 => q k
def im_ly (q : Nat → Bool) : Nat → im_W
  | 0 => (0, fun _ => 0, fun _ => 0, 0)
  | k + 1 => if q k = true then (if im_pv q k = true then ((im_ly q k).1, (im_ly q k).2.1, (fun i => if i = (im_ly q k).1 - 1 then k else (im_ly q k).2.2.1 i), 0)
      else ((im_ly q k).1 + 1, (fun i => if i = (im_ly q k).1 then k else (im_ly q k).2.1 i), (fun i => if i = (im_ly q k).1 then k else (im_ly q k).2.2.1 i), 0)) else im_ly q k
def im_WS (t : hm_St) (W : im_W) : Prop := t 59 2 = nI W.1 ∧ t 59 3 = nI W.2.2.2 ∧ ∀ i, i < W.1 → t 61 i = nI (W.2.1 i) ∧ t 63 i = nI (W.2.2.1 i)
def im_WV (n : Nat) (W : im_W) : Prop := W.1 ≤ n ∧ (∀ i, i < W.1 → W.2.1 i ≤ W.2.2.1 i ∧ W.2.2.1 i < n) ∧ ∀ i, i + 1 < W.1 → W.2.2.1 i < W.2.1 (i + 1)
def im_OT (s t : hm_St) : Prop := ∀ b j, b ≠ 59 → b ≠ 61 → b ≠ 63 → t b j = s b j
theorem im_OTr (s : hm_St) : im_OT s s := fun _ _ _ _ _ => rfl
theorem im_OTt {s t u : hm_St} (h : im_OT s t) (h2 : im_OT t u) : im_OT s u := fun b j a1 a2 a3 => (h2 b j a1 a2 a3).trans (h b j a1 a2 a3)
theorem im_OTw {s t : hm_St} {a i : Nat} {x : Int32} (h : im_OT s t) (ha : a = 59 ∨ a = 61 ∨ a = 63) : im_OT s (hm_w1 t a i x) := by
  intro b j a1 a2 a3
  rw [hm_w1n (by omega)]
  exact h b j a1 a2 a3
theorem im_lyF (q : Nat → Bool) : ∀ k, (im_ly q k).2.2.2 = 0
  | 0 => rfl
  | k + 1 => by
    rw [im_ly]
    by_cases a : q k = true
    · rw [if_pos a]
      by_cases b : im_pv q k = true
      · rw [if_pos b]
      · rw [if_neg b]
    · rw [if_neg a]
      exact im_lyF q k
theorem im_lyV (q : Nat → Bool) : ∀ k, im_WV k (im_ly q k) ∧ (im_pv q k = true → 1 ≤ (im_ly q k).1 ∧ (im_ly q k).2.2.1 ((im_ly q k).1 - 1) + 1 = k) ∧ ((∃ j, j < k ∧ q j = true) → 1 ≤ (im_ly q k).1)
  | 0 => ⟨⟨Nat.le_refl _, fun i hi => absurd hi (Nat.not_lt_zero _), fun i hi => absurd hi (Nat.not_lt_zero _)⟩, fun h => absurd (show false = true from h) (by decide), fun ⟨j, hj, _⟩ => absurd hj (Nat.not_lt_zero _)⟩
  | k + 1 => by
    obtain ⟨⟨v1, v2, v3⟩, v4, v5⟩ := im_lyV q k
    rw [im_ly]
    by_cases a : q k = true
    · rw [if_pos a]
      by_cases b : im_pv q k = true
      · rw [if_pos b]
        obtain ⟨w1, w2⟩ := v4 b
        refine ⟨⟨by dsimp only; omega, fun i hi => ?_, fun i hi => ?_⟩, fun _ => ⟨w1, ?_⟩, fun _ => w1⟩
        · dsimp only at hi ⊢
          have := v2 i hi
          by_cases e : i = (im_ly q k).1 - 1
          · rw [if_pos e]
            omega
          · rw [if_neg e]
            omega
        · dsimp only at hi ⊢
          rw [if_neg (by omega)]
          exact v3 i hi
        · dsimp only
          rw [if_pos rfl]
      · rw [if_neg b]
        refine ⟨⟨by dsimp only; omega, fun i hi => ?_, fun i hi => ?_⟩, fun _ => ⟨by dsimp only; omega, ?_⟩, fun _ => by dsimp only; omega⟩
        · dsimp only at hi ⊢
          by_cases e : i = (im_ly q k).1
          · rw [if_pos e, if_pos e]
            omega
          · rw [if_neg e, if_neg e]
            have := v2 i (by omega)
            omega
        · dsimp only at hi ⊢
          rw [if_neg (by omega)]
          by_cases e : i + 1 = (im_ly q k).1
          · rw [if_pos e]
            exact (v2 i (by omega)).2
          · rw [if_neg e]
            exact v3 i (by omega)
        · dsimp only
          rw [if_pos (by omega)]
    · rw [if_neg a]
      refine ⟨⟨by omega, fun i hi => ?_, v3⟩, fun h => absurd h a, ?_⟩
      · have := v2 i hi
        omega
      · rintro ⟨j, hj, e⟩
        refine v5 ⟨j, ?_, e⟩
        rcases Nat.lt_or_ge j k with z | z
        · exact z
        · have : j = k := by omega
          rw [this] at e
          exact absurd e a
section ImC
variable {s : hm_St} {o n : Nat}
def im_Q (s : hm_St) (c u v w h : Nat) : Nat → Bool := fun k => im_hs (nI u) (nI v) (nI w) (nI h) (T_89 s (nI c) (nI k)) (T_90 s (nI c) (nI k))
theorem im_T104 {bx c u v w h : Nat} (hC : im_CV s o) (ho : o < 6) (hb : 68 ≤ bx) (e0 : s bx 0 = nI u) (e1 : s bx 1 = nI v) (e2 : s bx 2 = nI w) (e3 : s bx 3 = nI h) :
    im_OT s (T_104 s (nI c) bx) ∧ im_WS (T_104 s (nI c) bx) (im_ly (im_Q s c u v w h) (4 ^ o)) := by
  have pw := im_pw5 o ho
  have hE : ∀ t, im_OT s t → T_87 t = nI (4 ^ o) ∧ ∀ k, T_66 t bx (T_89 t (nI c) (nI k)) (T_90 t (nI c) (nI k)) = if im_Q s c u v w h k = true then 1 else 0 := by
    intro t ht
    have hF : ∀ b, Nat.blt b 59 = true → t b = s b := fun b hb => funext fun j => by
      have := Nat.blt_eq.mp hb
      exact ht b j (by omega) (by omega) (by omega)
    refine ⟨(F_87 hF).trans (im_T87 hC ho), fun k => ?_⟩
    rw [im_T66, ht bx 0 (by omega) (by omega) (by omega), ht bx 1 (by omega) (by omega) (by omega), ht bx 2 (by omega) (by omega) (by omega), ht bx 3 (by omega) (by omega) (by omega), e0, e1, e2, e3, F_89 hF, F_90 hF]
    rfl
  generalize im_Q s c u v w h = q at hE
  have h0 : im_OT s (hm_w1 (hm_w1 s 59 2 0) 59 3 0) := im_OTw (im_OTw (im_OTr s) (Or.inl rfl)) (Or.inl rfl)
  have hw : im_WS (hm_w1 (hm_w1 s 59 2 0) 59 3 0) (im_ly q 0) := by
    refine ⟨?_, ?_, fun i hi => absurd hi (Nat.not_lt_zero _)⟩
    · rw [im_wj (by decide), im_ws]
      rfl
    · rw [im_ws]
      rfl
  unfold T_104
  generalize hm_w1 (hm_w1 s 59 2 0) 59 3 0 = t0 at h0 hw
  rw [(hE t0 h0).1, show (0 : Int32) = nI 0 from rfl, im_df (by omega) (by omega)]
  refine loop_i (σ := hm_St) (fun m k t => im_OT s (T_104_16 bx m t (nI c) (if im_pv q k = true then 1 else 0) (nI k)) ∧ im_WS (T_104_16 bx m t (nI c) (if im_pv q k = true then 1 else 0) (nI k)) (im_ly q (4 ^ o))) (fun k t => im_OT s t ∧ im_WS t (im_ly q k)) (4 ^ o) ?_ ?_ (4 ^ o - 0 + 1) 0 t0 (Nat.zero_le _) (by omega) ⟨h0, hw⟩
  · rintro m t ⟨ht, hW⟩
    rw [T_104_16, (hE t ht).1, if_pos (Int32.le_refl _)]
    exact ⟨ht, hW⟩
  · rintro m k t hk ⟨ht, hW⟩ ih
    obtain ⟨⟨v1, v2, v3⟩, v4, v5⟩ := im_lyV q k
    rw [T_104_16, (hE t ht).1, if_neg (nI_ge hk (by omega)), (hE t ht).2 k, nI_1]
    by_cases a : q k = true
    · have ep : (if im_pv q (k + 1) = true then (1 : Int32) else 0) = 1 := if_pos a
      rw [ep] at ih
      rw [if_pos a]
      by_cases b : im_pv q k = true
      · obtain ⟨w1, w2⟩ := v4 b
        rw [if_pos b, if_neg (by decide), if_neg (by decide), if_neg (by decide), hW.1, show nI (im_ly q k).1 - 1 = nI ((im_ly q k).1 - 1) from pk_sub (b := 1) w1, im_set (by omega)]
        refine ih _ ⟨im_OTw ht (Or.inr (Or.inr rfl)), ?_⟩
        rw [im_ly, if_pos a, if_pos b]
        refine ⟨?_, ?_, fun i hi => ⟨?_, ?_⟩⟩
        · rw [hm_w1n (by decide)]
          exact hW.1
        · rw [hm_w1n (by decide), hW.2.1, im_lyF]
        · rw [hm_w1n (by decide)]
          exact (hW.2.2 i hi).1
        · dsimp only at hi ⊢
          rw [im_wif]
          by_cases e : i = (im_ly q k).1 - 1
          · rw [if_pos e, if_pos e]
          · rw [if_neg e, if_neg e]
            exact (hW.2.2 i hi).2
      · have hS : (im_ly q k).1 < 1024 := by omega
        rw [if_neg b, if_neg (by decide), if_pos rfl, if_neg (by decide), hW.1, im_set hS]
        have z1 : hm_w1 t 61 (im_ly q k).1 (nI k) 59 2 = nI (im_ly q k).1 := by
          rw [hm_w1n (by decide)]
          exact hW.1
        rw [z1, im_ws, show nI (im_ly q k).1 + 1 = nI ((im_ly q k).1 + 1) from nI_1 _, nI_pred, im_set hS]
        refine ih _ ⟨im_OTw (im_OTw (im_OTw ht (Or.inr (Or.inl rfl))) (Or.inl rfl)) (Or.inr (Or.inr rfl)), ?_⟩
        rw [im_ly, if_pos a, if_neg b]
        refine ⟨?_, ?_, fun i hi => ⟨?_, ?_⟩⟩
        · rw [hm_w1n (by decide), im_ws]
        · rw [hm_w1n (by decide), im_wj (by decide), hm_w1n (by decide), hW.2.1, im_lyF]
        · dsimp only at hi ⊢
          rw [hm_w1n (by decide), hm_w1n (by decide), im_wif]
          by_cases e : i = (im_ly q k).1
          · rw [if_pos e, if_pos e]
          · rw [if_neg e, if_neg e]
            exact (hW.2.2 i (by omega)).1
        · dsimp only at hi ⊢
          rw [im_wif]
          by_cases e : i = (im_ly q k).1
          · rw [if_pos e, if_pos e]
          · rw [if_neg e, if_neg e, hm_w1n (by decide), hm_w1n (by decide)]
            exact (hW.2.2 i (by omega)).2
    · have ep : (if im_pv q (k + 1) = true then (1 : Int32) else 0) = 0 := if_neg a
      rw [ep] at ih
      rw [if_neg a, if_pos rfl, if_pos rfl]
      refine ih _ ⟨ht, ?_⟩
      rw [im_ly, if_neg a]
      exact hW
end ImC
/-! Two runs are joined. -/
def im_gp (W : im_W) : Nat → Nat := fun i => W.2.1 (i + 1) - W.2.2.1 i - 1
def im_bst (f : Nat → Nat) : Nat → Nat
  | 0 => 0
  | m + 1 => if f (im_bst f m) ≤ f (m + 1) then im_bst f m else m + 1
theorem im_bstl (f : Nat → Nat) : ∀ m, im_bst f m ≤ m
  | 0 => Nat.le_refl _
  | m + 1 => by
    have := im_bstl f m
    rw [im_bst]
    split <;> omega
def im_jn (W : im_W) : im_W := (W.1 - 1, (fun j => if j ≤ im_bst (im_gp W) (W.1 - 2) then W.2.1 j else W.2.1 (j + 1)), (fun j => if j < im_bst (im_gp W) (W.1 - 2) then W.2.2.1 j else W.2.2.1 (j + 1)), W.2.2.2 + im_gp W (im_bst (im_gp W) (W.1 - 2)))
def im_jt : im_W → Nat → im_W
  | W, 0 => W
  | W, k + 1 => im_jt (im_jn W) k
theorem im_jts : ∀ (k : Nat) (W : im_W), im_jt W (k + 1) = im_jn (im_jt W k)
  | 0, _ => rfl
  | k + 1, W => im_jts k (im_jn W)
section ImJ
variable {s t : hm_St} {W : im_W} {n : Nat}
theorem im_mono (h : im_WV n W) {i : Nat} : ∀ {j : Nat}, i < j → j < W.1 → W.2.2.1 i < W.2.1 j
  | 0, h1, _ => absurd h1 (Nat.not_lt_zero _)
  | j + 1, h1, h2 => by
    rcases Nat.lt_or_ge i j with z | z
    · have a := im_mono h z (by omega)
      have b := (h.2.1 j (by omega)).1
      have c := h.2.2 j h2
      omega
    · have e : i = j := by omega
      rw [e]
      exact h.2.2 j h2
theorem im_jnV (h : im_WV n W) (h2 : 2 ≤ W.1) : im_WV n (im_jn W) ∧ (im_jn W).1 + 1 = W.1 := by
  have hb := im_bstl (im_gp W) (W.1 - 2)
  have h1 := h.1
  refine ⟨⟨by show W.1 - 1 ≤ n; omega, fun i hi => ?_, fun i hi => ?_⟩, by show W.1 - 1 + 1 = W.1; omega⟩
  · have hi2 : i < W.1 - 1 := hi
    show (if i ≤ im_bst (im_gp W) (W.1 - 2) then W.2.1 i else W.2.1 (i + 1)) ≤ (if i < im_bst (im_gp W) (W.1 - 2) then W.2.2.1 i else W.2.2.1 (i + 1)) ∧ (if i < im_bst (im_gp W) (W.1 - 2) then W.2.2.1 i else W.2.2.1 (i + 1)) < n
    have a := h.2.1 i (by omega)
    have b := h.2.1 (i + 1) (by omega)
    have c := h.2.2 i (by omega)
    split <;> split <;> omega
  · have hi2 : i + 1 < W.1 - 1 := hi
    show (if i < im_bst (im_gp W) (W.1 - 2) then W.2.2.1 i else W.2.2.1 (i + 1)) < (if i + 1 ≤ im_bst (im_gp W) (W.1 - 2) then W.2.1 (i + 1) else W.2.1 (i + 1 + 1))
    have c := h.2.2 i (by omega)
    have d := h.2.2 (i + 1) (by omega)
    have e := h.2.1 (i + 1) (by omega)
    split <;> split <;> omega
theorem im_jtV (h : im_WV n W) {k : Nat} (hk : k < W.1) : im_WV n (im_jt W k) ∧ (im_jt W k).1 + k = W.1 := by
  induction k with
  | zero => exact ⟨h, rfl⟩
  | succ k ih =>
    obtain ⟨a, b⟩ := ih (by omega)
    rw [im_jts]
    obtain ⟨c, d⟩ := im_jnV a (by omega)
    exact ⟨c, by omega⟩
theorem im_gpb (h : im_WV n W) {i : Nat} (hi : i + 1 < W.1) : im_gp W i < n := by
  have a := h.2.1 (i + 1) hi
  unfold im_gp
  omega
theorem im_jtF (h : im_WV n W) {k : Nat} (hk : k < W.1) : (im_jt W k).2.2.2 ≤ W.2.2.2 + k * n := by
  induction k with
  | zero => exact Nat.le_add_right _ _
  | succ k ih =>
    have a := ih (by omega)
    obtain ⟨b, c⟩ := im_jtV h (k := k) (by omega)
    rw [im_jts]
    have hb := im_bstl (im_gp (im_jt W k)) ((im_jt W k).1 - 2)
    have d := im_gpb b (i := im_bst (im_gp (im_jt W k)) ((im_jt W k).1 - 2)) (by omega)
    show (im_jt W k).2.2.2 + im_gp (im_jt W k) (im_bst (im_gp (im_jt W k)) ((im_jt W k).1 - 2)) ≤ _
    rw [Nat.add_mul, Nat.one_mul]
    omega
theorem im_T106 (hW : im_WS t W) (h : im_WV n W) (hn : n ≤ 1024) {i : Nat} (hi : i + 1 < W.1) : T_106 t (nI i) = nI (im_gp W i) := by
  have h1 := h.1
  have c := h.2.2 i hi
  unfold T_106 im_gp
  rw [nI_1, im_at (by omega), im_at (by omega), (hW.2.2 (i + 1) hi).1, (hW.2.2 i (by omega)).2, pk_sub (by omega)]
  exact pk_sub (b := 1) (by omega)
theorem im_T107 (hW : im_WS t W) (h : im_WV n W) (hn : n ≤ 1024) (h2 : 2 ≤ W.1) : T_107 t = nI (im_bst (im_gp W) (W.1 - 2)) := by
  have h1 := h.1
  unfold T_107
  rw [hW.1, show (1 + 1 : Int32) = nI 2 from rfl, im_df (by omega) (by omega)]
  refine loop_i (σ := Nat) (fun m j c => T_107_4 m t (nI c) (nI j) = nI (im_bst (im_gp W) (W.1 - 2))) (fun j c => 1 ≤ j ∧ c = im_bst (im_gp W) (j - 1)) (W.1 - 1) ?_ ?_ (W.1 - 2 + 1) 1 0 (by omega) (by omega) ⟨Nat.le_refl _, rfl⟩
  · rintro m c ⟨_, hc⟩
    rw [T_107_4, hW.1, nI_1, if_pos (nI_le (by omega) (by omega)), hc, show W.1 - 1 - 1 = W.1 - 2 by omega]
  · rintro m j c hj ⟨j1, hc⟩ ih
    have hb := im_bstl (im_gp W) (j - 1)
    have g1 := im_gpb h (i := c) (by omega)
    have g2 := im_gpb h (i := j) (by omega)
    rw [T_107_4, hW.1, nI_1, if_neg (nI_ge (by omega) (by omega)), im_T106 hW h hn (i := c) (by omega), im_T106 hW h hn (i := j) (by omega)]
    have e : im_bst (im_gp W) j = if im_gp W c ≤ im_gp W j then c else j := by
      rw [hc, show j = j - 1 + 1 by omega, im_bst, show j - 1 + 1 - 1 = j - 1 by omega]
    by_cases q : im_gp W c ≤ im_gp W j
    · rw [if_pos (nI_le q (by omega))]
      rw [if_pos q] at e
      exact ih c ⟨by omega, by rw [← e]; rfl⟩
    · rw [if_neg (nI_ge (by omega) (by omega))]
      rw [if_neg q] at e
      exact ih j ⟨by omega, by rw [Nat.add_sub_cancel]; exact e.symm⟩
theorem im_T108 (hW : im_WS t W) (h : im_WV n W) (hn : n ≤ 1024) (h2 : 2 ≤ W.1) (ht : im_OT s t) : im_OT s (T_108 t (T_107 t)) ∧ im_WS (T_108 t (T_107 t)) (im_jn W) := by
  have h1 := h.1
  have hb := im_bstl (im_gp W) (W.1 - 2)
  rw [im_T107 hW h hn h2]
  unfold T_108
  rw [im_T106 hW h hn (i := im_bst (im_gp W) (W.1 - 2)) (by omega)]
  unfold im_jn
  generalize im_bst (im_gp W) (W.1 - 2) = i at hb
  generalize im_gp W i = gp
  have a2 : hm_w1 t 59 3 (t 59 3 + nI gp) 59 2 = nI W.1 := by
    rw [im_wj (by decide)]
    exact hW.1
  have a3 : hm_w1 t 59 3 (t 59 3 + nI gp) 59 3 = nI (W.2.2.2 + gp) := by
    rw [im_ws, hW.2.1, nI_add]
  have a61 : ∀ j, hm_w1 t 59 3 (t 59 3 + nI gp) 61 j = t 61 j := fun j => hm_w1n (by decide)
  have a63 : ∀ j, hm_w1 t 59 3 (t 59 3 + nI gp) 63 j = t 63 j := fun j => hm_w1n (by decide)
  have aO : im_OT s (hm_w1 t 59 3 (t 59 3 + nI gp)) := im_OTw ht (Or.inl rfl)
  generalize hm_w1 t 59 3 (t 59 3 + nI gp) = t1 at a2 a3 a61 a63 aO
  rw [a2, nI_1, im_T183 (size := W.1) (by omega) (by omega)]
  have b2 : ∀ j, im_drp t1 61 (i + 1) W.1 59 j = t1 59 j := fun j => by
    unfold im_drp
    rw [if_neg (by decide)]
  have b63 : ∀ j, im_drp t1 61 (i + 1) W.1 63 j = t1 63 j := fun j => by
    unfold im_drp
    rw [if_neg (by decide)]
  have b61 : ∀ j, im_drp t1 61 (i + 1) W.1 61 j = if i + 1 ≤ j ∧ j + 1 < W.1 then t1 61 (j + 1) else t1 61 j := fun j => by
    unfold im_drp
    rw [if_pos rfl]
  have bO : im_OT s (im_drp t1 61 (i + 1) W.1) := by
    intro b j q1 q2 q3
    unfold im_drp
    rw [if_neg q2]
    exact aO b j q1 q2 q3
  generalize im_drp t1 61 (i + 1) W.1 = t2 at b2 b63 b61 bO
  rw [b2, a2, im_T183 (size := W.1) (by omega) (by omega)]
  have c2 : ∀ j, im_drp t2 63 i W.1 59 j = t2 59 j := fun j => by
    unfold im_drp
    rw [if_neg (by decide)]
  have c61 : ∀ j, im_drp t2 63 i W.1 61 j = t2 61 j := fun j => by
    unfold im_drp
    rw [if_neg (by decide)]
  have c63 : ∀ j, im_drp t2 63 i W.1 63 j = if i ≤ j ∧ j + 1 < W.1 then t2 63 (j + 1) else t2 63 j := fun j => by
    unfold im_drp
    rw [if_pos rfl]
  have cO : im_OT s (im_drp t2 63 i W.1) := by
    intro b j q1 q2 q3
    unfold im_drp
    rw [if_neg q3]
    exact bO b j q1 q2 q3
  generalize im_drp t2 63 i W.1 = t3 at c2 c61 c63 cO
  rw [c2, b2, a2, show nI W.1 - 1 = nI (W.1 - 1) from pk_sub (b := 1) (by omega)]
  refine ⟨im_OTw cO (Or.inl rfl), ?_, ?_, fun j hj => ⟨?_, ?_⟩⟩
  · rw [im_ws]
  · rw [im_wj (by decide), c2, b2, a3]
  · have hj2 : j < W.1 - 1 := hj
    rw [hm_w1n (by decide), c61, b61, a61, a61]
    show _ = nI (if j ≤ i then W.2.1 j else W.2.1 (j + 1))
    by_cases q : j ≤ i
    · rw [if_neg (by omega), if_pos q]
      exact (hW.2.2 j (by omega)).1
    · rw [if_pos (by omega), if_neg q]
      exact (hW.2.2 (j + 1) (by omega)).1
  · have hj2 : j < W.1 - 1 := hj
    rw [hm_w1n (by decide), c63, b63, b63, a63, a63]
    show _ = nI (if j < i then W.2.2.1 j else W.2.2.1 (j + 1))
    by_cases q : j < i
    · rw [if_neg (by omega), if_pos q]
      exact (hW.2.2 j (by omega)).2
    · rw [if_pos (by omega), if_neg q]
      exact (hW.2.2 (j + 1) (by omega)).2
theorem im_T105l (hn : n ≤ 1024) {p1 : Int32} : ∀ (k m : Nat) (t : hm_St) (W : im_W), k < m → k < W.1 ∨ k = 0 → im_WS t W → im_WV n W → im_OT s t → im_OT s (T_105_7 m t p1 (nI k)) ∧ im_WS (T_105_7 m t p1 (nI k)) (im_jt W k)
  | k, 0, _, _, h, _, _, _, _ => absurd h (Nat.not_lt_zero _)
  | 0, m + 1, t, W, _, _, hW, hV, ht => by
    rw [T_105_7, if_pos (show nI 0 ≤ 0 from Int32.le_refl _)]
    exact ⟨ht, hW⟩
  | k + 1, m + 1, t, W, h, hk, hW, hV, ht => by
    have h1 := hV.1
    have hk1 : k + 1 < W.1 := by omega
    rw [T_105_7, if_neg (show ¬ nI (k + 1) ≤ 0 from nI_ge (a := 0) (by omega) (by omega)), show nI (k + 1) + (-1) = nI k from pk_m1 _]
    obtain ⟨a, b⟩ := im_T108 hW hV hn (by omega) ht
    obtain ⟨c, d⟩ := im_jnV hV (by omega)
    exact im_T105l hn k m _ (im_jn W) (by omega) (by omega) b c a
theorem im_T105 (hW : im_WS t W) (h : im_WV n W) (hn : n ≤ 1024) (ht : im_OT s t) {most : Nat} (h1 : 1 ≤ most) (h2 : most ≤ 99) : im_OT s (T_105 t (nI most)) ∧ im_WS (T_105 t (nI most)) (im_jt W (W.1 - most)) := by
  have hS := h.1
  unfold T_105
  rw [hW.1]
  by_cases q : most ≤ W.1
  · rw [pk_sub q, show (0 : Int32) = nI 0 from rfl, im_df (by omega) (by omega)]
    exact im_T105l hn (W.1 - most) _ t W (by omega) (by omega) hW h ht
  · have e : nI W.1 - nI most ≤ 0 := by
      rw [Int32.le_iff_toInt_le, fb_subI, nI_toInt (by omega), nI_toInt (by omega)]
      · show _ ≤ (0 : Int)
        omega
      · rw [nI_toInt (by omega), nI_toInt (by omega)]
        omega
      · rw [nI_toInt (by omega), nI_toInt (by omega)]
        omega
    rw [T_105_7, if_pos e, show W.1 - most = 0 by omega]
    exact ⟨ht, hW⟩
end ImJ
