/-! The curves are reckoned. -/
theorem im_178c {s t : hm_St} {aa bb nn : Nat} {p : Int32} (hn : nn < 2 ^ 31) (h : ∀ j, j < nn → t aa j = s bb j) : T_178 t aa nn p = T_178 s bb nn p := by
  unfold T_178
  by_cases q : p < 0
  · rw [if_pos q, if_pos q]
  · rw [if_neg q, if_neg q]
    obtain ⟨j, hj, e⟩ := nI_of q
    rw [e]
    by_cases z : nn ≤ j
    · rw [if_pos (show Int32.ofNat nn ≤ nI j from nI_le z hj), if_pos (show Int32.ofNat nn ≤ nI j from nI_le z hj)]
    · rw [if_neg (show ¬ Int32.ofNat nn ≤ nI j from nI_ge (by omega) hn), if_neg (show ¬ Int32.ofNat nn ≤ nI j from nI_ge (by omega) hn), nI_clamp hj]
      exact h j (by omega)
def im_DS (s : hm_St) : Prop := ∀ j, j < 16 → s 5 j = im_r5 j ∧ s 7 j = im_r7 j
section ImRe
variable {s t : hm_St} {o c : Nat}
theorem im_96lc (h : im_DS s) : ∀ (n : Nat) (v0 v1 v2 v3 v4 v5 v6 : Int32), T_96_17 n s v0 v1 v2 v3 v4 v5 v6 = T_96_17 n (im_ks o) v0 v1 v2 v3 v4 v5 v6 := by
  have h5 : ∀ p, T_178 s 5 16 p = T_178 (im_ks o) 5 16 p := fun p => im_178c (by decide) fun j hj => (h j hj).1
  have h7 : ∀ p, T_178 s 7 16 p = T_178 (im_ks o) 7 16 p := fun p => im_178c (by decide) fun j hj => (h j hj).2
  intro n
  induction n with
  | zero => intros; rfl
  | succ n ih =>
    intros
    unfold T_96_17
    simp only [ih, h5, h7]
theorem im_95c (h : im_DS s) (h6 : s 3 6 = nI (2 ^ o)) (p1 p2 p3 : Int32) : T_95 s p1 p2 p3 = T_95 (im_ks o) p1 p2 p3 := by
  have e : im_ks o 3 6 = nI (2 ^ o) := rfl
  unfold T_95 T_96
  rw [h6, e, im_96lc (o := o) h]
def im_PT (s t : hm_St) (o c i : Nat) : Prop := (∀ b j, b ≠ 9 → b ≠ 11 → b ≠ 13 → t b j = s b j) ∧ (∀ j, j < i → t 9 (c * 1024 + j) = nI (im_Kf o c j) ∧ t 11 (c * 1024 + im_Kf o c j) = nI j) ∧ ∀ j, j < c * 1024 ∨ c * 1024 + 1024 ≤ j → t 9 j = s 9 j ∧ t 11 j = s 11 j
theorem im_94i (hD : im_DS s) (h6 : s 3 6 = nI (2 ^ o)) (h1 : 1 ≤ o) (h4 : o ≤ 4) (hc : c < 6) (O : hm_St → Int32 → Int32 → Int32 → hm_St) (Φ : hm_St → Prop) {y : Nat} (hy : y < 2 ^ o) (ht : im_PT s t o c (y * 2 ^ o))
    (hO : ∀ t, im_PT s t o c ((y + 1) * 2 ^ o) → Φ (O t (nI c) (nI (c * 1024)) (nI (y + 1)))) : Φ (T_94_19 O (hm_df (t 3 6) 0 + 1) t (nI c) (nI (c * 1024)) (nI y) 0) := by
  have pw := im_pw5 o (by omega)
  have e36 : ∀ t i, im_PT s t o c i → t 3 6 = nI (2 ^ o) := fun t i h => (h.1 3 6 (by decide) (by decide) (by decide)).trans h6
  rw [e36 t _ ht, show hm_df (nI (2 ^ o)) 0 = 2 ^ o - 0 from im_df (a := 0) (by omega) (by omega)]
  refine loop_i (σ := hm_St) (fun n x t => Φ (T_94_19 O n t (nI c) (nI (c * 1024)) (nI y) (nI x))) (fun x t => im_PT s t o c (y * 2 ^ o + x)) (2 ^ o) ?_ ?_ (2 ^ o - 0 + 1) 0 t (Nat.zero_le _) (by omega) ht
  · intro n t ht
    rw [T_94_19, e36 t _ ht, if_pos (Int32.le_refl _), nI_1]
    refine hO t ?_
    rw [Nat.succ_mul]
    exact ht
  · intro n x t hx ht ih
    have hi := im_lt (o := o) (by omega) hx hy
    have xy := im_xy (o := o) (y := y) hx
    have K := im_kt h1 h4 hc hi
    rw [xy.1, xy.2] at K
    have hDt : im_DS t := fun j hj => ⟨(ht.1 5 j (by decide) (by decide) (by decide)).trans (hD j hj).1, (ht.1 7 j (by decide) (by decide) (by decide)).trans (hD j hj).2⟩
    have e95 : T_95 t (nI c) (nI x) (nI y) = nI (im_Kf o c (y * 2 ^ o + x)) := (im_95c hDt (e36 t _ ht) _ _ _).trans K.1
    rw [T_94_19, e36 t _ ht, if_neg (nI_ge hx (by omega)), e95, pk_mul, nI_add, nI_add, nI_add, nI_1, im_set (show c * 1024 + y * 2 ^ o + x < 6144 by omega), im_set (show c * 1024 + im_Kf o c (y * 2 ^ o + x) < 6144 by omega), hm_w1n (by decide), e36 t _ ht, pk_mul, nI_add]
    refine ih _ ⟨fun b j b1 b2 b3 => ?_, fun j hj => ⟨?_, ?_⟩, fun j hj => ⟨?_, ?_⟩⟩
    · rw [hm_w1n b2, hm_w1n b1]
      exact ht.1 b j b1 b2 b3
    · rw [hm_w1n (by decide), im_wif]
      by_cases q : j = y * 2 ^ o + x
      · rw [if_pos (by omega), q]
      · rw [if_neg (by omega)]
        exact (ht.2.1 j (by omega)).1
    · rw [im_wif]
      by_cases q : j = y * 2 ^ o + x
      · rw [if_pos (by rw [q]), q]
      · have Kj := im_kt h1 h4 hc (show j < 4 ^ o by omega)
        rw [if_neg (fun z => q (by
          have z2 : im_Kf o c j = im_Kf o c (y * 2 ^ o + x) := by omega
          rw [← Kj.2.2.1, z2, K.2.2.1])), hm_w1n (by decide)]
        exact (ht.2.1 j (by omega)).2
    · rw [hm_w1n (by decide), im_wj (by omega)]
      exact (ht.2.2 j hj).1
    · rw [im_wj (by omega), hm_w1n (by decide)]
      exact (ht.2.2 j hj).2
theorem im_T94 (hD : im_DS s) (h6 : s 3 6 = nI (2 ^ o)) (h1 : 1 ≤ o) (h4 : o ≤ 4) (hc : c < 6) : im_PT s (T_94 s (nI c)) o c (4 ^ o) := by
  have pw := im_pw5 o (by omega)
  have e36 : ∀ t i, im_PT s t o c i → t 3 6 = nI (2 ^ o) := fun t i h => (h.1 3 6 (by decide) (by decide) (by decide)).trans h6
  unfold T_94
  rw [h6, show hm_df (nI (2 ^ o)) 0 = 2 ^ o - 0 from im_df (a := 0) (by omega) (by omega), show nI c * 1024 = nI (c * 1024) from pk_mul c 1024]
  refine loop_i (σ := hm_St) (fun n y t => im_PT s (T_94_8 n t (nI c) (nI (c * 1024)) (nI y)) o c (4 ^ o)) (fun y t => im_PT s t o c (y * 2 ^ o)) (2 ^ o) ?_ ?_ (2 ^ o - 0 + 1) 0 s (Nat.zero_le _) (by omega) ⟨fun _ _ _ _ _ => rfl, fun j hj => absurd hj (by omega), fun _ _ => ⟨rfl, rfl⟩⟩
  · intro n t ht
    rw [T_94_8, e36 t _ ht, if_pos (Int32.le_refl _)]
    rw [pw.2.2.1] at ht
    refine ⟨fun b j b1 b2 b3 => ?_, fun j hj => ⟨?_, ?_⟩, fun j hj => ⟨?_, ?_⟩⟩
    · rw [N_179 b3, N_99 b3, N_179 b3]
      exact ht.1 b j b1 b2 b3
    · rw [N_179 (by decide), N_99 (by decide), N_179 (by decide)]
      exact (ht.2.1 j hj).1
    · rw [N_179 (by decide), N_99 (by decide), N_179 (by decide)]
      exact (ht.2.1 j hj).2
    · rw [N_179 (by decide), N_99 (by decide), N_179 (by decide)]
      exact (ht.2.2 j hj).1
    · rw [N_179 (by decide), N_99 (by decide), N_179 (by decide)]
      exact (ht.2.2 j hj).2
  · intro n y t hy ht ih
    have e := e36 t _ ht
    rw [T_94_8, if_neg (by rw [e]; exact nI_ge hy (by omega))]
    exact im_94i hD h6 h1 h4 hc _ (fun r => im_PT s r o c (4 ^ o)) hy ht fun r hr => ih r hr
def im_CT (t : hm_St) (o c : Nat) : Prop := ∀ j, j < 4 ^ o → t 9 (c * 1024 + j) = nI (im_Kf o c j) ∧ t 11 (c * 1024 + im_Kf o c j) = nI j
theorem im_92l (hD : im_DS s) (h6 : s 3 6 = nI (2 ^ o)) (h1 : 1 ≤ o) (h4 : o ≤ 4) {v : Int32} : (∀ b j, b ≠ 9 → b ≠ 11 → b ≠ 13 → T_92_23 (hm_df 6 0 + 1) s v 0 b j = s b j) ∧ ∀ c, c < 6 → im_CT (T_92_23 (hm_df 6 0 + 1) s v 0) o c := by
  have pw := im_pw5 o (by omega)
  refine loop_i (σ := hm_St) (fun n k t => (∀ b j, b ≠ 9 → b ≠ 11 → b ≠ 13 → T_92_23 n t v (nI k) b j = s b j) ∧ ∀ c, c < 6 → im_CT (T_92_23 n t v (nI k)) o c) (fun k t => (∀ b j, b ≠ 9 → b ≠ 11 → b ≠ 13 → t b j = s b j) ∧ ∀ c, c < k → im_CT t o c) 6 ?_ ?_ (hm_df 6 0 + 1) 0 s (Nat.zero_le _) (by decide) ⟨fun _ _ _ _ _ => rfl, fun c hc => absurd hc (Nat.not_lt_zero _)⟩
  · rintro n t ⟨ht, hc⟩
    rw [T_92_23, if_pos (show (6 : Int32) ≤ nI 6 from Int32.le_refl _)]
    exact ⟨ht, hc⟩
  · rintro n k t hk ⟨ht, hc⟩ ih
    have hDt : im_DS t := fun j hj => ⟨(ht 5 j (by decide) (by decide) (by decide)).trans (hD j hj).1, (ht 7 j (by decide) (by decide) (by decide)).trans (hD j hj).2⟩
    obtain ⟨p1, p2, p3⟩ := im_T94 (c := k) hDt ((ht 3 6 (by decide) (by decide) (by decide)).trans h6) h1 h4 hk
    rw [T_92_23, if_neg (show ¬ (6 : Int32) ≤ nI k from nI_ge (b := 6) hk (by decide)), nI_1]
    refine ih _ ⟨fun b j b1 b2 b3 => (p1 b j b1 b2 b3).trans (ht b j b1 b2 b3), fun q hq => ?_⟩
    by_cases e : q = k
    · rw [e]
      exact p2
    · intro j hj
      have K := im_kt h1 h4 (show q < 6 by omega) hj
      rw [(p3 _ (by omega)).1, (p3 _ (by omega)).2]
      exact hc q (by omega) j hj
theorem im_CVof (h5 : s 3 5 = nI o) (h6 : s 3 6 = nI (2 ^ o)) (h1 : 1 ≤ o) (h4 : o ≤ 4) (h : ∀ c, c < 6 → im_CT s o c) : im_CV s o := by
  have pw := im_pw5 o (by omega)
  refine ⟨h5, h6, fun c x y hc hx hy => ?_, fun c k hc hk => ?_⟩
  · have hi := im_lt (o := o) (by omega) hx hy
    have K := im_kt h1 h4 hc hi
    have a := h c hc _ hi
    refine ⟨_, K.2.1, ?_, a.2⟩
    rw [Nat.add_assoc]
    exact a.1
  · have K := im_kt h1 h4 hc hk
    have a := h c hc _ K.2.2.2.1
    rw [K.2.2.2.2] at a
    have e : im_Gf o c k / 2 ^ o * 2 ^ o + im_Gf o c k % 2 ^ o = im_Gf o c k := Nat.div_add_mod' _ _
    refine ⟨im_Gf o c k % 2 ^ o, im_Gf o c k / 2 ^ o, Nat.mod_lt _ (by omega), ?_, ?_, ?_⟩
    · rw [Nat.div_lt_iff_lt_mul (by omega), pw.2.2.1]
      exact K.2.2.2.1
    · rw [e]
      exact a.2
    · rw [Nat.add_assoc, e]
      exact a.1
theorem im_shl1 : ∀ o, o < 6 → (1 : Int32) <<< ((nI o) &&& 31) = nI (2 ^ o) := by decide
theorem im_T92 (hD : im_DS s) (h1 : 1 ≤ o) (h4 : o ≤ 4) (h : s 3 5 = nI o → im_CV s o) : im_CV (T_92 s (nI o)) o := by
  unfold T_92
  by_cases q : nI o = s 3 5
  · rw [if_pos q]
    exact h q.symm
  · rw [if_neg q, im_shl1 o (by omega)]
    have hD2 : im_DS (hm_w1 (hm_w1 s 3 5 (nI o)) 3 6 (nI (2 ^ o))) := fun j hj => by
      rw [hm_w1n (by decide), hm_w1n (by decide), hm_w1n (by decide), hm_w1n (by decide)]
      exact hD j hj
    obtain ⟨a, b⟩ := im_92l (v := nI o) hD2 (im_ws) h1 h4
    refine im_CVof ?_ ?_ h1 h4 b
    · rw [a 3 5 (by decide) (by decide) (by decide), im_wj (by decide), im_ws]
    · rw [a 3 6 (by decide) (by decide) (by decide), im_ws]
end ImRe
