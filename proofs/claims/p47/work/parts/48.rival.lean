/-! The rival's leaves; the checksum. -/
section ImRv
variable {s t : hm_St} {o c cap P H V M N L bx : Nat} {g : Nat → hm_Sh}
def im_lf (s : hm_St) (bx o cap l : Nat) : Nat → Bool := fun k => decide (¬ T_78 s (nI l) (nI k) (nI cap) = 0) && decide (¬ T_67 s bx ((T_79 s (nI l) (nI k)) <<< (((nI o - nI l) ) &&& 31)) ((nI k >>> ((nI l) &&& 31)) <<< (((nI o - nI l) ) &&& 31)) (1 <<< (((nI o - nI l) ) &&& 31)) = 0)
theorem im_T81i (O : hm_St → Int32 → Int32 → Int32 → Int32) {l a : Nat} (hl : l < 6) : T_81_26 O bx (hm_df (T_72 s (nI l)) 0 + 1) s (nI cap) (nI a) (nI l) (nI o - nI l) 0 = O s (nI cap) (nI (a + fb_ct (im_lf s bx o cap l) (4 ^ l))) (nI (l + 1)) := by
  have pw := im_pw5 l hl
  rw [im_T72 hl, show hm_df (nI (4 ^ l)) 0 = 4 ^ l - 0 from im_df (a := 0) (by omega) (by omega)]
  refine loop_i (σ := Nat) (fun n k x => T_81_26 O bx n s (nI cap) (nI x) (nI l) (nI o - nI l) (nI k) = O s (nI cap) (nI (a + fb_ct (im_lf s bx o cap l) (4 ^ l))) (nI (l + 1))) (fun k x => x = a + fb_ct (im_lf s bx o cap l) k) (4 ^ l) ?_ ?_ (4 ^ l - 0 + 1) 0 a (Nat.zero_le _) (by omega) rfl
  · intro n x hx
    rw [T_81_26, im_T72 hl, if_pos (Int32.le_refl _), hx, nI_1]
  · intro n k x hk hx ih
    have sc := fb_ct_succ (im_lf s bx o cap l) k
    rw [T_81_26, im_T72 hl, if_neg (nI_ge hk (by omega)), nI_1 k]
    by_cases q1 : T_78 s (nI l) (nI k) (nI cap) = 0
    · rw [if_pos q1]
      refine ih x ?_
      rw [sc, if_neg, hx, Nat.add_zero]
      unfold im_lf
      rw [decide_eq_false (fun z => z q1), Bool.false_and]
      decide
    · rw [if_neg q1]
      by_cases q2 : T_67 s bx ((T_79 s (nI l) (nI k)) <<< (((nI o - nI l) ) &&& 31)) ((nI k >>> ((nI l) &&& 31)) <<< (((nI o - nI l) ) &&& 31)) (1 <<< (((nI o - nI l) ) &&& 31)) = 0
      · rw [if_pos q2]
        refine ih x ?_
        rw [sc, if_neg, hx, Nat.add_zero]
        unfold im_lf
        rw [decide_eq_true q1, decide_eq_false (fun z => z q2)]
        decide
      · rw [if_neg q2, nI_1 x]
        refine ih (x + 1) ?_
        rw [sc, if_pos, hx, Nat.add_assoc]
        unfold im_lf
        rw [decide_eq_true q1, decide_eq_true q2]
        rfl
theorem im_T81 (h47 : s 47 1 = nI o) (ho : o < 6) : T_81 s bx (nI cap) = nI (fb_sm (fun l => fb_ct (im_lf s bx o cap l) (4 ^ l)) (o + 1)) := by
  unfold T_81
  rw [h47, show hm_df1 (nI o) 0 = o + 1 - 0 from im_df1 (a := 0) (by omega) (by omega)]
  refine loop_i (σ := Nat) (fun n l x => T_81_5 bx n s (nI cap) (nI x) (nI l) = nI (fb_sm (fun l => fb_ct (im_lf s bx o cap l) (4 ^ l)) (o + 1))) (fun l x => x = fb_sm (fun l => fb_ct (im_lf s bx o cap l) (4 ^ l)) l) (o + 1) ?_ ?_ (o + 1 - 0 + 1) 0 0 (Nat.zero_le _) (by omega) rfl
  · intro n x hx
    rw [T_81_5, h47, if_pos (nI_lt (by omega) (by omega)), hx]
  · intro n l x hl hx ih
    rw [T_81_5, h47, if_neg (nI_nlt (by omega) (by omega)), im_T81i _ (by omega)]
    exact ih _ (by rw [fb_sm_succ, hx])
theorem im_T80 : ∀ l, l < 6 → T_80 s (nI l) (nI 0) = nI 0 := by
  unfold T_80 T_79
  decide
theorem im_0sh : ∀ o, o < 6 → ∀ l, l ≤ o → (nI 0 &&& (((1 : Int32) <<< ((nI l) &&& 31)) - 1)) <<< ((nI o - nI l) &&& 31) = 0 ∧ (nI 0 >>> ((nI l) &&& 31)) <<< ((nI o - nI l) &&& 31) = 0 ∧ (1 : Int32) <<< ((nI o - nI l) &&& 31) = nI (2 ^ (o - l)) ∧ 1 ≤ 2 ^ (o - l) ∧ 2 ^ (o - l) ≤ 32 := by decide
theorem im_lf0 {l : Nat} (h47 : s 47 1 = nI o) (ho : o < 6) (hl : l ≤ o) (e0 : s bx 0 = 0) (e1 : s bx 1 = 0) (e2 : s bx 2 = nI (2 ^ o)) (e3 : s bx 3 = nI (2 ^ o)) (h : ¬ T_78 s (nI l) (nI 0) (nI cap) = 0) : im_lf s bx o cap l 0 = true := by
  have pw := im_pw5 o ho
  obtain ⟨a1, a2, a3, a4, a5⟩ := im_0sh o ho l hl
  unfold im_lf
  rw [decide_eq_true h, Bool.true_and]
  refine decide_eq_true ?_
  unfold T_79
  rw [a1, a2, a3]
  unfold T_67
  have f1 : ¬ (0 : Int32) + nI (2 ^ o) ≤ 0 := by
    rw [Int32.zero_add]
    exact nI_ge (a := 0) (by omega) (by omega)
  have f2 : ¬ (0 : Int32) + nI (2 ^ (o - l)) ≤ 0 := by
    rw [Int32.zero_add]
    exact nI_ge (a := 0) (by omega) (by omega)
  rw [e0, e1, e2, e3, if_neg f1, if_neg f2, if_neg f1, if_neg f2]
  decide
theorem im_leaf (h : im_TI s o c cap P H V M) (ho : o < 6) : ∃ l, l ≤ o ∧ ¬ T_78 s (nI l) (nI 0) (nI cap) = 0 := by
  obtain ⟨Z, fl, hF, hC⟩ := h.1.2.2.1
  have h47 := h.1.2.2.2.2.2.2.2.1.1
  have cb := hC.2.2.1
  have cnt : ∀ l, l ≤ o → T_75 s (nI l) (nI 0) = nI (fb_ct (im_in s o l 0 (im_al s)) 80) := by
    intro l hl
    have pw := im_p4l l (by omega)
    rw [im_T75 (by omega) (by omega), h.1.2.2.2.2.2.2.2.1.2 l 0 hl (by omega)]
  have cb8 : ∀ l, fb_ct (im_in s o l 0 (im_al s)) 80 ≤ 80 := fun l => fb_ct_le _ _
  obtain ⟨l, l1, l2, l3⟩ := fb_first (p := fun l => fb_ct (im_in s o l 0 (im_al s)) 80 ≤ cap ∨ l = o) (n := o + 1) ⟨o, by omega, Or.inr rfl⟩
  refine ⟨l, by omega, ?_⟩
  have b1 := cb8 l
  have fin : ¬ (if nI l = nI o then (1 : Int32) else (if nI cap < T_75 s (nI l) (nI 0) then 0 else 1)) = 0 := by
    by_cases q : l = o
    · rw [if_pos (congrArg nI q)]
      decide
    · rw [if_neg (fun z => q ((nI_eq (by omega) (by omega)).mp z)), cnt l (by omega), if_neg (nI_nlt (l2.resolve_right q) (by omega))]
      decide
  unfold T_78
  rw [h47]
  by_cases q0 : l = 0
  · rw [if_pos (show nI l = 0 by rw [q0]; rfl)]
    exact fin
  · have b2 := cb8 (l - 1)
    have b3 := l3 (l - 1) (by omega)
    rw [if_neg (nI_ne0 (by omega) (by omega)), show nI l - 1 = nI (l - 1) from pk_sub (b := 1) (by omega), im_T80 l (by omega), cnt (l - 1) (by omega), if_neg (show ¬ (if nI (fb_ct (im_in s o (l - 1) 0 (im_al s)) 80) ≤ nI cap then (0 : Int32) else 1) = 0 by
      rw [if_neg (nI_ge (by omega) (by omega))]
      decide)]
    exact fin
theorem im_rivalL (h : im_TI s o c cap P H V M) (ho : o < 6) (e0 : s bx 0 = 0) (e1 : s bx 1 = 0) (e2 : s bx 2 = nI (2 ^ o)) (e3 : s bx 3 = nI (2 ^ o)) : ∃ r, 1 ≤ r ∧ r ≤ 6144 ∧ T_81 s bx (nI cap) = nI r := by
  have h47 := h.1.2.2.2.2.2.2.2.1.1
  obtain ⟨l, l1, l2⟩ := im_leaf h ho
  have a := im_lf0 (cap := cap) h47 ho l1 e0 e1 e2 e3 l2
  refine ⟨_, ?_, ?_, im_T81 h47 ho⟩
  · have b := fb_sm_part (fun l => fb_ct (im_lf s bx o cap l) (4 ^ l)) (show l < o + 1 by omega)
    have d : 0 < fb_ct (im_lf s bx o cap l) (4 ^ l) := fb_ct_pos.mpr ⟨0, (im_p4l l (by omega)).1, a⟩
    omega
  · have b := fb_sm_bound (f := fun l => fb_ct (im_lf s bx o cap l) (4 ^ l)) (c := 1024) (n := o + 1) (fun k hk => by
      have := (im_p4l k (by omega)).2
      have := fb_ct_le (im_lf s bx o cap k) (4 ^ k)
      omega)
    omega
theorem im_50 (h : im_TI s o c cap P H V M) (hN : 68 ≤ N) : T_50 N s = T_65 (hm_sn s N) N 0 0 (nI (2 ^ o)) (nI (2 ^ o)) := by
  unfold T_50 T_86
  rw [hm_snn (by omega), show s 3 6 = nI (2 ^ o) from h.1.1.2.1]
theorem im_134 (h : im_TI s o c cap P H V M) : T_134 s = nI cap := by
  obtain ⟨Z, fl, hF, hC⟩ := h.1.2.2.1
  exact hC.1
/-- what the rival answers over the whole plane -/
def im_rv (s : hm_St) (N o cap : Nat) : Int32 := T_81 (T_65 (hm_sn s N) N 0 0 (nI (2 ^ o)) (nI (2 ^ o))) N (nI cap)
theorem im_bxa {x y w q : Int32} : ∀ j, T_65 (hm_sn s N) N x y w q N j = if j = 3 then q else if j = 2 then w else if j = 1 then y else if j = 0 then x else 0 := by
  intro j
  unfold T_65
  rw [im_wif, im_wif, im_wif, im_wif]
  have e : hm_sn s N N j = 0 := by
    unfold hm_sn
    rw [if_pos rfl]
  rw [e]
theorem im_rvc {K : Nat} (hS : im_SM s t L) (hN : 68 ≤ N) (hK : 68 ≤ K) : im_rv t K o cap = im_rv s N o cap := by
  unfold im_rv
  refine F_81 (fun b hb => funext fun j => ?_) (fun j => ?_)
  · have := Nat.blt_eq.mp hb
    rw [im_bxc hK _ _ (by omega), im_bxc hN _ _ (by omega)]
    exact hS.1 b j (Or.inl this)
  · rw [im_bxa, im_bxa]
theorem im_rv1 (h : im_TI s o c cap P H V M) (ho : o < 6) (hN : 68 ≤ N) : ∃ r, 1 ≤ r ∧ r ≤ 6144 ∧ im_rv s N o cap = nI r := by
  obtain ⟨e0, e1, e2, e3⟩ := im_bxv (s := s) (N := N) (x := 0) (y := 0) (w := nI (2 ^ o)) (q := nI (2 ^ o))
  exact im_rivalL (im_SMTI (im_SMb (s := s) (L := 0) hN (x := 0) (y := 0) (w := nI (2 ^ o)) (q := nI (2 ^ o))) h) ho e0 e1 e2 e3
theorem im_T27 (h : im_TI s o c cap P H V M) (hN : 68 ≤ N) : T_27 N g s 0 = (0, im_rv s N o cap, N + 1, hm_gb g N, T_50 N s) := by
  have e : T_58 N g s 0 = (im_rv s N o cap, N + 1, hm_gb g N, T_50 N s) := by
    unfold T_58 im_rv
    rw [if_pos rfl, im_134 h, im_50 h hN]
  unfold T_27
  rw [show T_34 s 0 0 2 = 1 from im_btw (by decide) (by decide), if_neg (by decide), e]
theorem im_T28 (h : im_TI s o c cap P H V M) (ho : o < 6) (hN : 68 ≤ N) : T_28 N g s 0 0 (nI (2 ^ o)) (nI (2 ^ o)) = (0, im_rv s N o cap, N + 1, hm_gb g N, T_50 N s) := by
  have pw := im_pw5 o ho
  have hT := im_SMTI (im_SMb (s := s) (L := 0) hN (x := 0) (y := 0) (w := nI (2 ^ o)) (q := nI (2 ^ o))) h
  unfold T_28
  rw [show T_38 s 0 0 (nI (2 ^ o)) (nI (2 ^ o)) = 1 from im_T38 (x := 0) (y := 0) h.1.1 ho (by omega) (by omega) pw.2.2.2 (by omega) pw.2.2.2 (by omega), if_neg (by decide), im_134 hT, im_50 h hN]
  rfl
theorem im_50SM (h : im_TI s o c cap P H V M) (hN : 68 ≤ N) : im_SM s (T_50 N s) L := by
  rw [im_50 h hN]
  exact im_SMb hN
end ImRv
