/-! Counts: loads of machines, cells by level, soundness. -/
theorem im_one (a v : Nat) : ∀ n, fb_sm (fun q => if a = q then v else 0) n = if a < n then v else 0
  | 0 => by rw [if_neg (Nat.not_lt_zero a)]; rfl
  | n + 1 => by
    rw [fb_sm_succ, im_one a v n]
    by_cases q : a = n
    · rw [if_pos q, if_neg (show ¬ a < n by omega), if_pos (show a < n + 1 by omega), Nat.zero_add]
    · rw [if_neg q]
      by_cases r : a < n
      · rw [if_pos r, if_pos (show a < n + 1 by omega), Nat.add_zero]
      · rw [if_neg r, if_neg (show ¬ a < n + 1 by omega)]
theorem im_dsm (f g : Nat → Nat) (M : Nat) : ∀ {Z : Nat}, (∀ i, i < Z → f i < M) → fb_sm (fun m => fb_sm (fun i => if f i = m then g i else 0) Z) M = fb_sm g Z
  | 0, _ => fb_sm_const 0 M
  | Z + 1, h => by
    have e : fb_sm (fun m => fb_sm (fun i => if f i = m then g i else 0) (Z + 1)) M = fb_sm (fun m => fb_sm (fun i => if f i = m then g i else 0) Z + (if f Z = m then g Z else 0)) M := rfl
    rw [e, fb_sm_add, im_dsm f g M (fun i hi => h i (by omega)), im_one, if_pos (h Z (by omega)), fb_sm_succ]
theorem im_dct (p : Nat → Bool) (f : Nat → Nat) (n : Nat) : ∀ {m : Nat}, (∀ k, k < m → p k = true → f k < n) → fb_sm (fun q => fb_ct (fun k => p k && decide (f k = q)) m) n = fb_ct p m
  | 0, _ => fb_sm_const 0 n
  | m + 1, h => by
    have e : fb_sm (fun q => fb_ct (fun k => p k && decide (f k = q)) (m + 1)) n = fb_sm (fun q => fb_ct (fun k => p k && decide (f k = q)) m + (if (p m && decide (f m = q)) = true then 1 else 0)) n := rfl
    have e2 : fb_sm (fun q => if (p m && decide (f m = q)) = true then 1 else 0) n = if p m = true then 1 else 0 := by
      cases r : p m with
      | false =>
        rw [show (fun q : Nat => if (false && decide (f m = q)) = true then (1 : Nat) else 0) = fun _ => 0 from funext fun q => by simp, fb_sm_const, if_neg (by decide)]
        exact Nat.mul_zero n
      | true =>
        rw [show (fun q : Nat => if (true && decide (f m = q)) = true then (1 : Nat) else 0) = fun q => if f m = q then 1 else 0 from funext fun q => by simp, im_one, if_pos (h m (by omega) r), if_pos rfl]
    rw [e, fb_sm_add, im_dct p f n (fun k hk => h k (by omega)), e2, fb_ct_succ]
theorem im_tel (F : Nat → Nat) : ∀ {Z : Nat}, (∀ i, i < Z → F i ≤ F (i + 1)) → fb_sm (fun i => F (i + 1) - F i) Z + F 0 = F Z
  | 0, _ => Nat.zero_add _
  | Z + 1, h => by
    have a := im_tel F (Z := Z) fun i hi => h i (by omega)
    have b := h Z (by omega)
    rw [fb_sm_succ]
    omega
theorem im_cs (p : Nat → Bool) : ∀ n, fb_ct p n = fb_sm (fun k => if p k = true then 1 else 0) n
  | 0 => rfl
  | n + 1 => by rw [fb_ct_succ, fb_sm_succ, im_cs p n]
theorem im_ct1 {p n : Nat} (h : p < n) : fb_ct (fun q => decide (q = p)) n = 1 := by
  have a := im_ctT0 (p := fun _ => false) h rfl
  have b : fb_ct (fun _ => false) n = 0 := fb_ct_zero.mpr fun _ _ => rfl
  rw [b] at a
  refine (fb_ct_cong fun k _ => ?_).trans a
  by_cases q : k = p
  · rw [if_pos q]
    exact decide_eq_true q
  · rw [if_neg q]
    exact decide_eq_false q
def im_Hd (s : hm_St) : Nat → Bool := fun k => decide (s 44 k ≠ -1) && decide (s 44 k ≠ -2)
theorem im_Ehd (s : hm_St) (n : Nat) : fb_ct (im_E s) n = fb_ct (im_Hd s) n + fb_ct (im_TB s) n := by
  rw [← fb_ct_or (p := im_Hd s) (q := im_TB s) (n := n) ?_]
  · refine fb_ct_cong fun k _ => ?_
    unfold im_E im_Hd im_TB
    by_cases q : s 44 k = -2
    · rw [q]
      decide
    · simp [q]
  · intro k _ hh
    simp only [im_Hd, im_TB, Bool.and_eq_true, decide_eq_true_eq] at hh
    exact hh.1.2 hh.2
section ImN
variable {s : hm_St} {o c cap P H V M N n Z : Nat} {g : Nat → hm_Sh} {fl : Nat → Nat} {live : Nat → Bool}
def im_ld (s : hm_St) (fl : Nat → Nat) : Nat → Nat := fun i => fb_ct (im_Hd s) (fl (i + 1)) - fb_ct (im_Hd s) (fl i)
theorem im_load (h : im_PF s n Z fl) {i : Nat} (hi : i < Z) : T_141 s (nI i) - T_142 s (nI i) = nI (im_ld s fl i) := by
  have m := im_flm h (i := i) (j := i + 1) (by omega) hi
  have a := im_Ehd s (fl (i + 1))
  have b := im_Ehd s (fl i)
  have c1 := fb_ct_mono (im_Hd s) (show fl i ≤ fl (i + 1) by omega)
  have c2 := fb_ct_mono (im_TB s) (show fl i ≤ fl (i + 1) by omega)
  rw [im_T141 h hi, im_T142 h hi, pk_sub (by omega)]
  unfold im_ld
  exact congrArg nI (by omega)
theorem im_T147 (h : im_PF s n Z fl) {m : Nat} (hm : m < 4) (hM : M ≤ 4) : T_147 s (nI m) (nI M) = nI (fb_sm (fun i => if i * M / Z = m then im_ld s fl i else 0) Z) := by
  have hZ := im_Zn h
  have hn := h.2.2.1
  have h4 := h.2.1
  have h1 := h.2.2.2.1
  unfold T_147
  rw [h4, show (0 : Int32) = nI 0 from rfl, im_df (by omega) (by omega)]
  refine im_sml (fun n c j => T_147_5 n s (nI m) (nI M) c j) (fun i => if i * M / Z = m then im_ld s fl i else 0) (e := Z) ?_ ?_ (by omega)
  · intro n c
    show T_147_5 (n + 1) s (nI m) (nI M) c (nI Z) = c
    rw [T_147_5, h4, if_pos (Int32.le_refl _)]
  · intro n c j hj
    have hb : j * M ≤ 1024 * 4 := Nat.mul_le_mul (by omega) hM
    have hq : j * M / Z < 2 ^ 31 := Nat.lt_of_le_of_lt (Nat.div_le_self _ _) (by omega)
    have e : T_146 s (nI j) (nI M) = nI (j * M / Z) := by
      unfold T_146
      rw [h4, if_pos (show 1 ≤ nI Z from nI_le (a := 1) h1 (by omega)), pk_mul, pk_div (by omega) (by omega) (by omega)]
    show T_147_5 (n + 1) s (nI m) (nI M) c (nI j) = T_147_5 n s (nI m) (nI M) (c + nI (if j * M / Z = m then im_ld s fl j else 0)) (nI (j + 1))
    rw [T_147_5, h4, if_neg (nI_ge hj (by omega)), e, im_load h hj, nI_1]
    by_cases q : j * M / Z = m
    · rw [if_pos (congrArg nI q), if_pos q]
    · rw [if_neg (fun z => q ((nI_eq hq (by omega)).mp z)), if_neg q, nI_0, Int32.add_zero]
theorem im_Hl (h : im_IV s o c cap P H V live) (ho : o < 6) (hc : c < 6) : fb_ct (im_Hd s) (4 ^ o) = fb_ct live 80 := by
  have pl := h.2.2.2.2.2.2.2.2
  have xy := h.2.2.2.2.2.1
  rw [← im_dct live (fun p => im_K s o c (im_X s p) (im_Y s p)) (4 ^ o) (m := 80) (fun p hp hl => (im_Kat h.1 ho hc (xy p hp hl).2.2.1 (xy p hp hl).2.2.2.2).2.1), im_cs]
  refine fb_sm_cong fun k hk => ?_
  have no : ∀ v : Int32, s 44 k = v → (v = -1 ∨ v = -2) → fb_ct (fun p => live p && decide (im_K s o c (im_X s p) (im_Y s p) = k)) 80 = 0 := by
    intro v hv hv2
    refine fb_ct_zero.mpr fun p hp => ?_
    cases q : live p with
    | false => rfl
    | true =>
      rw [Bool.true_and]
      refine decide_eq_false fun e => ?_
      have a := pl.2 p hp q
      rw [e, hv] at a
      have b := im_nm1 hp
      rcases hv2 with z | z
      · exact b.1 (a.symm.trans z)
      · exact b.2 (a.symm.trans z)
  rcases pl.1 k hk with z | z | ⟨p, z1, z2, z3, z4⟩
  · rw [no _ z (Or.inl rfl), if_neg (by unfold im_Hd; rw [z]; decide)]
  · rw [no _ z (Or.inr rfl), if_neg (by unfold im_Hd; rw [z]; decide)]
  · have b := im_nm1 z1
    rw [if_pos (by unfold im_Hd; rw [z3, decide_eq_true b.1, decide_eq_true b.2]; rfl), ← im_ct1 z1]
    refine (fb_ct_cong fun q hq => ?_).symm
    by_cases e : q = p
    · rw [decide_eq_true e, e, z2, Bool.true_and]
      exact decide_eq_true z4
    · rw [decide_eq_false e]
      cases r : live q with
      | false => rfl
      | true =>
        rw [Bool.true_and]
        refine decide_eq_false fun e2 => e ?_
        have a := pl.2 q hq r
        rw [e2, z3] at a
        exact ((nI_eq (by omega) (by omega)).mp a).symm
theorem im_loads (h : im_TI s o c cap P H V M) (ho : o < 6) (hc : c < 6) : ∃ w : Nat → Nat, (∀ m, m < M → T_22 N g s (nI m) 0 = (0, nI (w m), N, g, s)) ∧ fb_sm w M = fb_ct (im_al s) 80 := by
  obtain ⟨Z, fl, hF, hC⟩ := h.1.2.2.1
  have hM := h.2.2.2.2
  have hM1 := h.2.2.2.1
  have hZ := hF.2.2.2.1
  refine ⟨fun m => fb_sm (fun i => if i * M / Z = m then im_ld s fl i else 0) Z, ?_, ?_⟩
  · intro m hm
    unfold T_22 T_57
    rw [h.2.2.1, show nI M - 1 = nI (M - 1) from pk_sub (b := 1) hM1, show T_34 s (nI m) 0 (nI (M - 1)) = 1 from im_btwN (lo := 0) (Nat.zero_le _) (by omega) (by omega), if_neg (by decide), show T_34 s 0 0 2 = 1 from im_btw (by decide) (by decide), if_neg (by decide), if_pos rfl, im_T147 hF (by omega) hM]
  · have a := im_dsm (fun i => i * M / Z) (im_ld s fl) M (Z := Z) (fun i hi => by
      rw [Nat.div_lt_iff_lt_mul (by omega), Nat.mul_comm]
      exact Nat.mul_lt_mul_of_pos_left hi (by omega))
    rw [a]
    have b := im_tel (fun i => fb_ct (im_Hd s) (fl i)) (Z := Z) (fun i hi => fb_ct_mono _ (Nat.le_of_lt (hF.2.2.2.2.2.2.1 i hi)))
    rw [← im_Hl h.1 ho hc, ← hF.2.2.2.2.2.1, ← b, hF.2.2.2.2.1]
    rfl
theorem im_dens {l : Nat} (h : im_IV s o c cap P H V live) (hl : l ≤ o) : fb_sm (fun q => fb_ct (im_in s o l q live) 80) (4 ^ l) = fb_ct live 80 := by
  have xy := h.2.2.2.2.2.1
  exact im_dct live (fun p => im_ca o l (im_X s p) (im_Y s p)) (4 ^ l) (m := 80) (fun p hp q => im_cal hl (xy p hp q).2.2.1 (xy p hp q).2.2.2.2)
theorem im_T59 (h : im_TI s o c cap P H V M) (ho : o < 6) (hc : c < 6) : T_59 s = 1 := by
  have pw := im_pw5 o ho
  have xy := h.1.2.2.2.2.2.1
  unfold T_59
  rw [im_T87 h.1.1 ho, show (0 : Int32) = nI 0 from rfl, im_df (by omega) (by omega)]
  refine loop_i (σ := Nat) (fun n j c2 => T_59_4 n s (nI c2) (nI j) = 1) (fun j c2 => c2 = fb_ct (im_Hd s) j) (4 ^ o) ?_ ?_ (4 ^ o - 0 + 1) 0 0 (Nat.zero_le _) (by omega) rfl
  · intro n c2 h2
    show T_59_4 (n + 1) s (nI c2) (nI (4 ^ o)) = 1
    rw [T_59_4, im_T87 h.1.1 ho, if_pos (Int32.le_refl _), if_pos]
    unfold T_158
    rw [h.2.1, h2, im_Hl h.1 ho hc]
  · intro n j c2 hj h2 ih
    show T_59_4 (n + 1) s (nI c2) (nI j) = 1
    rw [T_59_4, im_T87 h.1.1 ho, if_neg (nI_ge hj (by omega)), nI_1]
    rcases im_T140 h.1 ho hj with ⟨e, z⟩ | ⟨p, z1, z2, e, z3, z4⟩
    · rw [e, if_pos rfl, if_pos rfl, Int32.add_zero]
      refine ih c2 ?_
      rw [fb_ct_succ, h2, if_neg, Nat.add_zero]
      rcases z with z | z
      · unfold im_Hd; rw [z]; decide
      · unfold im_Hd; rw [z]; decide
    · have b := im_nm1 z1
      have k := im_T161 xy z1 z2
      have x := xy p z1 z2
      have e40 : T_40 s (nI p) = nI j := by
        unfold T_40
        rw [k.1, k.2, im_T39 h.1.1 h.1.2.1 ho hc x.2.2.1 x.2.2.2.2, z4]
      rw [e, if_neg b.1, if_neg b.1, im_T160 xy h.1.2.2.2.1 h.1.2.2.2.2.1 z1, if_pos z2, if_neg (by decide), e40, if_pos rfl, nI_1]
      refine ih (c2 + 1) ?_
      rw [fb_ct_succ, h2, if_pos]
      unfold im_Hd
      rw [z3, decide_eq_true b.1, decide_eq_true b.2]
      rfl
theorem im_full (h : im_HI s (2 ^ o) H V live) (ho : o < 6) : fb_ct (im_lv s 0 0 (nI (2 ^ o)) (nI (2 ^ o)) (nI V)) H = fb_ct live 80 := by
  have pw := im_pw5 o ho
  rw [← h.2.2.2.2.2.2.2]
  refine fb_ct_cong fun i hi => ?_
  obtain ⟨b, x, y, b1, b2, b3, x1, x2, y1, y2, e⟩ := h.2.2.2.2.1 i hi
  have hV := h.2.2.2.1
  have hh : im_hs 0 0 (nI (2 ^ o)) (nI (2 ^ o)) (nI x) (nI y) = true := by
    unfold im_hs
    refine decide_eq_true ⟨nI_pos (by omega), ?_, nI_pos (by omega), ?_⟩
    · rw [Int32.zero_add]
      exact nI_ge x2 (by omega)
    · rw [Int32.zero_add]
      exact nI_ge y2 (by omega)
  unfold im_lv im_opn
  rw [x1, y1, hh, Bool.and_true, b1]
  have e1 : ¬ nI V < nI b := nI_nlt b3 (by omega)
  rcases e with e | ⟨q, e, e2⟩
  · rw [e, decide_eq_true rfl]
    refine decide_eq_true ⟨e1, ?_⟩
    exact nI_ge (b := 2147483647) (by omega) (by decide)
  · rw [e]
    have e3 : ¬ nI q = 2147483647 := fun z => by
      have := (nI_eq (b := 2147483647) (by omega) (by decide)).mp z
      omega
    rw [decide_eq_false e3]
    exact decide_eq_false fun z => z.2 (nI_le e2 (by omega))
theorem im_sound (h : im_TI s o c cap P H V M) (ho : o < 6) (hc : c < 6) (hN : 68 ≤ N) : T_29 N g s = (1, N + 1, hm_gb g N, T_50 N s) := by
  unfold T_29
  rw [im_T154 h.1.2.2.1, if_neg (by decide), im_T59 h ho hc, if_neg (by decide)]
  have e86 : T_86 (hm_sn s N) = nI (2 ^ o) := by
    unfold T_86
    rw [hm_snn (by omega)]
    exact h.1.1.2.1
  have e50 : T_50 N s = T_65 (hm_sn s N) N 0 0 (nI (2 ^ o)) (nI (2 ^ o)) := by
    unfold T_50
    rw [e86]
  obtain ⟨e0, e1, e2, e3⟩ := im_bxv (s := s) (N := N) (x := 0) (y := 0) (w := nI (2 ^ o)) (q := nI (2 ^ o))
  have hT := im_SMTI (im_SMb (s := s) (L := 0) hN (x := 0) (y := 0) (w := nI (2 ^ o)) (q := nI (2 ^ o))) h
  rw [← e50] at e0 e1 e2 e3 hT
  have hA : fb_ct (im_al (T_50 N s)) 80 = fb_ct (im_al (T_50 N s)) 80 := rfl
  have hH := hT.1.2.2.2.2.2.2.1
  have z : T_122 (T_50 N s) N (T_113 (T_50 N s)) = T_158 (T_50 N s) := by
    unfold T_113 T_158
    rw [hH.2.1, im_T122 hH.1 hH.2.2.1, e0, e1, e2, e3, im_full hH ho, hT.2.1]
  rw [if_pos z]
end ImN
