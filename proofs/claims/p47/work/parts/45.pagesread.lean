/-! Pages of windows; what cut, runs and proof answer. -/
def im_cm (pb pe : Nat → Nat) (m : Nat) : Nat → Bool := fun p => decide (0 < fb_ct (fun i => decide (pb i ≤ p ∧ p ≤ pe i)) m)
theorem im_ivl (a b : Nat) : ∀ n, fb_ct (fun p => decide (a ≤ p ∧ p < b)) n = min n b - a
  | 0 => by
    show 0 = _
    omega
  | n + 1 => by
    rw [fb_ct_succ, im_ivl a b n]
    by_cases q : a ≤ n ∧ n < b
    · rw [if_pos (decide_eq_true q)]
      omega
    · rw [if_neg (by rw [decide_eq_false q]; decide)]
      omega
section ImU
variable {pb pe : Nat → Nat} {m p i : Nat}
theorem im_cmT (hi : i < m) (h1 : pb i ≤ p) (h2 : p ≤ pe i) : im_cm pb pe m p = true :=
  decide_eq_true (fb_ct_pos.mpr ⟨i, hi, decide_eq_true ⟨h1, h2⟩⟩)
theorem im_cmX (h : im_cm pb pe m p = true) : ∃ i, i < m ∧ pb i ≤ p ∧ p ≤ pe i := by
  obtain ⟨i, a, b⟩ := fb_ct_pos.mp (of_decide_eq_true h)
  exact ⟨i, a, of_decide_eq_true b⟩
theorem im_cms : im_cm pb pe (m + 1) p = (im_cm pb pe m p || decide (pb m ≤ p ∧ p ≤ pe m)) := by
  unfold im_cm
  rw [fb_ct_succ]
  by_cases q : pb m ≤ p ∧ p ≤ pe m
  · rw [decide_eq_true q, Bool.or_true]
    exact decide_eq_true (by rw [if_pos rfl]; omega)
  · rw [decide_eq_false q, Bool.or_false, if_neg (by decide), Nat.add_zero]
end ImU
theorem im_sub1 {a m : Nat} (h : m ≤ a + 1) : nI a - nI m + 1 = nI (a + 1 - m) := by
  rw [← pk_sub h, ← nI_add a 1, Int32.sub_eq_add_neg, Int32.sub_eq_add_neg, Int32.add_assoc, Int32.add_comm (-nI m), ← Int32.add_assoc]
  rfl
section ImV
variable {s t : hm_St} {W : im_W} {n Z : Nat} {pg fl : Nat → Nat}
def im_cw (pg : Nat → Nat) (W : im_W) : Nat → Bool := im_cm (fun i => pg (W.2.1 i)) (fun i => pg (W.2.2.1 i)) W.1
theorem im_T109 (hW : im_WS t W) (hV : im_WV n W) (hn : n ≤ 1024) (hZ : Z ≤ 1024) (hp : ∀ k, k < n → T_139 t (nI k) = nI (pg k) ∧ pg k < Z) (hm : ∀ k j, k ≤ j → j < n → pg k ≤ pg j) : T_109 t = nI (fb_ct (im_cw pg W) Z) := by
  have h1 := hV.1
  have hpp : ∀ j, j < W.1 → pg (W.2.1 j) ≤ pg (W.2.2.1 j) ∧ pg (W.2.2.1 j) < Z := fun j hj => ⟨hm _ _ (hV.2.1 j hj).1 (hV.2.1 j hj).2, (hp _ (hV.2.1 j hj).2).2⟩
  have hpn : ∀ j, j + 1 < W.1 → pg (W.2.2.1 j) ≤ pg (W.2.1 (j + 1)) := fun j hj => hm _ _ (Nat.le_of_lt (hV.2.2 j hj)) (Nat.lt_of_le_of_lt (hV.2.1 (j + 1) hj).1 (hV.2.1 (j + 1) hj).2)
  unfold T_109
  rw [hW.1, show (0 : Int32) = nI 0 from rfl, im_df (by omega) (by omega), show (-1 : Int32) = nI 0 - 1 from by decide]
  refine loop_i (σ := Nat × Nat) (fun m j x => T_109_7 m t (nI x.1) (nI x.2 - 1) (nI j) = nI (fb_ct (im_cw pg W) Z)) (fun j x => x.1 = fb_ct (im_cm (fun i => pg (W.2.1 i)) (fun i => pg (W.2.2.1 i)) j) Z ∧ (∀ p, im_cm (fun i => pg (W.2.1 i)) (fun i => pg (W.2.2.1 i)) j p = true → p < x.2) ∧ (j = 0 → x.2 = 0) ∧ ∀ i, i + 1 = j → x.2 = pg (W.2.2.1 i) + 1) W.1 ?_ ?_ (W.1 - 0 + 1) 0 (0, 0) (Nat.zero_le _) (by omega) ⟨?_, ?_, fun _ => rfl, fun i hi => absurd hi (by omega)⟩
  · rintro m ⟨c, L⟩ ⟨hc, _⟩
    dsimp only at hc ⊢
    rw [T_109_7, hW.1, if_pos (Int32.le_refl _), hc]
    rfl
  · rintro m j ⟨c, L⟩ hj ⟨hc, hL, h0, hs⟩ ih
    dsimp only at hc hL h0 hs ⊢
    obtain ⟨b1, b2⟩ := hV.2.1 j hj
    obtain ⟨c1, c2⟩ := hpp j hj
    have hLp : L ≤ pg (W.2.1 j) + 1 := by
      rcases Nat.eq_zero_or_pos j with z | z
      · have := h0 z
        omega
      · have a := hs (j - 1) (by omega)
        have b := hpn (j - 1) (by omega)
        rw [show j - 1 + 1 = j by omega] at b
        omega
    have key := ih (c + (pg (W.2.2.1 j) + 1 - max L (pg (W.2.1 j))), pg (W.2.2.1 j) + 1) ⟨?_, ?_, fun z => absurd z (by omega), fun i hi => by
      have e : i = j := by omega
      rw [e]⟩
    · dsimp only at key
      rw [T_109_7, hW.1, if_neg (nI_ge hj (by omega)), im_at (by omega), im_at (by omega), (hW.2.2 j hj).1, (hW.2.2 j hj).2, (hp _ b2).1, (hp _ (show W.2.1 j < n by omega)).1, Int32.sub_add_cancel, im_max (by omega) (by omega), im_sub1 (by omega), nI_add, nI_1, ← nI_pred (pg (W.2.2.1 j))]
      exact key
    · dsimp only
      have e : fb_ct (im_cm (fun i => pg (W.2.1 i)) (fun i => pg (W.2.2.1 i)) (j + 1)) Z = fb_ct (fun p => im_cm (fun i => pg (W.2.1 i)) (fun i => pg (W.2.2.1 i)) j p || decide (max L (pg (W.2.1 j)) ≤ p ∧ p < pg (W.2.2.1 j) + 1)) Z := by
        refine fb_ct_cong fun p hpZ => ?_
        rw [im_cms]
        cases q : im_cm (fun i => pg (W.2.1 i)) (fun i => pg (W.2.2.1 i)) j p with
        | true => rw [Bool.true_or, Bool.true_or]
        | false =>
          rw [Bool.false_or, Bool.false_or]
          refine decide_eq_decide.mpr ⟨fun ⟨z1, z2⟩ => ⟨?_, by omega⟩, fun ⟨z1, z2⟩ => ⟨by omega, by omega⟩⟩
          rcases Nat.lt_or_ge p L with y | y
          · exfalso
            rcases Nat.eq_zero_or_pos j with z | z
            · have := h0 z
              omega
            · have a := hs (j - 1) (by omega)
              have b := hpn (j - 1) (by omega)
              rw [show j - 1 + 1 = j by omega] at b
              have d := (hpp (j - 1) (by omega)).1
              have r := im_cmT (pb := fun i => pg (W.2.1 i)) (pe := fun i => pg (W.2.2.1 i)) (m := j) (p := p) (i := j - 1) (by omega) (by omega) (by omega)
              rw [q] at r
              exact absurd r (by decide)
          · omega
      rw [e, fb_ct_or, im_ivl, ← hc]
      · omega
      · rintro p hpZ ⟨z1, z2⟩
        have := hL p z1
        have := of_decide_eq_true z2
        omega
    · intro p hp2
      dsimp only
      rw [im_cms] at hp2
      rcases Bool.or_eq_true_iff.mp hp2 with z | z
      · have a := hL p z
        omega
      · have := of_decide_eq_true z
        omega
  · exact (fb_ct_zero.mpr fun p _ => decide_eq_false (Nat.lt_irrefl 0)).symm
  · intro p hp2
    exact absurd (of_decide_eq_true hp2) (Nat.lt_irrefl 0)
theorem im_cwj (hV : im_WV n W) (h2 : 2 ≤ W.1) (hm : ∀ k j, k ≤ j → j < n → pg k ≤ pg j) {p : Nat} (h : im_cw pg W p = true) : im_cw pg (im_jn W) p = true := by
  have hb := im_bstl (im_gp W) (W.1 - 2)
  obtain ⟨k, k1, k2, k3⟩ := im_cmX h
  have a1 := hV.2.1 k k1
  unfold im_cw im_jn
  generalize im_bst (im_gp W) (W.1 - 2) = i at hb
  dsimp only at k2 k3 ⊢
  rcases Nat.lt_trichotomy k i with z | z | z
  · refine im_cmT (i := k) (by omega) ?_ ?_
    · rw [if_pos (by omega)]
      exact k2
    · rw [if_pos (by omega)]
      exact k3
  · have a2 := hV.2.1 (k + 1) (by omega)
    have a3 := hV.2.2 k (by omega)
    refine im_cmT (i := i) (by omega) ?_ ?_
    · rw [if_pos (by omega), ← z]
      exact k2
    · rw [if_neg (by omega), ← z]
      exact Nat.le_trans k3 (hm _ _ (by omega) a2.2)
  · rcases Nat.lt_or_ge (i + 1) k with y | y
    · refine im_cmT (i := k - 1) (by omega) ?_ ?_
      · rw [if_neg (by omega), show k - 1 + 1 = k by omega]
        exact k2
      · rw [if_neg (by omega), show k - 1 + 1 = k by omega]
        exact k3
    · have e : k = i + 1 := by omega
      have a2 := hV.2.1 i (by omega)
      have a3 := hV.2.2 i (by omega)
      rw [e] at k2 k3 a1
      refine im_cmT (i := i) (by omega) ?_ ?_
      · rw [if_pos (by omega)]
        exact Nat.le_trans (hm _ _ (by omega) (by omega)) k2
      · rw [if_neg (by omega)]
        exact k3
theorem im_cwt (hV : im_WV n W) {k : Nat} (hk : k + 1 < W.1) (hm : ∀ k j, k ≤ j → j < n → pg k ≤ pg j) : fb_ct (im_cw pg (im_jt W k)) Z ≤ fb_ct (im_cw pg (im_jt W (k + 1))) Z := by
  obtain ⟨a, b⟩ := im_jtV hV (k := k) (by omega)
  rw [im_jts]
  exact fb_ct_sub fun p _ hp => im_cwj a (by omega) hm hp
theorem im_cw1 (hV : im_WV n W) (h1 : 1 ≤ W.1) (hp : ∀ k, k < n → pg k < Z) (hm : ∀ k j, k ≤ j → j < n → pg k ≤ pg j) : 1 ≤ fb_ct (im_cw pg W) Z := by
  have a := hV.2.1 0 h1
  exact fb_ct_pos.mpr ⟨pg (W.2.1 0), hp _ (by omega), im_cmT (i := 0) h1 (Nat.le_refl _) (hm _ _ a.1 a.2)⟩
def im_pg (s : hm_St) (k : Nat) : Nat := (T_139 s (nI k)).toNatClampNeg
theorem im_pgp (h : im_PF s n Z fl) {k : Nat} (hk : k < n) : T_139 s (nI k) = nI (im_pg s k) ∧ im_pg s k < Z ∧ fl (im_pg s k) ≤ k ∧ k < fl (im_pg s k + 1) := by
  obtain ⟨i, i1, i2, i3⟩ := im_pgex h hk
  have hZ := im_Zn h
  have hn := h.2.2.1
  have e : im_pg s k = i := by
    unfold im_pg
    rw [im_T139 h i1 i2 i3, nI_clamp (by omega)]
  rw [e]
  exact ⟨im_T139 h i1 i2 i3, i1, i2, i3⟩
theorem im_pgm (h : im_PF s n Z fl) {k j : Nat} (hkj : k ≤ j) (hj : j < n) : im_pg s k ≤ im_pg s j := by
  obtain ⟨_, a1, a2, a3⟩ := im_pgp h (k := k) (by omega)
  obtain ⟨_, b1, b2, b3⟩ := im_pgp h hj
  rcases Nat.lt_or_ge (im_pg s j) (im_pg s k) with z | z
  · have := im_flm h (i := im_pg s j + 1) (j := im_pg s k) (by omega) (by omega)
    omega
  · exact z
end ImV
section ImCut
variable {s t : hm_St} {o c cap P H V M N L u v w h most : Nat} {g : Nat → hm_Sh}
def im_W0 (s : hm_St) (o c u v w h : Nat) : im_W := im_ly (im_Q s c u v w h) (4 ^ o)
def im_Wd (s : hm_St) (o c u v w h most : Nat) : im_W := im_jt (im_W0 s o c u v w h) ((im_W0 s o c u v w h).1 - most)
theorem im_Qc (hS : im_SM s t L) : im_Q t c u v w h = im_Q s c u v w h := by
  funext k
  unfold im_Q
  rw [F_89 (im_SMf hS), F_90 (im_SMf hS)]
theorem im_W0c (hS : im_SM s t L) : im_W0 t o c u v w h = im_W0 s o c u v w h := by
  unfold im_W0
  rw [im_Qc hS]
theorem im_Wdc (hS : im_SM s t L) : im_Wd t o c u v w h most = im_Wd s o c u v w h most := by
  unfold im_Wd
  rw [im_W0c hS]
theorem im_pgc (hS : im_SM s t L) : im_pg t = im_pg s := by
  funext k
  unfold im_pg
  rw [F_139 (im_SMf hS)]
theorem im_SMo (hS : im_SM s t L) {r : hm_St} (hr : im_OT t r) : im_SM s r L := by
  refine ⟨fun b j hb => (hr b j (by omega) (by omega) (by omega)).trans (hS.1 b j hb), fun j hj => (hr 66 j (by omega) (by omega) (by omega)).trans (hS.2 j hj)⟩
theorem im_WdV (h1 : 1 ≤ most) : im_WV (4 ^ o) (im_Wd s o c u v w h most) ∧ (im_Wd s o c u v w h most).1 = (im_W0 s o c u v w h).1 - ((im_W0 s o c u v w h).1 - most) := by
  obtain ⟨a, _, _⟩ := im_lyV (im_Q s c u v w h) (4 ^ o)
  have e : im_W0 s o c u v w h = im_ly (im_Q s c u v w h) (4 ^ o) := rfl
  rw [← e] at a
  unfold im_Wd
  rcases Nat.eq_zero_or_pos ((im_W0 s o c u v w h).1 - most) with z | z
  · rw [z]
    exact ⟨a, rfl⟩
  · obtain ⟨b, d⟩ := im_jtV a (k := (im_W0 s o c u v w h).1 - most) (by omega)
    exact ⟨b, by omega⟩
/-- a box is cut -/
theorem im_laid (hT : im_TI s o c cap P H V M) (ho : o < 6) (hN : 68 ≤ N) {q : Nat} : im_SM s (T_104 (T_65 (hm_sn s N) N (nI u) (nI v) (nI w) (nI h)) (nI q) N) L ∧ im_WS (T_104 (T_65 (hm_sn s N) N (nI u) (nI v) (nI w) (nI h)) (nI q) N) (im_W0 s o q u v w h) := by
  obtain ⟨e0, e1, e2, e3⟩ := im_bxv (s := s) (N := N) (x := nI u) (y := nI v) (w := nI w) (q := nI h)
  have hS := im_SMb (s := s) (L := L) hN (x := nI u) (y := nI v) (w := nI w) (q := nI h)
  obtain ⟨a, b⟩ := im_T104 (c := q) (im_SMTI hS hT).1.1 ho hN e0 e1 e2 e3
  rw [im_Qc hS] at b
  exact ⟨im_SMo hS a, b⟩
theorem im_cutS (hT : im_TI s o c cap P H V M) (ho : o < 6) (hN : 68 ≤ N) (h1 : 1 ≤ most) (h2 : most ≤ 99) : im_SM s (T_49 (T_65 (hm_sn s N) N (nI u) (nI v) (nI w) (nI h)) N (nI most)) L ∧ im_WS (T_49 (T_65 (hm_sn s N) N (nI u) (nI v) (nI w) (nI h)) N (nI most)) (im_Wd s o c u v w h most) := by
  have pw := im_pw5 o ho
  have hS := im_SMb (s := s) (L := L) hN (x := nI u) (y := nI v) (w := nI w) (q := nI h)
  obtain ⟨a, b⟩ := im_laid (u := u) (v := v) (w := w) (h := h) (L := L) hT ho hN (q := c)
  unfold T_49
  rw [(im_SMTI hS hT).1.2.1]
  obtain ⟨d, e⟩ := im_T105 b (im_lyV (im_Q s c u v w h) (4 ^ o)).1 pw.2.1 (im_OTr _) h1 h2
  exact ⟨im_SMo a d, e⟩
theorem im_T12 (hT : im_TI s o c cap P H V M) (ho : o < 6) (hN : 68 ≤ N) (h1 : 1 ≤ most) (h2 : most ≤ 99) (hu : u < 2 ^ o) (hv : v < 2 ^ o) (hw : 1 ≤ w) (hw2 : u + w ≤ 2 ^ o) (hq : 1 ≤ h) (hq2 : v + h ≤ 2 ^ o) :
    T_12 N g s (nI u) (nI v) (nI w) (nI h) (nI most) 0 = (0, nI (im_Wd s o c u v w h most).1, N + 1, hm_gb g N, T_49 (T_65 (hm_sn s N) N (nI u) (nI v) (nI w) (nI h)) N (nI most)) ∧
    T_12 N g s (nI u) (nI v) (nI w) (nI h) (nI most) 1 = (0, nI (im_Wd s o c u v w h most).2.2.2, N + 1, hm_gb g N, T_49 (T_65 (hm_sn s N) N (nI u) (nI v) (nI w) (nI h)) N (nI most)) ∧
    T_12 N g s (nI u) (nI v) (nI w) (nI h) (nI most) 2 = (0, T_109 (T_49 (T_65 (hm_sn s N) N (nI u) (nI v) (nI w) (nI h)) N (nI most)), N + 1, hm_gb g N, T_49 (T_65 (hm_sn s N) N (nI u) (nI v) (nI w) (nI h)) N (nI most)) := by
  obtain ⟨a, b⟩ := im_cutS (u := u) (v := v) (w := w) (h := h) (L := 0) hT ho hN h1 h2
  have e1 : T_34 s (nI most) 1 99 = 1 := im_btwN (lo := 1) (hi := 99) h1 h2 (by omega)
  have e2 : T_101 (T_49 (T_65 (hm_sn s N) N (nI u) (nI v) (nI w) (nI h)) N (nI most)) = nI (im_Wd s o c u v w h most).1 := b.1
  have e3 : T_102 (T_49 (T_65 (hm_sn s N) N (nI u) (nI v) (nI w) (nI h)) N (nI most)) = nI (im_Wd s o c u v w h most).2.2.2 := b.2.1
  refine ⟨?_, ?_, ?_⟩
  · unfold T_12
    rw [im_T38 hT.1.1 ho hu hv hw hw2 hq hq2, if_neg (by decide), e1, if_neg (by decide), show T_34 s 0 0 3 = 1 from im_btw (by decide) (by decide), if_neg (by decide), if_pos rfl, e2]
  · unfold T_12
    rw [im_T38 hT.1.1 ho hu hv hw hw2 hq hq2, if_neg (by decide), e1, if_neg (by decide), show T_34 s 1 0 3 = 1 from im_btw (by decide) (by decide), if_neg (by decide), if_neg (by decide), if_pos rfl, e3]
  · unfold T_12
    rw [im_T38 hT.1.1 ho hu hv hw hw2 hq hq2, if_neg (by decide), e1, if_neg (by decide), show T_34 s 2 0 3 = 1 from im_btw (by decide) (by decide), if_neg (by decide), if_neg (by decide), if_neg (by decide), if_pos rfl]
end ImCut
