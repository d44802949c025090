/-! Askings: what they leave, and the plain ones. -/
/-- all is as it was, but windows, boxes and the line's row ahead of L -/
def im_SM (s t : hm_St) (L : Nat) : Prop := (∀ b j, b < 59 ∨ b = 67 → t b j = s b j) ∧ ∀ j, L ≤ j → t 66 j = s 66 j
section ImQ
variable {s t : hm_St} {o c cap P H V M N L : Nat} {g : Nat → hm_Sh}
theorem im_SMr : im_SM s s L := ⟨fun _ _ _ => rfl, fun _ _ => rfl⟩
theorem im_SMt {u : hm_St} (h1 : im_SM s t L) (h2 : im_SM t u L) : im_SM s u L := ⟨fun b j hb => (h2.1 b j hb).trans (h1.1 b j hb), fun j hj => (h2.2 j hj).trans (h1.2 j hj)⟩
theorem im_SMf (h : im_SM s t L) : ∀ b, Nat.blt b 59 = true → t b = s b := fun b hb => funext fun j => h.1 b j (Or.inl (Nat.blt_eq.mp hb))
theorem im_SMTI (h : im_SM s t L) (hT : im_TI s o c cap P H V M) : im_TI t o c cap P H V M := by
  refine im_TIc hT (fun b j hb => h.1 b j (Or.inl ?_)) (h.1 _ _ (by decide)) (h.1 _ _ (by decide))
  revert hb
  simp only [List.mem_cons, List.not_mem_nil, or_false]
  omega
/-- a box is made at N -/
theorem im_bxc (hN : 68 ≤ N) {x y w q : Int32} : ∀ b j, b < 68 → T_65 (hm_sn s N) N x y w q b j = s b j := by
  intro b j hb
  rw [N_65 (by omega), hm_snn (by omega)]
theorem im_bxv {x y w q : Int32} : T_65 (hm_sn s N) N x y w q N 0 = x ∧ T_65 (hm_sn s N) N x y w q N 1 = y ∧ T_65 (hm_sn s N) N x y w q N 2 = w ∧ T_65 (hm_sn s N) N x y w q N 3 = q := by
  unfold T_65
  refine ⟨?_, ?_, ?_, ?_⟩
  · rw [im_wj (by decide), im_wj (by decide), im_wj (by decide), im_ws]
  · rw [im_wj (by decide), im_wj (by decide), im_ws]
  · rw [im_wj (by decide), im_ws]
  · rw [im_ws]
theorem im_SMb (hN : 68 ≤ N) {x y w q : Int32} : im_SM s (T_65 (hm_sn s N) N x y w q) L := ⟨fun b j hb => im_bxc hN b j (by omega), fun j _ => im_bxc hN 66 j (by decide)⟩
theorem im_asOf {v : Nat} (h : im_TI s o c cap P H V M) (ho : o < 6) (hN : 68 ≤ N) (hv : v ≤ V) : T_13 N g s 0 0 (nI (2 ^ o)) 1 (nI v) = (0, nI (fb_ct (im_lv s 0 0 (nI (2 ^ o)) 1 (nI v)) H), N + 1, hm_gb g N, T_65 (hm_sn s N) N 0 0 (nI (2 ^ o)) 1) := by
  have pw := im_pw5 o ho
  have hH := h.1.2.2.2.2.2.2.1
  unfold T_13
  rw [show T_38 s 0 0 (nI (2 ^ o)) 1 = 1 from im_T38 (x := 0) (y := 0) (q := 1) h.1.1 ho (by omega) (by omega) pw.2.2.2 (by omega) (Nat.le_refl _) (by omega), if_neg (by decide)]
  rw [show T_34 s (nI v) 0 (T_113 s) = 1 from by
    unfold T_113
    rw [hH.2.1]
    exact im_btwN (lo := 0) (Nat.zero_le _) hv (by have := hH.2.2.2.1; omega), if_neg (by decide)]
  obtain ⟨e0, e1, e2, e3⟩ := im_bxv (s := s) (N := N) (x := 0) (y := 0) (w := nI (2 ^ o)) (q := 1)
  have ec := im_bxc (s := s) hN (x := 0) (y := 0) (w := nI (2 ^ o)) (q := 1)
  have E : T_122 (T_65 (hm_sn s N) N 0 0 (nI (2 ^ o)) 1) N (nI v) = nI (fb_ct (im_lv s 0 0 (nI (2 ^ o)) 1 (nI v)) H) := by
    rw [im_T122 ((ec _ _ (by decide)).trans hH.1) hH.2.2.1, e0, e1, e2, e3]
    refine congrArg nI (fb_ct_cong fun k _ => ?_)
    unfold im_lv
    rw [ec _ _ (by decide), ec _ _ (by decide), ec _ _ (by decide), ec _ _ (by decide)]
  rw [E]
theorem im_key {x y q : Nat} (h : im_TI s o c cap P H V M) (ho : o < 6) (hq : q < 6) (hx : x < 2 ^ o) (hy : y < 2 ^ o) : T_1 N g s (nI q) (nI x) (nI y) = (0, nI (im_K s o q x y), N, g, s) := by
  unfold T_1
  rw [im_T35 hq, if_neg (by decide), im_T37 h.1.1 ho hx hy, if_neg (by decide), im_T88 h.1.1 ho hq hx hy]
theorem im_place {x y q : Nat} (h : im_TI s o c cap P H V M) (ho : o < 6) (hq : q < 6) (hx : x < 2 ^ o) (hy : y < 2 ^ o) : T_2 N g s (nI q) (nI (im_K s o q x y)) 0 = (0, nI x, N, g, s) ∧ T_2 N g s (nI q) (nI (im_K s o q x y)) 1 = (0, nI y, N, g, s) := by
  have k := im_Kat h.1.1 ho hq hx hy
  have e := im_T89 h.1.1 ho hq hx hy
  unfold T_2
  refine ⟨?_, ?_⟩
  · rw [im_T35 hq, if_neg (by decide), im_T36 h.1.1 ho k.2.1, if_neg (by decide), if_pos rfl, e.1]
  · rw [im_T35 hq, if_neg (by decide), im_T36 h.1.1 ho k.2.1, if_neg (by decide), if_neg (by decide), e.2]
theorem im_many {w : Int32} (h0 : 0 ≤ w) (h15 : w ≤ 15) : T_11 N g s w = (0, (if 8 ≤ w then T_56 s w else T_55 s w), N, g, s) := by
  unfold T_11
  rw [im_btw h0 h15, if_neg (by decide)]
  by_cases q : 8 ≤ w
  · rw [if_pos q, if_pos q]
  · rw [if_neg q, if_neg q]
theorem im_many7 (h : im_TI s o c cap P H V M) : T_11 N g s 7 = (0, nI V, N, g, s) := by
  rw [im_many (by decide) (by decide), if_neg (by decide)]
  unfold T_55 T_113
  rw [if_neg (by decide), if_neg (by decide), if_neg (by decide), if_neg (by decide), if_neg (by decide), if_neg (by decide), if_neg (by decide), h.1.2.2.2.2.2.2.1.2.1]
theorem im_many1 (h : im_TI s o c cap P H V M) : T_11 N g s 1 = (0, nI c, N, g, s) := by
  rw [im_many (by decide) (by decide), if_neg (by decide)]
  unfold T_55
  rw [if_neg (by decide), if_pos rfl, h.1.2.1]
theorem im_many4 (h : im_TI s o c cap P H V M) : T_11 N g s 4 = (0, nI (fb_ct (im_al s) 80), N, g, s) := by
  rw [im_many (by decide) (by decide), if_neg (by decide)]
  unfold T_55 T_158
  rw [if_neg (by decide), if_neg (by decide), if_neg (by decide), if_neg (by decide), if_pos rfl, h.2.1]
theorem im_many5 {Z : Nat} {n : Nat} {fl : Nat → Nat} (h : im_PF s n Z fl) : T_11 N g s 5 = (0, nI Z, N, g, s) := by
  rw [im_many (by decide) (by decide), if_neg (by decide)]
  unfold T_55 T_133
  rw [if_neg (by decide), if_neg (by decide), if_neg (by decide), if_neg (by decide), if_neg (by decide), if_pos rfl, h.2.1]
theorem im_many11 (h : im_TI s o c cap P H V M) : T_11 N g s 11 = (0, nI M, N, g, s) := by
  rw [im_many (by decide) (by decide), if_pos (by decide)]
  unfold T_56
  rw [if_neg (by decide), if_neg (by decide), if_neg (by decide), if_pos rfl, h.2.2.1]
theorem im_density {l q : Nat} (h : im_TI s o c cap P H V M) (ho : o < 6) (hl : l ≤ o) (hq : q < 4 ^ l) : T_24 N g s (nI l) (nI q) = (0, nI (fb_ct (im_in s o l q (im_al s)) 80), N, g, s) := by
  unfold T_24
  rw [im_T71 h.1.2.2.2.2.2.2.2.1.1 ho hl hq, if_neg (by decide), im_T75 (by omega) hq, h.1.2.2.2.2.2.2.2.1.2 l q hl hq]
theorem im_ofPoint {p : Nat} (h : im_TI s o c cap P H V M) (hp : p < 80) (hl : im_al s p = true) : T_10 N g s (nI p) 0 = (0, nI (im_X s p), N, g, s) ∧ T_10 N g s (nI p) 1 = (0, nI (im_Y s p), N, g, s) ∧ T_10 N g s (nI p) 3 = (0, 1, N, g, s) := by
  obtain ⟨b1, b2⟩ := h.1.2.2.2.2.2.1 p hp hl
  have e := im_T161 h.1.2.2.2.2.2.1 hp hl
  refine ⟨?_, ?_, ?_⟩
  · unfold T_10 T_53
    rw [im_T159 h.1.2.2.2.1 h.1.2.2.2.2.1 (by omega), if_pos b1, if_neg (by decide), show T_34 s 0 0 9 = 1 from im_btw (by decide) (by decide), if_neg (by decide), if_pos rfl, e.1]
  · unfold T_10 T_53
    rw [im_T159 h.1.2.2.2.1 h.1.2.2.2.2.1 (by omega), if_pos b1, if_neg (by decide), show T_34 s 1 0 9 = 1 from im_btw (by decide) (by decide), if_neg (by decide), if_neg (by decide), if_pos rfl, e.2]
  · unfold T_10 T_53
    rw [im_T159 h.1.2.2.2.1 h.1.2.2.2.2.1 (by omega), if_pos b1, if_neg (by decide), show T_34 s 3 0 9 = 1 from im_btw (by decide) (by decide), if_neg (by decide), if_neg (by decide), if_neg (by decide), if_neg (by decide), if_pos rfl, im_T160 h.1.2.2.2.2.2.1 h.1.2.2.2.1 h.1.2.2.2.2.1 hp, if_pos hl, if_neg (by decide)]
theorem im_blur {p : Nat} (h : im_TI s o c cap P H V M) (ho : o < 6) (hp : p < 80) (hl : im_al s p = true) : T_25 N g s (nI p) 1 = (0, nI o, N, g, s) := by
  obtain ⟨b1, b2, b3, b4, b5⟩ := h.1.2.2.2.2.2.1 p hp hl
  have e := im_T161 h.1.2.2.2.2.2.1 hp hl
  have h47 := h.1.2.2.2.2.2.2.2.1.1
  have hca := im_cal (Nat.le_refl o) b3 b5
  unfold T_25
  rw [im_T159 h.1.2.2.2.1 h.1.2.2.2.2.1 (by omega), if_pos b1, if_neg (by decide), show T_34 s 1 1 80 = 1 from im_btw (by decide) (by decide), if_neg (by decide), im_T160 h.1.2.2.2.2.2.1 h.1.2.2.2.1 h.1.2.2.2.2.1 hp, if_pos hl, if_neg (by decide), e.1, e.2]
  unfold T_77
  rw [h47, T_77_6, if_neg (nI_pos (by omega)), im_T74 h47 (Nat.le_refl o) ho b3 b5, im_T75 ho hca, h.1.2.2.2.2.2.2.2.1.2 o _ (Nat.le_refl o) hca, if_neg]
  have z : 0 < fb_ct (im_in s o o (im_ca o o (im_X s p) (im_Y s p)) (im_al s)) 80 := by
    rw [fb_ct_pos]
    refine ⟨p, hp, ?_⟩
    unfold im_in
    rw [hl, Bool.true_and]
    exact decide_eq_true rfl
  have z2 := fb_ct_le (im_in s o o (im_ca o o (im_X s p) (im_Y s p)) (im_al s)) 80
  exact nI_nlt (b := 1) z (by omega)
theorem im_soonAll (h : im_TI s o c cap P H V M) (ho : o < 6) (hN : 68 ≤ N) : T_14 N g s 0 0 (nI (2 ^ o)) (nI (2 ^ o)) 9 = (0, nI (fb_ct (im_al s) 80), N + 1, hm_gb g N, T_65 (hm_sn s N) N 0 0 (nI (2 ^ o)) (nI (2 ^ o))) := by
  have pw := im_pw5 o ho
  unfold T_14
  rw [show T_38 s 0 0 (nI (2 ^ o)) (nI (2 ^ o)) = 1 from im_T38 (x := 0) (y := 0) h.1.1 ho (by omega) (by omega) pw.2.2.2 (by omega) pw.2.2.2 (by omega), if_neg (by decide), show T_34 s 9 0 40 = 1 from im_btw (by decide) (by decide), if_neg (by decide)]
  obtain ⟨e0, e1, e2, e3⟩ := im_bxv (s := s) (N := N) (x := 0) (y := 0) (w := nI (2 ^ o)) (q := nI (2 ^ o))
  have hT := im_SMTI (im_SMb (s := s) (L := 0) hN (x := 0) (y := 0) (w := nI (2 ^ o)) (q := nI (2 ^ o))) h
  have hal : im_al (T_65 (hm_sn s N) N 0 0 (nI (2 ^ o)) (nI (2 ^ o))) = im_al s := by
    funext q
    unfold im_al
    rw [im_bxc hN _ _ (by decide)]
  generalize T_65 (hm_sn s N) N 0 0 (nI (2 ^ o)) (nI (2 ^ o)) = t at e0 e1 e2 e3 hT hal
  have hP := hT.1.2.2.2.2.1
  have E : T_171 t N 9 (T_86 t) = nI (fb_ct (im_al s) 80) := by
    unfold T_171
    rw [hT.1.2.2.2.1, show (0 : Int32) = nI 0 from rfl, im_df (by omega) (by omega)]
    have e := im_ctl (fun n q j => T_171_6 N n t 9 (T_86 t) q j) (im_al t) (a := 0) (e := P) (Nat.zero_le _) ?_ ?_ (n := P - 0 + 1) (by omega) 0
    · rw [e]
      refine congrArg nI ?_
      rw [← hal]
      show 0 + (_ - 0) = _
      have z := fb_ct_split (im_al t) P (80 - P)
      rw [show P + (80 - P) = 80 by omega] at z
      have z2 : fb_ct (fun k => im_al t (P + k)) (80 - P) = 0 := by
        rw [fb_ct_zero]
        intro k hk
        cases q : im_al t (P + k) with
        | false => rfl
        | true =>
          have := (hT.1.2.2.2.2.2.1 (P + k) (by omega) q).1
          omega
      omega
    · intro n q
      show T_171_6 N (n + 1) t 9 (T_86 t) q (nI P) = q
      rw [T_171_6, hT.1.2.2.2.1, if_pos (Int32.le_refl _)]
    · intro n q j _ hj
      show T_171_6 N (n + 1) t 9 (T_86 t) q (nI j) = _
      rw [T_171_6, hT.1.2.2.2.1, if_neg (nI_ge hj (by omega)), im_T160 hT.1.2.2.2.2.2.1 hT.1.2.2.2.1 hP (by omega), nI_1]
      by_cases r : im_al t j = true
      · obtain ⟨⟨x, x1, x2⟩, y, y1, y2⟩ := im_soon (p := nI j) (d := 9) hT.1.1 ho
        have hh : im_hs (t N 0) (t N 1) (t N 2) (t N 3) (nI x) (nI y) = true := by
          rw [e0, e1, e2, e3]
          unfold im_hs
          refine decide_eq_true ⟨nI_pos (by omega), ?_, nI_pos (by omega), ?_⟩
          · rw [Int32.zero_add]
            exact nI_ge x1 (by omega)
          · rw [Int32.zero_add]
            exact nI_ge y1 (by omega)
        rw [if_pos r, if_pos r, if_neg (by decide), x2, y2, im_T66, if_pos hh, if_neg (by decide)]
      · rw [if_neg r, if_neg r, if_pos rfl]
  rw [E]
end ImQ
