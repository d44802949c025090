/-! The law, from its first row. -/
section ImLz
theorem im_mk68 {Ln : Nat} {g : Nat → hm_Sh} {t : hm_St} : hm_mk (67, hm_sh Ln g, t) 1000 200 = (68, hm_sh Ln g, hm_sn t 67) := by
  unfold hm_mk
  congr 2
  funext i
  show (if i = 67 then _ else hm_sh Ln g i) = hm_sh Ln g i
  by_cases h : i = 67
  · rw [if_pos h, h]
    rfl
  · rw [if_neg h]
theorem lw_all {R : hm_R} (hE : hm_Ce R) {sh : Nat → hm_Sh} {s : hm_St} {b : hm_B} {Q : hm_Q} {Ln : Nat} (h0 : sh 0 = hm_sh0 Ln 0) (h1 : sh 1 = hm_sh0 Ln 1) (ht : s 0 = hm_tab) (hL : Ln < 2 ^ 31) (hb1 : 200000 ≤ b.1) (hb2 : 1300000 ≤ b.2)
    (hQ : ∀ (N : Nat) (g : Nat → hm_Sh) (s : hm_St), Q (.inr (some (.int 1))) (N, hm_sh Ln g, s)) : R 194 0 (lv_args 0 [.ref 1]) [] (2, sh, s) b Q := by
  have hR := hE.1
  show R 194 0 [(0, .ref 1)] [] (2, sh, s) b Q
  refine hm_st hR ⟨by omega, (by show 14 ≤ b.2; omega), ?_⟩
  show R 194 3 [(0, .ref 1)] [.ref 2] (hm_mk (2, sh, s) 10 0) (b.1 - 1, b.2 - 14) Q
  rw [hm_mkS 2 sh s 10]
  refine hm_st hR ⟨rfl, ?_⟩
  show R 194 4 [(0, .ref 1)] [.ref 2, .ref 2] (3, hm_mks sh 2 10, hm_sn s 2) (b.1 - 1, b.2 - 14) Q
  refine hm_st hR ⟨hm_le rfl, hm_le rfl, hm_le rfl, hm_le rfl, (64, 26950), (by show 64 ≤ b.1 - 1; omega), (by show 26950 ≤ b.2 - 14; omega), ?_⟩
  refine ci_0 hE (L := Ln) (g := fun _ => (2000, 0, fun _ => none)) (by rw [hm_mkl (by decide)]; exact h0) (by rw [hm_mkl (by decide)]; exact h1) hm_mkq (Nat.le_refl _) (Nat.le_refl _) ?_
  generalize (fun _ => (2000, 0, fun _ => none) : Nat → hm_Sh) = g
  show R 194 7 [(0, .ref 1)] [.ref 2] (67, hm_sh Ln g, hm_s0 (hm_sn s 2)) (b.1 - 1 - 64, b.2 - 14 - 26950) Q
  refine hm_st hR (hm_st hR (hm_st hR (hm_st hR (?_))))
  show R 194 11 [(1, .ref 2), (0, .ref 1)] [.int (nI 1), .ref 1, .int 1] (67, hm_sh Ln g, hm_s0 (hm_sn s 2)) _ Q
  refine hm_st hR ⟨hm_le rfl, hm_le rfl, hm_le rfl, (0, 0), Nat.zero_le _, Nat.zero_le _, ?_⟩
  refine lw_193 hR (by decide) hL (j := 1) (by decide) fun x1 => ?_
  show R 194 14 [(1, .ref 2), (0, .ref 1)] [.int x1, .int 1] (67, hm_sh Ln g, hm_s0 (hm_sn s 2)) _ Q
  refine hm_st hR (?_)
  show R 194 15 [(1, .ref 2), (0, .ref 1)] [.int (nI 4), .int x1, .int 1] (67, hm_sh Ln g, hm_s0 (hm_sn s 2)) _ Q
  refine hm_st hR ⟨hm_le rfl, hm_le rfl, hm_le rfl, (0, 0), Nat.zero_le _, Nat.zero_le _, ?_⟩
  refine lw_192 hR (m := 4) (by omega) fun o0 ho0 => ?_
  show R 194 18 [(1, .ref 2), (0, .ref 1)] [.int (nI o0), .int 1] (67, hm_sh Ln g, hm_s0 (hm_sn s 2)) _ Q
  refine hm_st hR (?_)
  show R 194 19 [(1, .ref 2), (0, .ref 1)] [.int (1 + (nI o0))] (67, hm_sh Ln g, hm_s0 (hm_sn s 2)) _ Q
  obtain ⟨o, ho⟩ : ∃ o, o = 1 + o0 := ⟨_, rfl⟩
  rw [show (1 : Int32) + nI o0 = nI o from by rw [ho]; exact nI_add 1 o0]
  refine hm_st hR (hm_st hR (hm_st hR (hm_st hR (?_))))
  show R 194 23 [(2, .int (nI o)), (1, .ref 2), (0, .ref 1)] [.int (1 <<< ((nI o) &&& 31))] (67, hm_sh Ln g, hm_s0 (hm_sn s 2)) _ Q
  rw [im_shl1 o (by omega)]
  refine hm_st hR (hm_st hR (hm_st hR (hm_st hR (hm_st hR (?_)))))
  show R 194 28 [(3, .int (nI (2 ^ o))), (2, .int (nI o)), (1, .ref 2), (0, .ref 1)] [.int (nI 2), .ref 1, .int (nI o), .ref 2] (67, hm_sh Ln g, hm_s0 (hm_sn s 2)) _ Q
  refine hm_st hR ⟨hm_le rfl, hm_le rfl, hm_le rfl, (0, 0), Nat.zero_le _, Nat.zero_le _, ?_⟩
  refine lw_193 hR (by decide) hL (j := 2) (by decide) fun x2 => ?_
  show R 194 31 [(3, .int (nI (2 ^ o))), (2, .int (nI o)), (1, .ref 2), (0, .ref 1)] [.int x2, .int (nI o), .ref 2] (67, hm_sh Ln g, hm_s0 (hm_sn s 2)) _ Q
  refine hm_st hR (?_)
  show R 194 33 [(3, .int (nI (2 ^ o))), (2, .int (nI o)), (1, .ref 2), (0, .ref 1)] [.int (nI 6), .int x2, .int (nI o), .ref 2] (67, hm_sh Ln g, hm_s0 (hm_sn s 2)) _ Q
  refine hm_st hR ⟨hm_le rfl, hm_le rfl, hm_le rfl, (0, 0), Nat.zero_le _, Nat.zero_le _, ?_⟩
  refine lw_192 hR (m := 6) (by omega) fun c hc => ?_
  show R 194 36 [(3, .int (nI (2 ^ o))), (2, .int (nI o)), (1, .ref 2), (0, .ref 1)] [.int (nI c), .int (nI o), .ref 2] (67, hm_sh Ln g, hm_s0 (hm_sn s 2)) _ Q
  refine hm_st hR (hm_st hR (hm_st hR (?_)))
  show R 194 39 [(3, .int (nI (2 ^ o))), (2, .int (nI o)), (1, .ref 2), (0, .ref 1)] [.int (nI 3), .ref 1, .int 2, .int (nI c), .int (nI o), .ref 2] (67, hm_sh Ln g, hm_s0 (hm_sn s 2)) _ Q
  refine hm_st hR ⟨hm_le rfl, hm_le rfl, hm_le rfl, (0, 0), Nat.zero_le _, Nat.zero_le _, ?_⟩
  refine lw_193 hR (by decide) hL (j := 3) (by decide) fun x3 => ?_
  show R 194 42 [(3, .int (nI (2 ^ o))), (2, .int (nI o)), (1, .ref 2), (0, .ref 1)] [.int x3, .int 2, .int (nI c), .int (nI o), .ref 2] (67, hm_sh Ln g, hm_s0 (hm_sn s 2)) _ Q
  refine hm_st hR (?_)
  show R 194 44 [(3, .int (nI (2 ^ o))), (2, .int (nI o)), (1, .ref 2), (0, .ref 1)] [.int (nI 7), .int x3, .int 2, .int (nI c), .int (nI o), .ref 2] (67, hm_sh Ln g, hm_s0 (hm_sn s 2)) _ Q
  refine hm_st hR ⟨hm_le rfl, hm_le rfl, hm_le rfl, (0, 0), Nat.zero_le _, Nat.zero_le _, ?_⟩
  refine lw_192 hR (m := 7) (by omega) fun k0 hk0 => ?_
  show R 194 47 [(3, .int (nI (2 ^ o))), (2, .int (nI o)), (1, .ref 2), (0, .ref 1)] [.int (nI k0), .int 2, .int (nI c), .int (nI o), .ref 2] (67, hm_sh Ln g, hm_s0 (hm_sn s 2)) _ Q
  refine hm_st hR (?_)
  show R 194 48 [(3, .int (nI (2 ^ o))), (2, .int (nI o)), (1, .ref 2), (0, .ref 1)] [.int (2 + (nI k0)), .int (nI c), .int (nI o), .ref 2] (67, hm_sh Ln g, hm_s0 (hm_sn s 2)) _ Q
  rw [show (2 : Int32) + nI k0 = nI (2 + k0) from nI_add 2 k0]
  obtain ⟨e, hTI⟩ := im_found (s := hm_sn s 2) (N := 67) (g := g) (o := o) (c := c) (cap := 2 + k0) ht (by omega) (by omega) hc (by omega) (by omega)
  refine hm_st hR ⟨hm_le rfl, rfl, hm_le rfl, hm_le rfl, hm_le rfl, hm_le rfl, (1, 6), by show 1 ≤ b.1 - 1 - 64 - 0 - 0 - 0 - 0 - 0 - 0; omega, by show 6 ≤ b.2 - 14 - 26950 - 0 - 0 - 0 - 0 - 0 - 0; omega, ?_⟩
  refine fp_4 hR (Nat.le_refl 67) (hm_le rfl) (hm_le rfl) ?_ ?_ ?_ ?_
  · rw [show T_34 (hm_s0 (hm_sn s 2)) (nI o) 1 5 = 1 from im_btwN (lo := 1) (hi := 5) (by omega) (by omega) (by omega)]
    decide
  · rw [im_T35 hc]
    decide
  · rw [show T_34 (hm_s0 (hm_sn s 2)) (nI (2 + k0)) 2 8 = 1 from im_btwN (lo := 2) (hi := 8) (by omega) (by omega) (by omega)]
    decide
  rw [e]
  clear e
  generalize im_t4 (hm_s0 (hm_sn s 2)) (nI o) (nI c) (nI (2 + k0)) = t at hTI ⊢
  generalize T_87 t = v
  show R 194 51 [(3, .int (nI (2 ^ o))), (2, .int (nI o)), (1, .ref 2), (0, .ref 1)] [.int v] (67, hm_sh Ln g, t) _ Q
  refine hm_st hR ⟨rfl, hm_st hR (?_)⟩
  show R 194 55 [(3, .int (nI (2 ^ o))), (2, .int (nI o)), (1, .ref 2), (0, .ref 1)] [.int 200] (67, hm_sh Ln g, t) _ Q
  refine hm_st hR ⟨by decide, by decide, (by show 1 ≤ b.1 - 1 - 64 - 0 - 0 - 0 - 0 - 0 - 0 - 1; omega), (by show 200 ≤ b.2 - 14 - 26950 - 0 - 0 - 0 - 0 - 0 - 0 - 6; omega), ?_⟩
  show R 194 57 [(3, .int (nI (2 ^ o))), (2, .int (nI o)), (1, .ref 2), (0, .ref 1)] [.ref 67] (hm_mk (67, hm_sh Ln g, t) 1000 200) _ Q
  rw [im_mk68]
  show R 194 57 [(3, .int (nI (2 ^ o))), (2, .int (nI o)), (1, .ref 2), (0, .ref 1)] [.ref 67] (68, hm_sh Ln g, hm_sn t 67) _ Q
  refine hm_st hR (hm_st hR (hm_st hR (hm_st hR (hm_st hR (?_)))))
  show R 194 65 [(6, .int 0), (5, .int 0), (4, .ref 67), (3, .int (nI (2 ^ o))), (2, .int (nI o)), (1, .ref 2), (0, .ref 1)] [] (68, hm_sh Ln g, hm_sn t 67) _ Q
  have e59 : ∀ b j, b < 59 → hm_sn t 67 b j = t b j := fun b j hb => hm_snn (by omega)
  refine lw_l hR (o := o) (c := c) (cap := 2 + k0) (by omega) (by omega) hc hL hQ 60 0 0 0 0 68 g _ _ rfl ⟨⟨0, 1, im_TI59 hTI e59⟩, Nat.le_refl _, by omega, fun v hv => ?_⟩ (by omega) (by omega) (Nat.le_refl _) (by show 3200 * 60 ≤ b.1 - 1 - 64 - 0 - 0 - 0 - 0 - 0 - 0 - 1 - 1; omega) (by show 20000 * 60 ≤ b.2 - 14 - 26950 - 0 - 0 - 0 - 0 - 0 - 0 - 6 - 200; omega)
  show hm_sn t 67 67 v = nI 0
  rw [im_snz]
  rfl
end ImLz
