/-! The law's asking, first half: the checksum, soundness, a key, windows. -/
section ImL1
variable {R : hm_R} {r s : hm_St} {o c cap P H V M N Ln : Nat} {g : Nat → hm_Sh} {b : hm_B} {Q : hm_Q}
theorem aw_a (hR : hm_Cm R) (hT : im_TI r o c cap P H V M) (hS : im_SM r s (fb_ct (im_al r) 80)) (ho1 : 1 ≤ o) (ho : o ≤ 4) (hc : c < 6) (hN : 68 ≤ N) (hb1 : 50 ≤ b.1) (hb2 : 200 ≤ b.2) {x : Int32}
    (K : ∀ kv : Int32, ∀ (N : Nat) (g : Nat → hm_Sh) (s : hm_St) (b2 : hm_B), 68 ≤ N → im_SM r s (fb_ct (im_al r) 80) → b.1 ≤ b2.1 + 50 → b.2 ≤ b2.2 + 200 → R 196 62 [(7, .int kv), (6, .int (nI c)), (4, .long (im_dg r 68 o cap)), (0, .ref 2), (1, .int x), (2, .int (nI o)), (3, .int (nI (2 ^ o)))] [] (N, hm_sh Ln g, s) b2 Q) : R 196 0 [(0, .ref 2), (1, .int x), (2, .int (nI o)), (3, .int (nI (2 ^ o)))] [] (N, hm_sh Ln g, s) b Q := by
  have ho6 : o < 6 := by omega
  have pw := im_pw5 o ho6
  refine hm_st hR (?_)
  show R 196 1 [(0, .ref 2), (1, .int x), (2, .int (nI o)), (3, .int (nI (2 ^ o)))] [.ref 2] (N, hm_sh Ln g, s) _ Q
  refine hm_st hR ⟨hm_le rfl, rfl, hm_le rfl, hm_ltN hN rfl, hm_le rfl, hm_le rfl, (8, 32), by show 8 ≤ b.1; omega, by show 32 ≤ b.2; omega, ?_⟩
  refine sp_30 hR hN (hm_le rfl) (hm_le rfl) (im_hO hT hS ho6) (im_hE hT hS ho6 hc).1 (im_hE hT hS ho6 hc).2 (im_a30 hT hS ho6 hc hN fun N g s hN hS => ?_)
  show R 196 4 [(0, .ref 2), (1, .int x), (2, .int (nI o)), (3, .int (nI (2 ^ o)))] [.long (im_dg r 68 o cap)] (N, hm_sh Ln g, s) _ Q
  refine hm_st hR (hm_st hR (hm_st hR (?_)))
  show R 196 8 [(4, .long (im_dg r 68 o cap)), (0, .ref 2), (1, .int x), (2, .int (nI o)), (3, .int (nI (2 ^ o)))] [.int 1, .ref 2] (N, hm_sh Ln g, s) _ Q
  refine hm_st hR ⟨hm_le rfl, rfl, hm_le rfl, hm_ltN hN rfl, hm_le rfl, hm_le rfl, (1, 6), by show 1 ≤ b.1 - 8; omega, by show 6 ≤ b.2 - 32; omega, ?_⟩
  refine sp_11 hR hN (hm_le rfl) (hm_le rfl) ?_
  refine im_AKq (im_a11 hT hS hN).1 fun N g s hN hS => ?_
  show R 196 11 [(4, .long (im_dg r 68 o cap)), (0, .ref 2), (1, .int x), (2, .int (nI o)), (3, .int (nI (2 ^ o)))] [.int (nI c)] (N, hm_sh Ln g, s) _ Q
  refine hm_st hR (hm_st hR (hm_st hR (hm_st hR (hm_st hR (hm_st hR (hm_st hR (?_)))))))
  show R 196 19 [(6, .int (nI c)), (4, .long (im_dg r 68 o cap)), (0, .ref 2), (1, .int x), (2, .int (nI o)), (3, .int (nI (2 ^ o)))] [.int ((nI (2 ^ o)) * (nI (2 ^ o))), .int (x >>> (2 &&& 31))] (N, hm_sh Ln g, s) _ Q
  rw [show nI (2 ^ o) * nI (2 ^ o) = nI (4 ^ o) from by rw [pk_mul, pw.2.2.1]]
  refine hm_st hR ⟨hm_le rfl, hm_le rfl, hm_le rfl, (0, 0), Nat.zero_le _, Nat.zero_le _, ?_⟩
  refine lw_192 hR (m := 4 ^ o) (⟨(im_p4l o ho6).1, by omega⟩) fun k hk => ?_
  show R 196 22 [(6, .int (nI c)), (4, .long (im_dg r 68 o cap)), (0, .ref 2), (1, .int x), (2, .int (nI o)), (3, .int (nI (2 ^ o)))] [.int (nI k)] (N, hm_sh Ln g, s) _ Q
  obtain ⟨kx, ky, hkx, hky, hkK⟩ := im_Kex hT.1.1 ho6 hc hk
  subst hkK
  show R 196 22 [(6, .int (nI c)), (4, .long (im_dg r 68 o cap)), (0, .ref 2), (1, .int x), (2, .int (nI o)), (3, .int (nI (2 ^ o)))] [.int (nI (im_K r o c kx ky))] (N, hm_sh Ln g, s) _ Q
  refine hm_st hR (hm_st hR (?_))
  show R 196 25 [(7, .int (nI (im_K r o c kx ky))), (6, .int (nI c)), (4, .long (im_dg r 68 o cap)), (0, .ref 2), (1, .int x), (2, .int (nI o)), (3, .int (nI (2 ^ o)))] [.ref 2] (N, hm_sh Ln g, s) _ Q
  refine hm_st hR ⟨hm_le rfl, rfl, hm_le rfl, hm_ltN hN rfl, hm_le rfl, hm_le rfl, (1, 4), by show 1 ≤ b.1 - 8 - 1 - 0; omega, by show 4 ≤ b.2 - 32 - 6 - 0; omega, ?_⟩
  refine sp_29 hR hN (hm_le rfl) (hm_le rfl) (im_a29 hT hS ho6 hc hN fun N g s hN hS => ?_)
  show R 196 28 [(7, .int (nI (im_K r o c kx ky))), (6, .int (nI c)), (4, .long (im_dg r 68 o cap)), (0, .ref 2), (1, .int x), (2, .int (nI o)), (3, .int (nI (2 ^ o)))] [.int 1] (N, hm_sh Ln g, s) _ Q
  refine hm_st hR ⟨fun cc => absurd cc (by decide), fun _ => ?_⟩
  show R 196 31 [(7, .int (nI (im_K r o c kx ky))), (6, .int (nI c)), (4, .long (im_dg r 68 o cap)), (0, .ref 2), (1, .int x), (2, .int (nI o)), (3, .int (nI (2 ^ o)))] [] (N, hm_sh Ln g, s) _ Q
  refine hm_st hR (hm_st hR (hm_st hR (hm_st hR (hm_st hR (hm_st hR (?_))))))
  show R 196 40 [(7, .int (nI (im_K r o c kx ky))), (6, .int (nI c)), (4, .long (im_dg r 68 o cap)), (0, .ref 2), (1, .int x), (2, .int (nI o)), (3, .int (nI (2 ^ o)))] [.int 0, .int (nI (im_K r o c kx ky)), .int (nI c), .ref 2, .int (nI c), .ref 2] (N, hm_sh Ln g, s) _ Q
  refine hm_st hR ⟨hm_le rfl, rfl, hm_le rfl, hm_ltN hN rfl, hm_le rfl, hm_le rfl, (1, 6), by show 1 ≤ b.1 - 8 - 1 - 0 - 1; omega, by show 6 ≤ b.2 - 32 - 6 - 0 - 4; omega, ?_⟩
  refine sp_2 hR hN (hm_le rfl) (hm_le rfl) ?_
  refine im_AKq (im_a2 hT hS ho6 hc hN hkx hky).1 fun N g s hN hS => ?_
  show R 196 43 [(7, .int (nI (im_K r o c kx ky))), (6, .int (nI c)), (4, .long (im_dg r 68 o cap)), (0, .ref 2), (1, .int x), (2, .int (nI o)), (3, .int (nI (2 ^ o)))] [.int (nI kx), .int (nI c), .ref 2] (N, hm_sh Ln g, s) _ Q
  refine hm_st hR (hm_st hR (hm_st hR (hm_st hR (?_))))
  show R 196 49 [(7, .int (nI (im_K r o c kx ky))), (6, .int (nI c)), (4, .long (im_dg r 68 o cap)), (0, .ref 2), (1, .int x), (2, .int (nI o)), (3, .int (nI (2 ^ o)))] [.int 1, .int (nI (im_K r o c kx ky)), .int (nI c), .ref 2, .int (nI kx), .int (nI c), .ref 2] (N, hm_sh Ln g, s) _ Q
  refine hm_st hR ⟨hm_le rfl, rfl, hm_le rfl, hm_ltN hN rfl, hm_le rfl, hm_le rfl, (1, 6), by show 1 ≤ b.1 - 8 - 1 - 0 - 1 - 1; omega, by show 6 ≤ b.2 - 32 - 6 - 0 - 4 - 6; omega, ?_⟩
  refine sp_2 hR hN (hm_le rfl) (hm_le rfl) ?_
  refine im_AKq (im_a2 hT hS ho6 hc hN hkx hky).2 fun N g s hN hS => ?_
  show R 196 52 [(7, .int (nI (im_K r o c kx ky))), (6, .int (nI c)), (4, .long (im_dg r 68 o cap)), (0, .ref 2), (1, .int x), (2, .int (nI o)), (3, .int (nI (2 ^ o)))] [.int (nI ky), .int (nI kx), .int (nI c), .ref 2] (N, hm_sh Ln g, s) _ Q
  refine hm_st hR ⟨hm_le rfl, rfl, hm_le rfl, hm_ltN hN rfl, hm_le rfl, hm_le rfl, (1, 6), by show 1 ≤ b.1 - 8 - 1 - 0 - 1 - 1 - 1; omega, by show 6 ≤ b.2 - 32 - 6 - 0 - 4 - 6 - 6; omega, ?_⟩
  refine sp_1 hR hN (hm_le rfl) (hm_le rfl) ?_
  refine im_AKq (im_a1 hT hS ho6 hc hN hkx hky) fun N g s hN hS => ?_
  show R 196 55 [(7, .int (nI (im_K r o c kx ky))), (6, .int (nI c)), (4, .long (im_dg r 68 o cap)), (0, .ref 2), (1, .int x), (2, .int (nI o)), (3, .int (nI (2 ^ o)))] [.int (nI (im_K r o c kx ky))] (N, hm_sh Ln g, s) _ Q
  refine hm_st hR (?_)
  show R 196 57 [(7, .int (nI (im_K r o c kx ky))), (6, .int (nI c)), (4, .long (im_dg r 68 o cap)), (0, .ref 2), (1, .int x), (2, .int (nI o)), (3, .int (nI (2 ^ o)))] [.int (nI (im_K r o c kx ky)), .int (nI (im_K r o c kx ky))] (N, hm_sh Ln g, s) _ Q
  refine hm_st hR ⟨fun _ => ?_, fun cc => absurd (rfl) cc⟩
  show R 196 62 [(7, .int (nI (im_K r o c kx ky))), (6, .int (nI c)), (4, .long (im_dg r 68 o cap)), (0, .ref 2), (1, .int x), (2, .int (nI o)), (3, .int (nI (2 ^ o)))] [] (N, hm_sh Ln g, s) _ Q
  exact K (nI (im_K r o c kx ky)) N g s _ hN hS (by show b.1 ≤ b.1 - 8 - 1 - 0 - 1 - 1 - 1 - 1 + 50; omega) (by show b.2 ≤ b.2 - 32 - 6 - 0 - 4 - 6 - 6 - 6 + 200; omega)
theorem aw_b (hR : hm_Cm R) (hT : im_TI r o c cap P H V M) (hS : im_SM r s (fb_ct (im_al r) 80)) (ho1 : 1 ≤ o) (ho : o ≤ 4) (hc : c < 6) (hN : 68 ≤ N) (hb1 : 0 ≤ b.1) (hb2 : 0 ≤ b.2) {x : Int32} {kv : Int32}
    (K : ∀ (u v w h m : Nat) (b2 : hm_B), u < 2 ^ o → v < 2 ^ o → 1 ≤ w → u + w ≤ 2 ^ o → 1 ≤ h → v + h ≤ 2 ^ o → 1 ≤ m → m ≤ 5 → b.1 ≤ b2.1 + 0 → b.2 ≤ b2.2 + 0 → R 196 120 [(12, .int (nI m)), (11, .int (nI h)), (10, .int (nI w)), (9, .int (nI v)), (8, .int (nI u)), (7, .int kv), (6, .int (nI c)), (4, .long (im_dg r 68 o cap)), (0, .ref 2), (1, .int x), (2, .int (nI o)), (3, .int (nI (2 ^ o)))] [] (N, hm_sh Ln g, s) b2 Q) : R 196 62 [(7, .int kv), (6, .int (nI c)), (4, .long (im_dg r 68 o cap)), (0, .ref 2), (1, .int x), (2, .int (nI o)), (3, .int (nI (2 ^ o)))] [] (N, hm_sh Ln g, s) b Q := by
  have ho6 : o < 6 := by omega
  have pw := im_pw5 o ho6
  refine hm_st hR (hm_st hR (hm_st hR (hm_st hR (?_))))
  show R 196 66 [(7, .int kv), (6, .int (nI c)), (4, .long (im_dg r 68 o cap)), (0, .ref 2), (1, .int x), (2, .int (nI o)), (3, .int (nI (2 ^ o)))] [.int (nI (2 ^ o)), .int (x >>> (3 &&& 31))] (N, hm_sh Ln g, s) _ Q
  refine hm_st hR ⟨hm_le rfl, hm_le rfl, hm_le rfl, (0, 0), Nat.zero_le _, Nat.zero_le _, ?_⟩
  refine lw_192 hR (m := 2 ^ o) (⟨pw.2.2.2, by omega⟩) fun u hu => ?_
  show R 196 69 [(7, .int kv), (6, .int (nI c)), (4, .long (im_dg r 68 o cap)), (0, .ref 2), (1, .int x), (2, .int (nI o)), (3, .int (nI (2 ^ o)))] [.int (nI u)] (N, hm_sh Ln g, s) _ Q
  refine hm_st hR (hm_st hR (hm_st hR (hm_st hR (hm_st hR (?_)))))
  show R 196 75 [(8, .int (nI u)), (7, .int kv), (6, .int (nI c)), (4, .long (im_dg r 68 o cap)), (0, .ref 2), (1, .int x), (2, .int (nI o)), (3, .int (nI (2 ^ o)))] [.int (nI (2 ^ o)), .int (x >>> (5 &&& 31))] (N, hm_sh Ln g, s) _ Q
  refine hm_st hR ⟨hm_le rfl, hm_le rfl, hm_le rfl, (0, 0), Nat.zero_le _, Nat.zero_le _, ?_⟩
  refine lw_192 hR (m := 2 ^ o) (⟨pw.2.2.2, by omega⟩) fun v hv => ?_
  show R 196 78 [(8, .int (nI u)), (7, .int kv), (6, .int (nI c)), (4, .long (im_dg r 68 o cap)), (0, .ref 2), (1, .int x), (2, .int (nI o)), (3, .int (nI (2 ^ o)))] [.int (nI v)] (N, hm_sh Ln g, s) _ Q
  refine hm_st hR (hm_st hR (hm_st hR (hm_st hR (hm_st hR (hm_st hR (hm_st hR (hm_st hR (?_))))))))
  show R 196 88 [(9, .int (nI v)), (8, .int (nI u)), (7, .int kv), (6, .int (nI c)), (4, .long (im_dg r 68 o cap)), (0, .ref 2), (1, .int x), (2, .int (nI o)), (3, .int (nI (2 ^ o)))] [.int ((nI (2 ^ o)) - (nI u)), .int (x >>> (4 &&& 31)), .int 1] (N, hm_sh Ln g, s) _ Q
  rw [show nI (2 ^ o) - nI u = nI (2 ^ o - u) from pk_sub (by omega)]
  refine hm_st hR ⟨hm_le rfl, hm_le rfl, hm_le rfl, (0, 0), Nat.zero_le _, Nat.zero_le _, ?_⟩
  refine lw_192 hR (m := 2 ^ o - u) (by omega) fun w0 hw0 => ?_
  show R 196 91 [(9, .int (nI v)), (8, .int (nI u)), (7, .int kv), (6, .int (nI c)), (4, .long (im_dg r 68 o cap)), (0, .ref 2), (1, .int x), (2, .int (nI o)), (3, .int (nI (2 ^ o)))] [.int (nI w0), .int 1] (N, hm_sh Ln g, s) _ Q
  refine hm_st hR (?_)
  show R 196 92 [(9, .int (nI v)), (8, .int (nI u)), (7, .int kv), (6, .int (nI c)), (4, .long (im_dg r 68 o cap)), (0, .ref 2), (1, .int x), (2, .int (nI o)), (3, .int (nI (2 ^ o)))] [.int (1 + (nI w0))] (N, hm_sh Ln g, s) _ Q
  obtain ⟨w, hw⟩ : ∃ w, w = 1 + w0 := ⟨_, rfl⟩
  rw [show (1 : Int32) + nI w0 = nI w from by rw [hw]; exact nI_add 1 w0]
  refine hm_st hR (hm_st hR (hm_st hR (hm_st hR (hm_st hR (hm_st hR (hm_st hR (hm_st hR (?_))))))))
  show R 196 103 [(10, .int (nI w)), (9, .int (nI v)), (8, .int (nI u)), (7, .int kv), (6, .int (nI c)), (4, .long (im_dg r 68 o cap)), (0, .ref 2), (1, .int x), (2, .int (nI o)), (3, .int (nI (2 ^ o)))] [.int ((nI (2 ^ o)) - (nI v)), .int (x >>> (6 &&& 31)), .int 1] (N, hm_sh Ln g, s) _ Q
  rw [show nI (2 ^ o) - nI v = nI (2 ^ o - v) from pk_sub (by omega)]
  refine hm_st hR ⟨hm_le rfl, hm_le rfl, hm_le rfl, (0, 0), Nat.zero_le _, Nat.zero_le _, ?_⟩
  refine lw_192 hR (m := 2 ^ o - v) (by omega) fun h0 hh0 => ?_
  show R 196 106 [(10, .int (nI w)), (9, .int (nI v)), (8, .int (nI u)), (7, .int kv), (6, .int (nI c)), (4, .long (im_dg r 68 o cap)), (0, .ref 2), (1, .int x), (2, .int (nI o)), (3, .int (nI (2 ^ o)))] [.int (nI h0), .int 1] (N, hm_sh Ln g, s) _ Q
  refine hm_st hR (?_)
  show R 196 107 [(10, .int (nI w)), (9, .int (nI v)), (8, .int (nI u)), (7, .int kv), (6, .int (nI c)), (4, .long (im_dg r 68 o cap)), (0, .ref 2), (1, .int x), (2, .int (nI o)), (3, .int (nI (2 ^ o)))] [.int (1 + (nI h0))] (N, hm_sh Ln g, s) _ Q
  obtain ⟨h, hh⟩ : ∃ h, h = 1 + h0 := ⟨_, rfl⟩
  rw [show (1 : Int32) + nI h0 = nI h from by rw [hh]; exact nI_add 1 h0]
  refine hm_st hR (hm_st hR (hm_st hR (hm_st hR (hm_st hR (hm_st hR (?_))))))
  show R 196 114 [(11, .int (nI h)), (10, .int (nI w)), (9, .int (nI v)), (8, .int (nI u)), (7, .int kv), (6, .int (nI c)), (4, .long (im_dg r 68 o cap)), (0, .ref 2), (1, .int x), (2, .int (nI o)), (3, .int (nI (2 ^ o)))] [.int (nI 5), .int (x >>> (2 &&& 31)), .int 1] (N, hm_sh Ln g, s) _ Q
  refine hm_st hR ⟨hm_le rfl, hm_le rfl, hm_le rfl, (0, 0), Nat.zero_le _, Nat.zero_le _, ?_⟩
  refine lw_192 hR (m := 5) (by omega) fun m0 hm0 => ?_
  show R 196 117 [(11, .int (nI h)), (10, .int (nI w)), (9, .int (nI v)), (8, .int (nI u)), (7, .int kv), (6, .int (nI c)), (4, .long (im_dg r 68 o cap)), (0, .ref 2), (1, .int x), (2, .int (nI o)), (3, .int (nI (2 ^ o)))] [.int (nI m0), .int 1] (N, hm_sh Ln g, s) _ Q
  refine hm_st hR (?_)
  show R 196 118 [(11, .int (nI h)), (10, .int (nI w)), (9, .int (nI v)), (8, .int (nI u)), (7, .int kv), (6, .int (nI c)), (4, .long (im_dg r 68 o cap)), (0, .ref 2), (1, .int x), (2, .int (nI o)), (3, .int (nI (2 ^ o)))] [.int (1 + (nI m0))] (N, hm_sh Ln g, s) _ Q
  obtain ⟨m, hm⟩ : ∃ m, m = 1 + m0 := ⟨_, rfl⟩
  rw [show (1 : Int32) + nI m0 = nI m from by rw [hm]; exact nI_add 1 m0]
  refine hm_st hR (?_)
  show R 196 120 [(12, .int (nI m)), (11, .int (nI h)), (10, .int (nI w)), (9, .int (nI v)), (8, .int (nI u)), (7, .int kv), (6, .int (nI c)), (4, .long (im_dg r 68 o cap)), (0, .ref 2), (1, .int x), (2, .int (nI o)), (3, .int (nI (2 ^ o)))] [] (N, hm_sh Ln g, s) _ Q
  exact K u v w h m _ hu hv (by omega) (by omega) (by omega) (by omega) (by omega) (by omega) (by show b.1 ≤ b.1 - 0 - 0 - 0 - 0 - 0 + 0; omega) (by show b.2 ≤ b.2 - 0 - 0 - 0 - 0 - 0 + 0; omega)
theorem aw_c (hR : hm_Cm R) (hT : im_TI r o c cap P H V M) (hS : im_SM r s (fb_ct (im_al r) 80)) (ho1 : 1 ≤ o) (ho : o ≤ 4) (hc : c < 6) (hN : 68 ≤ N) (hb1 : 50 ≤ b.1) (hb2 : 200 ≤ b.2) {x : Int32} {kv : Int32} {u v w h m : Nat} (hu : u < 2 ^ o) (hv : v < 2 ^ o) (hw : 1 ≤ w) (hw2 : u + w ≤ 2 ^ o) (hh : 1 ≤ h) (hh2 : v + h ≤ 2 ^ o) (hm1 : 1 ≤ m) (hm5 : m ≤ 5)
    (K :  ∀ (N : Nat) (g : Nat → hm_Sh) (s : hm_St) (b2 : hm_B), 68 ≤ N → im_SM r s (fb_ct (im_al r) 80) → b.1 ≤ b2.1 + 50 → b.2 ≤ b2.2 + 200 → R 196 267 [(12, .int (nI m)), (11, .int (nI h)), (10, .int (nI w)), (9, .int (nI v)), (8, .int (nI u)), (7, .int kv), (6, .int (nI c)), (4, .long (im_dg r 68 o cap)), (0, .ref 2), (1, .int x), (2, .int (nI o)), (3, .int (nI (2 ^ o)))] [] (N, hm_sh Ln g, s) b2 Q) : R 196 120 [(12, .int (nI m)), (11, .int (nI h)), (10, .int (nI w)), (9, .int (nI v)), (8, .int (nI u)), (7, .int kv), (6, .int (nI c)), (4, .long (im_dg r 68 o cap)), (0, .ref 2), (1, .int x), (2, .int (nI o)), (3, .int (nI (2 ^ o)))] [] (N, hm_sh Ln g, s) b Q := by
  have ho6 : o < 6 := by omega
  have pw := im_pw5 o ho6
  obtain ⟨Z, fl, hF, hC⟩ := hT.1.2.2.1
  have hZ := im_Zn hF
  refine hm_st hR (hm_st hR (hm_st hR (hm_st hR (hm_st hR (hm_st hR (hm_st hR (?_)))))))
  show R 196 132 [(12, .int (nI m)), (11, .int (nI h)), (10, .int (nI w)), (9, .int (nI v)), (8, .int (nI u)), (7, .int kv), (6, .int (nI c)), (4, .long (im_dg r 68 o cap)), (0, .ref 2), (1, .int x), (2, .int (nI o)), (3, .int (nI (2 ^ o)))] [.int 0, .int (nI m), .int (nI h), .int (nI w), .int (nI v), .int (nI u), .ref 2] (N, hm_sh Ln g, s) _ Q
  refine hm_st hR ⟨hm_le rfl, rfl, hm_le rfl, hm_ltN hN rfl, hm_le rfl, hm_le rfl, (2, 10), by show 2 ≤ b.1; omega, by show 10 ≤ b.2; omega, ?_⟩
  refine sp_12 hR hN (hm_le rfl) (hm_le rfl) ?_
  refine im_AKq (im_a12 hT hS ho6 hN (most := m) hm1 (by omega) hu hv hw hw2 hh hh2).1 fun N g s hN hS => ?_
  show R 196 135 [(12, .int (nI m)), (11, .int (nI h)), (10, .int (nI w)), (9, .int (nI v)), (8, .int (nI u)), (7, .int kv), (6, .int (nI c)), (4, .long (im_dg r 68 o cap)), (0, .ref 2), (1, .int x), (2, .int (nI o)), (3, .int (nI (2 ^ o)))] [.int (nI (im_Wd r o c u v w h m).1)] (N, hm_sh Ln g, s) _ Q
  refine hm_st hR (?_)
  show R 196 137 [(12, .int (nI m)), (11, .int (nI h)), (10, .int (nI w)), (9, .int (nI v)), (8, .int (nI u)), (7, .int kv), (6, .int (nI c)), (4, .long (im_dg r 68 o cap)), (0, .ref 2), (1, .int x), (2, .int (nI o)), (3, .int (nI (2 ^ o)))] [.int (nI m), .int (nI (im_Wd r o c u v w h m).1)] (N, hm_sh Ln g, s) _ Q
  refine hm_st hR ⟨fun cc => absurd cc (nI_nlt (im_WdS hm1).1 (by omega)), fun _ => ?_⟩
  show R 196 140 [(12, .int (nI m)), (11, .int (nI h)), (10, .int (nI w)), (9, .int (nI v)), (8, .int (nI u)), (7, .int kv), (6, .int (nI c)), (4, .long (im_dg r 68 o cap)), (0, .ref 2), (1, .int x), (2, .int (nI o)), (3, .int (nI (2 ^ o)))] [] (N, hm_sh Ln g, s) _ Q
  refine hm_st hR (hm_st hR (hm_st hR (hm_st hR (hm_st hR (hm_st hR (hm_st hR (?_)))))))
  show R 196 152 [(12, .int (nI m)), (11, .int (nI h)), (10, .int (nI w)), (9, .int (nI v)), (8, .int (nI u)), (7, .int kv), (6, .int (nI c)), (4, .long (im_dg r 68 o cap)), (0, .ref 2), (1, .int x), (2, .int (nI o)), (3, .int (nI (2 ^ o)))] [.int 0, .int (nI m), .int (nI h), .int (nI w), .int (nI v), .int (nI u), .ref 2] (N, hm_sh Ln g, s) _ Q
  refine hm_st hR ⟨hm_le rfl, rfl, hm_le rfl, hm_ltN hN rfl, hm_le rfl, hm_le rfl, (2, 10), by show 2 ≤ b.1 - 2; omega, by show 10 ≤ b.2 - 10; omega, ?_⟩
  refine sp_12 hR hN (hm_le rfl) (hm_le rfl) ?_
  refine im_AKq (im_a12 hT hS ho6 hN (most := m) hm1 (by omega) hu hv hw hw2 hh hh2).1 fun N g s hN hS => ?_
  show R 196 155 [(12, .int (nI m)), (11, .int (nI h)), (10, .int (nI w)), (9, .int (nI v)), (8, .int (nI u)), (7, .int kv), (6, .int (nI c)), (4, .long (im_dg r 68 o cap)), (0, .ref 2), (1, .int x), (2, .int (nI o)), (3, .int (nI (2 ^ o)))] [.int (nI (im_Wd r o c u v w h m).1)] (N, hm_sh Ln g, s) _ Q
  refine hm_st hR (hm_st hR (hm_st hR (hm_st hR (hm_st hR (hm_st hR (?_))))))
  show R 196 166 [(12, .int (nI m)), (11, .int (nI h)), (10, .int (nI w)), (9, .int (nI v)), (8, .int (nI u)), (7, .int kv), (6, .int (nI c)), (4, .long (im_dg r 68 o cap)), (0, .ref 2), (1, .int x), (2, .int (nI o)), (3, .int (nI (2 ^ o)))] [.int (nI h), .int (nI w), .int (nI v), .int (nI u), .int (nI c), .ref 2, .int (nI (im_Wd r o c u v w h m).1)] (N, hm_sh Ln g, s) _ Q
  refine hm_st hR ⟨hm_le rfl, rfl, hm_le rfl, hm_ltN hN rfl, hm_le rfl, hm_le rfl, (2, 10), by show 2 ≤ b.1 - 2 - 2; omega, by show 10 ≤ b.2 - 10 - 10; omega, ?_⟩
  refine sp_3 hR hN (hm_le rfl) (hm_le rfl) ?_
  refine im_AKq (im_a3 hT hS ho6 hc hN hu hv hw hw2 hh hh2) fun N g s hN hS => ?_
  show R 196 169 [(12, .int (nI m)), (11, .int (nI h)), (10, .int (nI w)), (9, .int (nI v)), (8, .int (nI u)), (7, .int kv), (6, .int (nI c)), (4, .long (im_dg r 68 o cap)), (0, .ref 2), (1, .int x), (2, .int (nI o)), (3, .int (nI (2 ^ o)))] [.int (nI (im_W0 r o c u v w h).1), .int (nI (im_Wd r o c u v w h m).1)] (N, hm_sh Ln g, s) _ Q
  refine hm_st hR ⟨fun cc => absurd cc (nI_nlt (im_WdS (most := m) hm1).2.1 (by have := (im_WdS (s := r) (o := o) (c := c) (u := u) (v := v) (w := w) (h := h) (most := m) hm1).2.2; omega)), fun _ => ?_⟩
  show R 196 172 [(12, .int (nI m)), (11, .int (nI h)), (10, .int (nI w)), (9, .int (nI v)), (8, .int (nI u)), (7, .int kv), (6, .int (nI c)), (4, .long (im_dg r 68 o cap)), (0, .ref 2), (1, .int x), (2, .int (nI o)), (3, .int (nI (2 ^ o)))] [] (N, hm_sh Ln g, s) _ Q
  refine hm_st hR (hm_st hR (hm_st hR (hm_st hR (hm_st hR (hm_st hR (hm_st hR (hm_st hR (?_))))))))
  show R 196 185 [(12, .int (nI m)), (11, .int (nI h)), (10, .int (nI w)), (9, .int (nI v)), (8, .int (nI u)), (7, .int kv), (6, .int (nI c)), (4, .long (im_dg r 68 o cap)), (0, .ref 2), (1, .int x), (2, .int (nI o)), (3, .int (nI (2 ^ o)))] [.int ((nI m) + 1), .int (nI h), .int (nI w), .int (nI v), .int (nI u), .ref 2] (N, hm_sh Ln g, s) _ Q
  rw [nI_1]
  refine hm_st hR (?_)
  show R 196 186 [(12, .int (nI m)), (11, .int (nI h)), (10, .int (nI w)), (9, .int (nI v)), (8, .int (nI u)), (7, .int kv), (6, .int (nI c)), (4, .long (im_dg r 68 o cap)), (0, .ref 2), (1, .int x), (2, .int (nI o)), (3, .int (nI (2 ^ o)))] [.int 1, .int (nI (m + 1)), .int (nI h), .int (nI w), .int (nI v), .int (nI u), .ref 2] (N, hm_sh Ln g, s) _ Q
  refine hm_st hR ⟨hm_le rfl, rfl, hm_le rfl, hm_ltN hN rfl, hm_le rfl, hm_le rfl, (2, 10), by show 2 ≤ b.1 - 2 - 2 - 2; omega, by show 10 ≤ b.2 - 10 - 10 - 10; omega, ?_⟩
  refine sp_12 hR hN (hm_le rfl) (hm_le rfl) ?_
  refine im_AKq (im_a12 hT hS ho6 hN (most := (m + 1)) (by omega) (by omega) hu hv hw hw2 hh hh2).2 fun N g s hN hS => ?_
  show R 196 189 [(12, .int (nI m)), (11, .int (nI h)), (10, .int (nI w)), (9, .int (nI v)), (8, .int (nI u)), (7, .int kv), (6, .int (nI c)), (4, .long (im_dg r 68 o cap)), (0, .ref 2), (1, .int x), (2, .int (nI o)), (3, .int (nI (2 ^ o)))] [.int (nI (im_Wd r o c u v w h (m + 1)).2.2.2)] (N, hm_sh Ln g, s) _ Q
  refine hm_st hR (hm_st hR (hm_st hR (hm_st hR (hm_st hR (hm_st hR (hm_st hR (?_)))))))
  show R 196 201 [(12, .int (nI m)), (11, .int (nI h)), (10, .int (nI w)), (9, .int (nI v)), (8, .int (nI u)), (7, .int kv), (6, .int (nI c)), (4, .long (im_dg r 68 o cap)), (0, .ref 2), (1, .int x), (2, .int (nI o)), (3, .int (nI (2 ^ o)))] [.int 1, .int (nI m), .int (nI h), .int (nI w), .int (nI v), .int (nI u), .ref 2, .int (nI (im_Wd r o c u v w h (m + 1)).2.2.2)] (N, hm_sh Ln g, s) _ Q
  refine hm_st hR ⟨hm_le rfl, rfl, hm_le rfl, hm_ltN hN rfl, hm_le rfl, hm_le rfl, (2, 10), by show 2 ≤ b.1 - 2 - 2 - 2 - 2; omega, by show 10 ≤ b.2 - 10 - 10 - 10 - 10; omega, ?_⟩
  refine sp_12 hR hN (hm_le rfl) (hm_le rfl) ?_
  refine im_AKq (im_a12 hT hS ho6 hN (most := m) hm1 (by omega) hu hv hw hw2 hh hh2).2 fun N g s hN hS => ?_
  show R 196 204 [(12, .int (nI m)), (11, .int (nI h)), (10, .int (nI w)), (9, .int (nI v)), (8, .int (nI u)), (7, .int kv), (6, .int (nI c)), (4, .long (im_dg r 68 o cap)), (0, .ref 2), (1, .int x), (2, .int (nI o)), (3, .int (nI (2 ^ o)))] [.int (nI (im_Wd r o c u v w h m).2.2.2), .int (nI (im_Wd r o c u v w h (m + 1)).2.2.2)] (N, hm_sh Ln g, s) _ Q
  refine hm_st hR ⟨fun cc => absurd cc (nI_nlt (im_WdF (Z := 0) ho6 hm1).1 (by have := (im_WdF (s := r) (o := o) (c := c) (u := u) (v := v) (w := w) (h := h) (most := m) (Z := 0) ho6 hm1).2.1; omega)), fun _ => ?_⟩
  show R 196 207 [(12, .int (nI m)), (11, .int (nI h)), (10, .int (nI w)), (9, .int (nI v)), (8, .int (nI u)), (7, .int kv), (6, .int (nI c)), (4, .long (im_dg r 68 o cap)), (0, .ref 2), (1, .int x), (2, .int (nI o)), (3, .int (nI (2 ^ o)))] [] (N, hm_sh Ln g, s) _ Q
  refine hm_st hR (hm_st hR (hm_st hR (hm_st hR (hm_st hR (hm_st hR (hm_st hR (hm_st hR (?_))))))))
  show R 196 220 [(12, .int (nI m)), (11, .int (nI h)), (10, .int (nI w)), (9, .int (nI v)), (8, .int (nI u)), (7, .int kv), (6, .int (nI c)), (4, .long (im_dg r 68 o cap)), (0, .ref 2), (1, .int x), (2, .int (nI o)), (3, .int (nI (2 ^ o)))] [.int ((nI m) + 1), .int (nI h), .int (nI w), .int (nI v), .int (nI u), .ref 2] (N, hm_sh Ln g, s) _ Q
  rw [nI_1]
  refine hm_st hR (?_)
  show R 196 221 [(12, .int (nI m)), (11, .int (nI h)), (10, .int (nI w)), (9, .int (nI v)), (8, .int (nI u)), (7, .int kv), (6, .int (nI c)), (4, .long (im_dg r 68 o cap)), (0, .ref 2), (1, .int x), (2, .int (nI o)), (3, .int (nI (2 ^ o)))] [.int 2, .int (nI (m + 1)), .int (nI h), .int (nI w), .int (nI v), .int (nI u), .ref 2] (N, hm_sh Ln g, s) _ Q
  refine hm_st hR ⟨hm_le rfl, rfl, hm_le rfl, hm_ltN hN rfl, hm_le rfl, hm_le rfl, (2, 10), by show 2 ≤ b.1 - 2 - 2 - 2 - 2 - 2; omega, by show 10 ≤ b.2 - 10 - 10 - 10 - 10 - 10; omega, ?_⟩
  refine sp_12 hR hN (hm_le rfl) (hm_le rfl) ?_
  refine im_AKq (im_a122 hT hS ho6 hN hF (most := (m + 1)) (by omega) (by omega) hu hv hw hw2 hh hh2) fun N g s hN hS => ?_
  show R 196 224 [(12, .int (nI m)), (11, .int (nI h)), (10, .int (nI w)), (9, .int (nI v)), (8, .int (nI u)), (7, .int kv), (6, .int (nI c)), (4, .long (im_dg r 68 o cap)), (0, .ref 2), (1, .int x), (2, .int (nI o)), (3, .int (nI (2 ^ o)))] [.int (nI (fb_ct (im_cw (im_pg r) (im_Wd r o c u v w h (m + 1))) Z))] (N, hm_sh Ln g, s) _ Q
  refine hm_st hR (hm_st hR (hm_st hR (hm_st hR (hm_st hR (hm_st hR (hm_st hR (?_)))))))
  show R 196 236 [(12, .int (nI m)), (11, .int (nI h)), (10, .int (nI w)), (9, .int (nI v)), (8, .int (nI u)), (7, .int kv), (6, .int (nI c)), (4, .long (im_dg r 68 o cap)), (0, .ref 2), (1, .int x), (2, .int (nI o)), (3, .int (nI (2 ^ o)))] [.int 2, .int (nI m), .int (nI h), .int (nI w), .int (nI v), .int (nI u), .ref 2, .int (nI (fb_ct (im_cw (im_pg r) (im_Wd r o c u v w h (m + 1))) Z))] (N, hm_sh Ln g, s) _ Q
  refine hm_st hR ⟨hm_le rfl, rfl, hm_le rfl, hm_ltN hN rfl, hm_le rfl, hm_le rfl, (2, 10), by show 2 ≤ b.1 - 2 - 2 - 2 - 2 - 2 - 2; omega, by show 10 ≤ b.2 - 10 - 10 - 10 - 10 - 10 - 10; omega, ?_⟩
  refine sp_12 hR hN (hm_le rfl) (hm_le rfl) ?_
  refine im_AKq (im_a122 hT hS ho6 hN hF (most := m) hm1 (by omega) hu hv hw hw2 hh hh2) fun N g s hN hS => ?_
  show R 196 239 [(12, .int (nI m)), (11, .int (nI h)), (10, .int (nI w)), (9, .int (nI v)), (8, .int (nI u)), (7, .int kv), (6, .int (nI c)), (4, .long (im_dg r 68 o cap)), (0, .ref 2), (1, .int x), (2, .int (nI o)), (3, .int (nI (2 ^ o)))] [.int (nI (fb_ct (im_cw (im_pg r) (im_Wd r o c u v w h m)) Z)), .int (nI (fb_ct (im_cw (im_pg r) (im_Wd r o c u v w h (m + 1))) Z))] (N, hm_sh Ln g, s) _ Q
  refine hm_st hR ⟨fun cc => absurd cc (nI_nlt ((im_WdF ho6 hm1).2.2 (fun k j hkj hj => im_pgm hF hkj hj)) (by have := fb_ct_le (im_cw (im_pg r) (im_Wd r o c u v w h m)) Z; omega)), fun _ => ?_⟩
  show R 196 242 [(12, .int (nI m)), (11, .int (nI h)), (10, .int (nI w)), (9, .int (nI v)), (8, .int (nI u)), (7, .int kv), (6, .int (nI c)), (4, .long (im_dg r 68 o cap)), (0, .ref 2), (1, .int x), (2, .int (nI o)), (3, .int (nI (2 ^ o)))] [] (N, hm_sh Ln g, s) _ Q
  refine hm_st hR (hm_st hR (hm_st hR (hm_st hR (hm_st hR (hm_st hR (hm_st hR (?_)))))))
  show R 196 254 [(12, .int (nI m)), (11, .int (nI h)), (10, .int (nI w)), (9, .int (nI v)), (8, .int (nI u)), (7, .int kv), (6, .int (nI c)), (4, .long (im_dg r 68 o cap)), (0, .ref 2), (1, .int x), (2, .int (nI o)), (3, .int (nI (2 ^ o)))] [.int 2, .int (nI 99), .int (nI h), .int (nI w), .int (nI v), .int (nI u), .ref 2] (N, hm_sh Ln g, s) _ Q
  refine hm_st hR ⟨hm_le rfl, rfl, hm_le rfl, hm_ltN hN rfl, hm_le rfl, hm_le rfl, (2, 10), by show 2 ≤ b.1 - 2 - 2 - 2 - 2 - 2 - 2 - 2; omega, by show 10 ≤ b.2 - 10 - 10 - 10 - 10 - 10 - 10 - 10; omega, ?_⟩
  refine sp_12 hR hN (hm_le rfl) (hm_le rfl) ?_
  refine im_AKq (im_a122 hT hS ho6 hN hF (most := 99) (by omega) (by omega) hu hv hw hw2 hh hh2) fun N g s hN hS => ?_
  show R 196 257 [(12, .int (nI m)), (11, .int (nI h)), (10, .int (nI w)), (9, .int (nI v)), (8, .int (nI u)), (7, .int kv), (6, .int (nI c)), (4, .long (im_dg r 68 o cap)), (0, .ref 2), (1, .int x), (2, .int (nI o)), (3, .int (nI (2 ^ o)))] [.int (nI (fb_ct (im_cw (im_pg r) (im_Wd r o c u v w h 99)) Z))] (N, hm_sh Ln g, s) _ Q
  refine hm_st hR (hm_st hR (?_))
  show R 196 259 [(12, .int (nI m)), (11, .int (nI h)), (10, .int (nI w)), (9, .int (nI v)), (8, .int (nI u)), (7, .int kv), (6, .int (nI c)), (4, .long (im_dg r 68 o cap)), (0, .ref 2), (1, .int x), (2, .int (nI o)), (3, .int (nI (2 ^ o)))] [.int 5, .ref 2, .int (nI (fb_ct (im_cw (im_pg r) (im_Wd r o c u v w h 99)) Z))] (N, hm_sh Ln g, s) _ Q
  refine hm_st hR ⟨hm_le rfl, rfl, hm_le rfl, hm_ltN hN rfl, hm_le rfl, hm_le rfl, (1, 6), by show 1 ≤ b.1 - 2 - 2 - 2 - 2 - 2 - 2 - 2 - 2; omega, by show 6 ≤ b.2 - 10 - 10 - 10 - 10 - 10 - 10 - 10 - 10; omega, ?_⟩
  refine sp_11 hR hN (hm_le rfl) (hm_le rfl) ?_
  refine im_AKq (im_a115 hS hN hF) fun N g s hN hS => ?_
  show R 196 262 [(12, .int (nI m)), (11, .int (nI h)), (10, .int (nI w)), (9, .int (nI v)), (8, .int (nI u)), (7, .int kv), (6, .int (nI c)), (4, .long (im_dg r 68 o cap)), (0, .ref 2), (1, .int x), (2, .int (nI o)), (3, .int (nI (2 ^ o)))] [.int (nI Z), .int (nI (fb_ct (im_cw (im_pg r) (im_Wd r o c u v w h 99)) Z))] (N, hm_sh Ln g, s) _ Q
  refine hm_st hR ⟨fun _ => ?_, fun cc => absurd (nI_le (fb_ct_le _ Z) (by omega)) cc⟩
  show R 196 267 [(12, .int (nI m)), (11, .int (nI h)), (10, .int (nI w)), (9, .int (nI v)), (8, .int (nI u)), (7, .int kv), (6, .int (nI c)), (4, .long (im_dg r 68 o cap)), (0, .ref 2), (1, .int x), (2, .int (nI o)), (3, .int (nI (2 ^ o)))] [] (N, hm_sh Ln g, s) _ Q
  exact K N g s _ hN hS (by show b.1 ≤ b.1 - 2 - 2 - 2 - 2 - 2 - 2 - 2 - 2 - 1 + 50; omega) (by show b.2 ≤ b.2 - 10 - 10 - 10 - 10 - 10 - 10 - 10 - 10 - 6 + 200; omega)
end ImL1
