/-! The law's own: below, cell. -/
section ImLw
variable {R : hm_R} {h : hm_Hp} {b : hm_B} {Q : hm_Q}
theorem im_anyI (v : Int32) : ∃ n, v = nI n := ⟨v.toBitVec.toNat, by
  apply Int32.toBitVec_inj.mp
  show v.toBitVec = BitVec.ofNat 32 v.toBitVec.toNat
  rw [BitVec.ofNat_toNat, BitVec.setWidth_eq]⟩
theorem lw_192 (hR : hm_Cm R) {v : Int32} {m : Nat} (h1 : 1 ≤ m ∧ m < 2 ^ 31) (H : ∀ q, q < m → Q (.inr (some (.int (nI q)))) h) : R 192 0 (lv_args 0 [.int v, .int (nI m)]) [] h b Q := by
  obtain ⟨n, hn⟩ := im_anyI v
  have e : v &&& 2147483647 = nI (n % 2 ^ 31) := by
    rw [hn, ← fa_mask]
    rfl
  have hm : n % 2 ^ 31 < 2 ^ 31 := Nat.mod_lt _ (by decide)
  have hr : n % 2 ^ 31 % m < m := Nat.mod_lt _ (by omega)
  show R 192 0 [(0, .int v), (1, .int (nI m))] [] h b Q
  refine hm_st hR (hm_st hR (hm_st hR (hm_st hR (?_))))
  show R 192 5 [(0, .int v), (1, .int (nI m))] [.int (nI m), .int (v &&& 2147483647)] h b Q
  rw [e]
  refine hm_st hR ⟨nI_ne0 (by omega) h1.2, ?_⟩
  show R 192 6 [(0, .int v), (1, .int (nI m))] [.int (nI (n % 2 ^ 31) - nI (n % 2 ^ 31) / nI m * nI m)] h b Q
  rw [pk_rem hm (by omega) h1.2]
  exact hm_st hR ⟨fun z => absurd z (by decide), H _ hr⟩
theorem lw_193 (hR : hm_Cm R) {N Ln j : Nat} {g : Nat → hm_Sh} {s : hm_St} (hN : 2 ≤ N) (hL : Ln < 2 ^ 31) (hj : j < 2 ^ 31) (H : ∀ v, Q (.inr (some (.int v))) (N, hm_sh Ln g, s)) : R 193 0 (lv_args 0 [.ref 1, .int (nI j)]) [] (N, hm_sh Ln g, s) b Q := by
  show R 193 0 [(0, .ref 1), (1, .int (nI j))] [] (N, hm_sh Ln g, s) b Q
  refine hm_st hR (hm_st hR (?_))
  refine hm_aln hR (nn := Ln) rfl rfl hN (by rfl) ?_
  show R 193 3 [(0, .ref 1), (1, .int (nI j))] [.int (nI Ln), .int (nI j)] (N, hm_sh Ln g, s) b Q
  refine hm_st hR ⟨fun _ => ?_, fun c => ?_⟩
  · show R 193 12 [(0, .ref 1), (1, .int (nI j))] [] (N, hm_sh Ln g, s) b Q
    refine hm_st hR (hm_st hR (hm_st hR (hm_st hR (hm_st hR (?_)))))
    show R 193 18 [(0, .ref 1), (1, .int (nI j))] [.int (790386105 * (nI j + 3))] (N, hm_sh Ln g, s) b Q
    exact hm_st hR ⟨fun z => absurd z (by decide), H _⟩
  · show R 193 6 [(0, .ref 1), (1, .int (nI j))] [] (N, hm_sh Ln g, s) b Q
    have hv : vp_in (nI j) Ln := hm_vin (nI_pos hj) c hL
    refine hm_st hR (hm_st hR (?_))
    refine hm_ald hR (nn := Ln) rfl rfl hN (by rfl) hv ?_
    show R 193 9 [(0, .ref 1), (1, .int (nI j))] [.int (s 1 (nI j).toNatClampNeg)] (N, hm_sh Ln g, s) b Q
    refine hm_st hR ?_
    show R 193 18 [(0, .ref 1), (1, .int (nI j))] [.int (s 1 (nI j).toNatClampNeg)] (N, hm_sh Ln g, s) b Q
    exact hm_st hR ⟨fun z => absurd z (by decide), H _⟩
end ImLw
