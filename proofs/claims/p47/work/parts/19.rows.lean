/-! A row is made: on any heap. -/
section HRowI
variable {R : hm_R} {N r : Nat} {sh : Nat → hm_Sh} {s : hm_St} {b : hm_B} {Q : hm_Q} {n : Int32}
theorem cp_177 (hR : hm_Cm R) (hk : (sh r).1 = 8) (h2 : 2 ≤ r) (hr : r < N) (hn : 0 ≤ n) (hn2 : n.toNatClampNeg ≤ 100000) (hb1 : 1 ≤ b.1) (hb2 : n.toNatClampNeg ≤ b.2)
    (hq : Q (.inr none) (hm_wr (hm_mk (N, sh, s) 1000 n.toNatClampNeg) r 0 (some N))) : R 177 0 (lv_args 0 [.ref r, .int n]) [] (N, sh, s) b Q := by
  show R 177 0 [(0, .ref r), (1, .int n)] [] (N, sh, s) b Q
  refine hm_st hR (hm_st hR ⟨hm_le rfl, hm_st hR (hm_st hR (hm_st hR ⟨fun _ => ?_, fun c => absurd hn c⟩))⟩)
  show R 177 13 [(0, .ref r), (1, .int n)] [.ref r] (N, sh, s) b Q
  refine hm_st hR (hm_st hR ⟨Int32.not_lt.mpr hn, hn2, hb1, hb2, ?_⟩)
  show R 177 16 [(0, .ref r), (1, .int n)] [.ref N, .ref r] (hm_mk (N, sh, s) 1000 n.toNatClampNeg) (b.1 - 1, b.2 - n.toNatClampNeg) Q
  have hk2 : ((hm_mk (N, sh, s) 1000 n.toNatClampNeg).2.1 r).1 = 512 / 64 := by
    show (if r = N then ((1000, n.toNatClampNeg, fun _ => none) : hm_Sh) else sh r).1 = _
    rw [if_neg (Nat.ne_of_lt hr), hk]
  refine hm_st hR ⟨hk2, rfl, h2, Nat.lt_succ_of_lt hr, ?_⟩
  show R 177 19 [(0, .ref r), (1, .int n)] [] (hm_wr (hm_mk (N, sh, s) 1000 n.toNatClampNeg) r 0 (some N)) (b.1 - 1, b.2 - n.toNatClampNeg) Q
  exact hm_st hR hq
end HRowI
