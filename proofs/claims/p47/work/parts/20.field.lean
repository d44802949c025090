/-! 'field = new Row(length)': on any heap. -/
def hm_nr (sh : Nat → hm_Sh) (N n me j : Nat) : Nat → hm_Sh := fun i => if i = N then (8, 0, fun q => if q = 0 then some (N + 1) else none) else if i = N + 1 then (1000, n, fun _ => none) else if i = me then ((sh me).1, (sh me).2.1, fun q => if q = j then some N else (sh me).2.2 q) else sh i
def hm_ns (s : hm_St) (N : Nat) : hm_St := fun i => if i = N then (fun _ => 0) else if i = N + 1 then (fun _ => 0) else s i
section HFld
variable {R : hm_R} {N me n j : Nat} {sh : Nat → hm_Sh} {s : hm_St} {b : hm_B} {Q : hm_Q}
theorem hm_nrE (hm : me < N) : hm_wr (hm_wr (hm_mk (hm_mk (N, sh, s) 8 0) 1000 n) N 0 (some (N + 1))) me j (some N) = (N + 2, hm_nr sh N n me j, hm_ns s N) := by
  have a1 : ¬ me = N := Nat.ne_of_lt hm
  have a2 : ¬ me = N + 1 := Nat.ne_of_lt (Nat.lt_succ_of_lt hm)
  have a3 : ¬ N = N + 1 := Nat.ne_of_lt (Nat.lt_succ_self N)
  unfold hm_wr hm_mk hm_nr hm_ns
  refine Prod.ext rfl (Prod.ext ?_ ?_)
  · funext i
    show (if i = me then _ else _) = _
    by_cases c1 : i = N
    · subst c1
      simp only [if_neg (fun q => a1 (Eq.symm q)), if_pos, if_neg a3]
    · by_cases c2 : i = N + 1
      · subst c2
        simp only [if_neg (fun q => a2 (Eq.symm q)), if_pos, if_neg c1]
      · by_cases c3 : i = me
        · subst c3
          simp only [if_pos, if_neg c1, if_neg c2]
        · simp only [if_neg c1, if_neg c2, if_neg c3]
  · funext i
    show (if i = N + 1 then _ else if i = N then _ else _) = _
    by_cases c1 : i = N
    · subst c1
      simp only [if_pos, if_neg a3]
    · by_cases c2 : i = N + 1
      · subst c2
        simp only [if_pos, if_neg c1]
      · simp only [if_neg c1, if_neg c2]
theorem hm_fld (hR : hm_Cm R) {k pc w f : Nat} {v : Int} {lv : hm_Lv} {x0 y0 z0 x1 y1 z1 x2 y2 z2 x3 y3 z3 x4 y4 z4 n0 n1 n3 n4 : Nat}
    (i0 : hm_ins k pc = some (.new 8, n0, x0, y0, z0)) (i1 : hm_ins k (pc + 3) = some (.dup, n1, x1, y1, z1)) (i2 : hm_ins k (pc + 3 + 1) = some (.iconst v, w, x2, y2, z2))
    (i3 : hm_ins k (pc + 3 + 1 + w) = some (.invokespecial 177, n3, x3, y3, z3)) (i4 : hm_ins k (pc + 3 + 1 + w + 3) = some (.putfield f, n4, x4, y4, z4))
    (hz1 : z3 / 128 % 64 = 1) (hz2 : 2 ≤ z3 / 8192) (hv : Int32.ofInt v = Int32.ofNat n) (hn : n ≤ 100000)
    (hk : (sh me).1 = f / 64) (hf : hm_isR (f / 64) (f % 64) = true) (h2 : 2 ≤ me) (hm : me < N) (hb1 : 2 ≤ b.1) (hb2 : n + 1 ≤ b.2)
    (H : R k (pc + 3 + 1 + w + 3 + 3) lv [] (N + 2, hm_nr sh N n me (f % 64), hm_ns s N) (b.1 - 1 - 1, b.2 - 1 - n) Q) : R k pc lv [.ref me] (N, sh, s) b Q := by
  have e1 : (Int32.ofNat n).toNatClampNeg = n := nI_clamp (by omega)
  have e2 : (0 : Int32) ≤ Int32.ofNat n := nI_pos' (by omega)
  refine hm_st hR ?_
  unfold hm_Step
  rw [i0]
  refine ⟨by omega, (show 1 ≤ b.2 by omega), ?_⟩
  refine hm_st hR ?_
  unfold hm_Step
  rw [i1]
  refine ⟨rfl, ?_⟩
  refine hm_st hR ?_
  unfold hm_Step
  rw [i2]
  show R k (pc + 3 + 1 + w) lv [.int (Int32.ofInt v), .ref N, .ref N, .ref me] (hm_mk (N, sh, s) 8 0) (b.1 - 1, b.2 - 1) Q
  rw [hv]
  refine hm_st hR ?_
  unfold hm_Step
  rw [i3]
  show hm_CallI R k (pc + 3 + 1 + w) 177 z3 lv [.int (Int32.ofNat n), .ref N, .ref N, .ref me] (hm_mk (N, sh, s) 8 0) (b.1 - 1, b.2 - 1) Q
  unfold hm_CallI
  rw [hz1]
  refine ⟨hm_le rfl, Nat.le_trans h2 (Nat.le_of_lt hm), hm_le rfl, hz2, (1, n), (show 1 ≤ b.1 - 1 by omega), (show n ≤ b.2 - 1 by omega), ?_⟩
  refine cp_177 hR (by show (if N = N then ((8, 0, fun _ => none) : hm_Sh) else sh N).1 = 8; rw [if_pos rfl]) (Nat.le_trans h2 (Nat.le_of_lt hm)) (Nat.lt_succ_self N) e2 (by rw [e1]; exact hn) (Nat.le_refl _) (by rw [e1]; exact Nat.le_refl _) ?_
  rw [e1]
  show R k (pc + 3 + 1 + w + 3) lv [.ref N, .ref me] (hm_wr (hm_mk (hm_mk (N, sh, s) 8 0) 1000 n) N 0 (some (N + 1))) (b.1 - 1 - 1, b.2 - 1 - n) Q
  refine hm_st hR ?_
  unfold hm_Step
  rw [i4]
  refine ⟨?_, hf, h2, Nat.lt_succ_of_lt (Nat.lt_succ_of_lt hm), ?_⟩
  · show (if me = N then _ else if me = N + 1 then _ else if me = N then _ else sh me).1 = _
    rw [if_neg (Nat.ne_of_lt hm), if_neg (Nat.ne_of_lt (Nat.lt_succ_of_lt hm)), if_neg (Nat.ne_of_lt hm)]
    exact hk
  · rw [hm_nrE hm]
    exact H
end HFld
