/-! Throws, boxes made. -/
abbrev hm_Er (α : Type) : Type := Nat × α × Nat × (Nat → hm_Sh) × hm_St
/-- cells from N on are forgotten -/
def hm_gu (g : Nat → hm_Sh) (N : Nat) : Nat → hm_Sh := fun i => if i < N then g i else (2000, 0, fun _ => none)
/-- a box at N -/
def hm_gb (g : Nat → hm_Sh) (N : Nat) : Nat → hm_Sh := fun i => if i = N then (0, 0, fun _ => none) else g i
def hm_sn (s : hm_St) (N : Nat) : hm_St := fun i => if i = N then (fun _ => 0) else s i
def hm_qx {α : Type} (Q : hm_Q) (L : Nat) (f : α → Option Value) (e : hm_Er α) : Prop := match e.1 with
  | 0 => Q (.inr (f e.2.1)) (e.2.2.1, hm_sh L e.2.2.2.1, e.2.2.2.2)
  | x + 1 => ∀ N2, e.2.2.1 ≤ N2 → Q (.inl (hm_xn x)) (N2, hm_sh L (hm_gu e.2.2.2.1 e.2.2.1), e.2.2.2.2)
theorem hm_shlt {L : Nat} {g : Nat → hm_Sh} {i : Nat} (h : i < 68) : hm_sh L g i = hm_sh0 L i := by
  unfold hm_sh
  rw [Nat.blt_eq.mpr h] <;> rfl
theorem hm_shge {L : Nat} {g : Nat → hm_Sh} {i : Nat} (h : ¬ i < 68) : hm_sh L g i = g i := by
  unfold hm_sh
  rw [if_neg (fun q => h (Nat.blt_eq.mp q))]
theorem hm_unkE {L N N2 : Nat} {g : Nat → hm_Sh} {s : hm_St} (hN : 68 ≤ N) : hm_unk (N, hm_sh L g, s) N2 = (N2, hm_sh L (hm_gu g N), s) := by
  unfold hm_unk
  congr 2
  funext i
  by_cases h : i < 68
  · show (if i < N then hm_sh L g i else _) = hm_sh L _ i
    rw [hm_shlt h, hm_shlt h]
    exact if_pos (Nat.lt_of_lt_of_le h hN)
  · show (if i < N then hm_sh L g i else _) = hm_sh L _ i
    rw [hm_shge h, hm_shge h]
    rfl
theorem hm_mkE {L N : Nat} {g : Nat → hm_Sh} {s : hm_St} (hN : 68 ≤ N) : hm_mk (N, hm_sh L g, s) 0 0 = (N + 1, hm_sh L (hm_gb g N), hm_sn s N) := by
  unfold hm_mk
  congr 2
  funext i
  by_cases h : i < 68
  · show (if i = N then _ else hm_sh L g i) = hm_sh L _ i
    rw [hm_shlt h, hm_shlt h]
    exact if_neg (Nat.ne_of_lt (Nat.lt_of_lt_of_le h hN))
  · show (if i = N then _ else hm_sh L g i) = hm_sh L _ i
    rw [hm_shge h, hm_shge h]
    rfl
theorem hm_gbk {L N : Nat} {g : Nat → hm_Sh} (hN : 68 ≤ N) : (hm_sh L (hm_gb g N) N).1 = 0 := by
  rw [hm_shge (Nat.not_lt.mpr hN)]
  unfold hm_gb
  rw [if_pos rfl]
theorem hm_two {N : Nat} (hN : 68 ≤ N) : 2 ≤ N := Nat.le_trans (by decide) hN
theorem hm_KX {R : hm_R} {k pc : Nat} {lv : hm_Lv} {rest : List Value} {b : hm_B} {Q : hm_Q} {E : String} {h : hm_Hp} (hk : ¬ k = 195) (H : Q (.inl E) h) : hm_K R k pc lv rest b Q (.inl E) h := by
  show (if k = 195 then _ else Q (.inl E) h)
  rw [if_neg hk]
  exact H
section HNeed
variable {R : hm_R} {N L : Nat} {g : Nat → hm_Sh} {s : hm_St} {b : hm_B} {Q : hm_Q} {x : Int32}
theorem hm_needP31 (hR : hm_Cm R) (c : ¬ x = 0) (H : Q (.inr none) (N, hm_sh L g, s)) : R 31 0 (lv_args 0 [.int x]) [] (N, hm_sh L g, s) b Q := by
  show R 31 0 [(0, .int x)] [] (N, hm_sh L g, s) b Q
  refine hm_st hR (hm_st hR ⟨fun _ => ?_, fun q => absurd q c⟩)
  show R 31 15 [(0, .int x)] [] (N, hm_sh L g, s) b Q
  exact hm_st hR H
theorem hm_needT31 (hR : hm_Cm R) (hN : 68 ≤ N) (c : x = 0) (H : ∀ N2, N ≤ N2 → Q (.inl (hm_xn 0)) (N2, hm_sh L (hm_gu g N), s)) : R 31 0 (lv_args 0 [.int x]) [] (N, hm_sh L g, s) (1, 6) Q := by
  show R 31 0 [(0, .int x)] [] (N, hm_sh L g, s) (1, 6) Q
  refine hm_st hR (hm_st hR ⟨fun q => absurd c q, fun _ => ?_⟩)
  show R 31 4 [(0, .int x)] [] (N, hm_sh L g, s) (1, 6) Q
  refine hm_st hR ⟨Nat.le_refl _, Nat.le_refl _, fun N2 h2 => ?_⟩
  rw [hm_unkE hN]
  exact H N2 h2
theorem hm_needP32 (hR : hm_Cm R) (c : ¬ x = 0) (H : Q (.inr none) (N, hm_sh L g, s)) : R 32 0 (lv_args 0 [.int x]) [] (N, hm_sh L g, s) b Q := by
  show R 32 0 [(0, .int x)] [] (N, hm_sh L g, s) b Q
  refine hm_st hR (hm_st hR ⟨fun _ => ?_, fun q => absurd q c⟩)
  show R 32 15 [(0, .int x)] [] (N, hm_sh L g, s) b Q
  exact hm_st hR H
theorem hm_needT32 (hR : hm_Cm R) (hN : 68 ≤ N) (c : x = 0) (H : ∀ N2, N ≤ N2 → Q (.inl (hm_xn 1)) (N2, hm_sh L (hm_gu g N), s)) : R 32 0 (lv_args 0 [.int x]) [] (N, hm_sh L g, s) (1, 6) Q := by
  show R 32 0 [(0, .int x)] [] (N, hm_sh L g, s) (1, 6) Q
  refine hm_st hR (hm_st hR ⟨fun q => absurd c q, fun _ => ?_⟩)
  show R 32 4 [(0, .int x)] [] (N, hm_sh L g, s) (1, 6) Q
  refine hm_st hR ⟨Nat.le_refl _, Nat.le_refl _, fun N2 h2 => ?_⟩
  rw [hm_unkE hN]
  exact H N2 h2
theorem hm_needP33 (hR : hm_Cm R) (c : ¬ x = 0) (H : Q (.inr none) (N, hm_sh L g, s)) : R 33 0 (lv_args 0 [.int x]) [] (N, hm_sh L g, s) b Q := by
  show R 33 0 [(0, .int x)] [] (N, hm_sh L g, s) b Q
  refine hm_st hR (hm_st hR ⟨fun _ => ?_, fun q => absurd q c⟩)
  show R 33 15 [(0, .int x)] [] (N, hm_sh L g, s) b Q
  exact hm_st hR H
theorem hm_needT33 (hR : hm_Cm R) (hN : 68 ≤ N) (c : x = 0) (H : ∀ N2, N ≤ N2 → Q (.inl (hm_xn 2)) (N2, hm_sh L (hm_gu g N), s)) : R 33 0 (lv_args 0 [.int x]) [] (N, hm_sh L g, s) (1, 6) Q := by
  show R 33 0 [(0, .int x)] [] (N, hm_sh L g, s) (1, 6) Q
  refine hm_st hR (hm_st hR ⟨fun q => absurd c q, fun _ => ?_⟩)
  show R 33 4 [(0, .int x)] [] (N, hm_sh L g, s) (1, 6) Q
  refine hm_st hR ⟨Nat.le_refl _, Nat.le_refl _, fun N2 h2 => ?_⟩
  rw [hm_unkE hN]
  exact H N2 h2
theorem hm_nwb (hR : hm_Cm R) (hN : 68 ≤ N) (h1 : 1 ≤ b.1) (h2 : 4 ≤ b.2) {k pc : Nat} {lv : hm_Lv} {st : List Value} {n x y z : Nat} (hi : hm_ins k pc = some (.new 0, n, x, y, z))
    (H : R k (pc + 3) lv (.ref N :: st) (N + 1, hm_sh L (hm_gb g N), hm_sn s N) (b.1 - 1, b.2 - 4) Q) : R k pc lv st (N, hm_sh L g, s) b Q := by
  refine hm_st hR ?_
  unfold hm_Step
  rw [hi]
  refine ⟨h1, h2, ?_⟩
  show R k (pc + 3) lv (.ref N :: st) (hm_mk (N, hm_sh L g, s) 0 0) (b.1 - 1, b.2 - 4) Q
  rw [hm_mkE hN]
  exact H
theorem hm_bxp (hR : hm_Cm R) {k pc : Nat} {lv : hm_Lv} {st : List Value} {bx f n z a y : Nat} {v : Int32} (hbk : (hm_sh L g bx).1 = 0) (hb2 : 2 ≤ bx) (hbl : bx < N) (hi : hm_ins k pc = some (.putfield f, n, a, y, z))
    (H : R k (pc + 3) lv st (N, hm_sh L g, hm_w1 s bx (f % 64) v) b Q) (hf : f / 64 = 0 := by first | rfl | decide) (hr : hm_isR (f / 64) (f % 64) = false := by first | rfl | decide) : R k pc lv (.int v :: .ref bx :: st) (N, hm_sh L g, s) b Q := by
  refine hm_st hR ?_
  unfold hm_Step
  rw [hi]
  exact ⟨hbk.trans hf.symm, hr, hb2, hbl, H⟩
end HNeed
theorem hm_dcg {E d i : Int32} {n : Nat} (e : E = d) (c : ¬ E ≤ i) (hm : hm_df d i < n + 1) : hm_df d (i + 1) < n := hm_dcx (e ▸ c) hm
theorem hm_pqi {Q : hm_Q} {N : Nat} {sh : Nat → hm_Sh} {v : Int32} {s : hm_St} (h : Q (.inr (some (.int (v, s).1))) (N, sh, (v, s).2)) : Q (.inr (some (.int v))) (N, sh, s) := h
theorem hm_pql {Q : hm_Q} {N : Nat} {sh : Nat → hm_Sh} {v : Int64} {s : hm_St} (h : Q (.inr (some (.long (v, s).1))) (N, sh, (v, s).2)) : Q (.inr (some (.long v))) (N, sh, s) := h
theorem hm_qx0 {α : Type} {Q : hm_Q} {L N : Nat} {f : α → Option Value} {v : α} {g : Nat → hm_Sh} {s : hm_St} (h : hm_qx Q L f (0, v, N, g, s)) : Q (.inr (f v)) (N, hm_sh L g, s) := h
theorem hm_pai {Q : hm_Q} {L N : Nat} {v : Int32} {g : Nat → hm_Sh} {s : hm_St} (h : Q (.inr (some (.int (v, N, g, s).1))) ((v, N, g, s).2.1, hm_sh L (v, N, g, s).2.2.1, (v, N, g, s).2.2.2)) : Q (.inr (some (.int v))) (N, hm_sh L g, s) := h
theorem hm_pal {Q : hm_Q} {L N : Nat} {v : Int64} {g : Nat → hm_Sh} {s : hm_St} (h : Q (.inr (some (.long (v, N, g, s).1))) ((v, N, g, s).2.1, hm_sh L (v, N, g, s).2.2.1, (v, N, g, s).2.2.2)) : Q (.inr (some (.long v))) (N, hm_sh L g, s) := h
theorem hm_snn {s : hm_St} {N c j : Nat} (h : c ≠ N) : hm_sn s N c j = s c j := by
  unfold hm_sn
  rw [if_neg h]
theorem hm_cN {N c : Nat} (hN : 68 ≤ N) (h : Nat.blt c 68 = true := by rfl) : c ≠ N := Nat.ne_of_lt (Nat.lt_of_lt_of_le (Nat.blt_eq.mp h) hN)
