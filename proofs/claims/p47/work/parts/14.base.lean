/-! Steps of the abstract machine, for walks. -/
abbrev hm_St : Type := Nat → Nat → Int32
def hm_w1 (s : hm_St) (a j : Nat) (x : Int32) : hm_St := fun i => if i = a then (fun q => if q = j then x else s i q) else s i
abbrev hm_df (x y : Int32) : Nat := (x.toInt - y.toInt).toNat
abbrev hm_df1 (x y : Int32) : Nat := (x.toInt + 1 - y.toInt).toNat
theorem hm_w1n {s : hm_St} {a i : Nat} {x : Int32} {c j : Nat} (h : c ≠ a) : hm_w1 s a i x c j = s c j := by unfold hm_w1; rw [if_neg h]
def hm_max (x y : Int32) : Int32 := if x < y then y else x
def hm_min (x y : Int32) : Int32 := if y < x then y else x
def hm_abs (x : Int32) : Int32 := if 0 ≤ x then x else 0 - x
def hm_Cm (R : hm_R) : Prop := hm_Cl R ∧ ∀ k pc lv lv' st h b Q, (∀ q ∈ lv', q ∈ lv) → R k pc lv' st h b Q → R k pc lv st h b Q
theorem hm_LF_cm {l : Launch} {D : va_G} {cI : ClassId} {B t0 bs L : Nat} {xs : Nat → Int32} (hfl : l.stackTraces = false) : hm_Cm (hm_LF l D cI B t0 bs L xs) := by
  refine ⟨hm_LF_cl hfl, fun k pc lv lv' st h b Q hs H => ?_⟩
  intro p e s m args below meth c Hp locs cells slots mc ms ls C hW hC2 hz hS hl hcb hsb
  refine H p e s m args below meth c Hp locs cells slots mc ms ls C hW hC2 hz hS (hm_hasSub hl fun q hq => ?_) hcb hsb
  obtain ⟨w, hw, rfl⟩ := List.mem_map.mp hq
  exact List.mem_map.mpr ⟨w, hs w hw, rfl⟩
theorem hm_st {R : hm_R} (hR : hm_Cm R) {k pc : Nat} {lv : hm_Lv} {st : List Value} {h : hm_Hp} {b : hm_B} {Q : hm_Q} (H : hm_Step R k pc lv st h b Q) : R k pc lv st h b Q := hR.1.1 k pc lv st h b Q H
theorem hm_lvS {R : hm_R} (hR : hm_Cm R) {k pc : Nat} {lv lv' : hm_Lv} {st : List Value} {h : hm_Hp} {b : hm_B} {Q : hm_Q} (hs : ∀ q ∈ lv', q ∈ lv) (H : R k pc lv' st h b Q) : R k pc lv st h b Q := hR.2 k pc lv lv' st h b Q hs H
theorem hm_le {a b : Nat} (h : Nat.ble a b = true) : a ≤ b := Nat.le_of_ble_eq_true h
theorem hm_ltN {a N : Nat} (hN : 68 ≤ N) (h : Nat.ble a 67 = true) : a < N := Nat.lt_of_le_of_lt (Nat.le_of_ble_eq_true h) hN
theorem hm_goE {R : hm_R} {k t t' : Nat} {lv : hm_Lv} {st : List Value} {h : hm_Hp} {b : hm_B} {Q : hm_Q} (e : t = t') (H : R k t' lv st h b Q) : R k t lv st h b Q := e ▸ H
theorem hm_dcx {E i : Int32} {n : Nat} (c : ¬ E ≤ i) (hm : (E.toInt - i.toInt).toNat < n + 1) : (E.toInt - (i + 1).toInt).toNat < n := by
  have h1 : ¬ E.toInt ≤ i.toInt := fun h => c (Int32.le_iff_toInt_le.mpr h)
  have h2 := E.toInt_lt
  have h3 := i.le_toInt
  have h4 : (i + 1).toInt = i.toInt + 1 := by
    rw [Int32.toInt_add, show (1 : Int32).toInt = 1 from rfl]
    apply Int.bmod_eq_of_le <;> omega
  rw [h4]
  omega
/-- the house's cells: numbers, kinds, lengths, references -/
def hm_sh0 (L i : Nat) : hm_Sh := if Nat.blt i 34 then (if Nat.blt i 17 then (if Nat.blt i 8 then (if Nat.blt i 4 then (if Nat.blt i 2 then (if Nat.blt i 1 then ((1000, 16, fun _ => none)) else ((1000, L, fun _ => none))) else (if Nat.blt i 3 then ((10, 0, fun j => if j = 0 then some 3 else if j = 1 then some 14 else if j = 2 then some 25 else if j = 3 then some 42 else if j = 4 then some 47 else if j = 5 then some 50 else if j = 6 then some 59 else if j = 7 then some 64 else none)) else ((2, 0, fun j => if j = 0 then some 4 else if j = 1 then some 6 else if j = 2 then some 8 else if j = 3 then some 10 else if j = 4 then some 12 else none)))) else (if Nat.blt i 6 then (if Nat.blt i 5 then ((8, 0, fun j => if j = 0 then some 5 else none)) else ((1000, 16, fun _ => none))) else (if Nat.blt i 7 then ((8, 0, fun j => if j = 0 then some 7 else none)) else ((1000, 16, fun _ => none))))) else (if Nat.blt i 12 then (if Nat.blt i 10 then (if Nat.blt i 9 then ((8, 0, fun j => if j = 0 then some 9 else none)) else ((1000, 6144, fun _ => none))) else (if Nat.blt i 11 then ((8, 0, fun j => if j = 0 then some 11 else none)) else ((1000, 6144, fun _ => none)))) else (if Nat.blt i 14 then (if Nat.blt i 13 then ((8, 0, fun j => if j = 0 then some 13 else none)) else ((1000, 24, fun _ => none))) else (if Nat.blt i 15 then ((7, 0, fun j => if j = 0 then some 15 else if j = 1 then some 17 else if j = 2 then some 19 else if j = 3 then some 21 else if j = 4 then some 23 else none)) else (if Nat.blt i 16 then ((8, 0, fun j => if j = 0 then some 16 else none)) else ((1000, 80, fun _ => none))))))) else (if Nat.blt i 25 then (if Nat.blt i 21 then (if Nat.blt i 19 then (if Nat.blt i 18 then ((8, 0, fun j => if j = 0 then some 18 else none)) else ((1000, 80, fun _ => none))) else (if Nat.blt i 20 then ((8, 0, fun j => if j = 0 then some 20 else none)) else ((1000, 80, fun _ => none)))) else (if Nat.blt i 23 then (if Nat.blt i 22 then ((8, 0, fun j => if j = 0 then some 22 else none)) else ((1000, 80, fun _ => none))) else (if Nat.blt i 24 then ((8, 0, fun j => if j = 0 then some 24 else none)) else ((1000, 80, fun _ => none))))) else (if Nat.blt i 29 then (if Nat.blt i 27 then (if Nat.blt i 26 then ((4, 0, fun j => if j = 0 then some 26 else if j = 1 then some 28 else if j = 2 then some 30 else if j = 3 then some 32 else if j = 4 then some 34 else if j = 5 then some 36 else if j = 6 then some 38 else if j = 7 then some 40 else none)) else ((8, 0, fun j => if j = 0 then some 27 else none))) else (if Nat.blt i 28 then ((1000, 2048, fun _ => none)) else ((8, 0, fun j => if j = 0 then some 29 else none)))) else (if Nat.blt i 31 then (if Nat.blt i 30 then ((1000, 2048, fun _ => none)) else ((8, 0, fun j => if j = 0 then some 31 else none))) else (if Nat.blt i 32 then ((1000, 2048, fun _ => none)) else (if Nat.blt i 33 then ((8, 0, fun j => if j = 0 then some 33 else none)) else ((1000, 2048, fun _ => none)))))))) else (if Nat.blt i 51 then (if Nat.blt i 42 then (if Nat.blt i 38 then (if Nat.blt i 36 then (if Nat.blt i 35 then ((8, 0, fun j => if j = 0 then some 35 else none)) else ((1000, 80, fun _ => none))) else (if Nat.blt i 37 then ((8, 0, fun j => if j = 0 then some 37 else none)) else ((1000, 80, fun _ => none)))) else (if Nat.blt i 40 then (if Nat.blt i 39 then ((8, 0, fun j => if j = 0 then some 39 else none)) else ((1000, 80, fun _ => none))) else (if Nat.blt i 41 then ((8, 0, fun j => if j = 0 then some 41 else none)) else ((1000, 80, fun _ => none))))) else (if Nat.blt i 46 then (if Nat.blt i 44 then (if Nat.blt i 43 then ((6, 0, fun j => if j = 0 then some 43 else if j = 1 then some 45 else none)) else ((8, 0, fun j => if j = 0 then some 44 else none))) else (if Nat.blt i 45 then ((1000, 1024, fun _ => none)) else ((8, 0, fun j => if j = 0 then some 46 else none)))) else (if Nat.blt i 48 then (if Nat.blt i 47 then ((1000, 1025, fun _ => none)) else ((1, 0, fun j => if j = 0 then some 48 else none))) else (if Nat.blt i 49 then ((8, 0, fun j => if j = 0 then some 49 else none)) else (if Nat.blt i 50 then ((1000, 1365, fun _ => none)) else ((9, 0, fun j => if j = 0 then some 51 else if j = 1 then some 53 else if j = 2 then some 55 else if j = 3 then some 57 else none))))))) else (if Nat.blt i 59 then (if Nat.blt i 55 then (if Nat.blt i 53 then (if Nat.blt i 52 then ((8, 0, fun j => if j = 0 then some 52 else none)) else ((1000, 20, fun _ => none))) else (if Nat.blt i 54 then ((8, 0, fun j => if j = 0 then some 54 else none)) else ((1000, 20, fun _ => none)))) else (if Nat.blt i 57 then (if Nat.blt i 56 then ((8, 0, fun j => if j = 0 then some 56 else none)) else ((1000, 20, fun _ => none))) else (if Nat.blt i 58 then ((8, 0, fun j => if j = 0 then some 58 else none)) else ((1000, 20, fun _ => none))))) else (if Nat.blt i 63 then (if Nat.blt i 61 then (if Nat.blt i 60 then ((3, 0, fun j => if j = 0 then some 60 else if j = 1 then some 62 else none)) else ((8, 0, fun j => if j = 0 then some 61 else none))) else (if Nat.blt i 62 then ((1000, 1024, fun _ => none)) else ((8, 0, fun j => if j = 0 then some 63 else none)))) else (if Nat.blt i 65 then (if Nat.blt i 64 then ((1000, 1024, fun _ => none)) else ((5, 0, fun j => if j = 0 then some 65 else none))) else (if Nat.blt i 66 then ((8, 0, fun j => if j = 0 then some 66 else none)) else (if Nat.blt i 67 then ((1000, 80, fun _ => none)) else ((1000, 200, fun _ => none))))))))
def hm_sh (L : Nat) (g : Nat → hm_Sh) : Nat → hm_Sh := fun i => if Nat.blt i 68 then hm_sh0 L i else g i
section HRw
variable {R : hm_R} {N L : Nat} {g : Nat → hm_Sh} {s : hm_St} {b : hm_B} {Q : hm_Q} {k pc : Nat} {lv : hm_Lv} {st : List Value}
theorem hm_bxf (hR : hm_Cm R) {bx f x y : Nat} (hbk : (hm_sh L g bx).1 = 0) (hb2 : 2 ≤ bx) (hbl : bx < N) {n z : Nat} (hi : hm_ins k pc = some (.getfield f, n, x, y, z))
    (H : R k (pc + 3) lv (.int (s bx (f % 64)) :: st) (N, hm_sh L g, s) b Q) (hf : f / 64 = 0 := by first | rfl | decide) : R k pc lv (.ref bx :: st) (N, hm_sh L g, s) b Q := by
  refine hm_st hR ?_
  unfold hm_Step
  rw [hi]
  refine ⟨hbk.trans hf.symm, hb2, hbl, ?_⟩
  have e : hm_fv (hm_sh L g bx) (s bx) (f % 64) = .int (s bx (f % 64)) := by
    unfold hm_fv
    rw [hbk]
    rfl
  show R k (pc + 3) lv (hm_fv (hm_sh L g bx) (s bx) (f % 64) :: st) (N, hm_sh L g, s) b Q
  rw [e]
  exact H
theorem hm_rwf (hR : hm_Cm R) {rr aa f x y : Nat} (hrk : (hm_sh L g rr).1 = 8) (hra : (hm_sh L g rr).2.2 0 = some aa) (hr2 : 2 ≤ rr) (hrl : rr < N) {n z : Nat} (hi : hm_ins k pc = some (.getfield f, n, x, y, z))
    (H : R k (pc + 3) lv (.ref aa :: st) (N, hm_sh L g, s) b Q) (hf : f = 512 := by first | rfl | decide) : R k pc lv (.ref rr :: st) (N, hm_sh L g, s) b Q := by
  subst hf
  refine hm_st hR ?_
  unfold hm_Step
  rw [hi]
  refine ⟨hrk, hr2, hrl, ?_⟩
  have e : hm_fv (hm_sh L g rr) (s rr) 0 = .ref aa := by
    unfold hm_fv
    rw [hrk, hra]
    rfl
  show R k (pc + 3) lv (hm_fv (hm_sh L g rr) (s rr) 0 :: st) (N, hm_sh L g, s) b Q
  rw [e]
  exact H
theorem hm_aln (hR : hm_Cm R) {aa nn n x y z : Nat} (hak : (hm_sh L g aa).1 = 1000) (han : (hm_sh L g aa).2.1 = nn) (hal : aa < N) (hi : hm_ins k pc = some (.arraylength, n, x, y, z))
    (H : R k (pc + 1) lv (.int (Int32.ofNat nn) :: st) (N, hm_sh L g, s) b Q) : R k pc lv (.ref aa :: st) (N, hm_sh L g, s) b Q := by
  refine hm_st hR ?_
  unfold hm_Step
  rw [hi]
  subst han
  exact ⟨hak, hal, H⟩
theorem hm_ald (hR : hm_Cm R) {aa nn n x y z : Nat} {i : Int32} (hak : (hm_sh L g aa).1 = 1000) (han : (hm_sh L g aa).2.1 = nn) (hal : aa < N) (hi : hm_ins k pc = some (.iaload, n, x, y, z)) (hv : vp_in i nn)
    (H : R k (pc + 1) lv (.int (s aa i.toNatClampNeg) :: st) (N, hm_sh L g, s) b Q) : R k pc lv (.int i :: .ref aa :: st) (N, hm_sh L g, s) b Q := by
  refine hm_st hR ?_
  unfold hm_Step
  rw [hi]
  subst han
  exact ⟨hak, hal, hv, H⟩
theorem hm_ast (hR : hm_Cm R) {aa nn n x y z : Nat} {i v : Int32} (hak : (hm_sh L g aa).1 = 1000) (han : (hm_sh L g aa).2.1 = nn) (ha2 : 2 ≤ aa) (hal : aa < N) (hi : hm_ins k pc = some (.iastore, n, x, y, z)) (hv : vp_in i nn)
    (H : R k (pc + 1) lv st (N, hm_sh L g, hm_w1 s aa i.toNatClampNeg v) b Q) : R k pc lv (.int v :: .int i :: .ref aa :: st) (N, hm_sh L g, s) b Q := by
  refine hm_st hR ?_
  unfold hm_Step
  rw [hi]
  subst han
  exact ⟨hak, ha2, hal, hv, H⟩
end HRw
theorem hm_vin {i : Int32} {nn : Nat} (c1 : ¬ i < 0) (c2 : ¬ Int32.ofNat nn ≤ i) (hn : nn < 2 ^ 31 := by decide) : vp_in i nn := by
  obtain ⟨j, hj, rfl⟩ := nI_of c1
  exact vp_in_nI (Nat.not_le.mp fun h => c2 ((nI_leI hn hj).mpr h)) hn
theorem hm_nz1 {x : Int32} (c : 1 ≤ x) : ¬ x = 0 := fun h => absurd c (by rw [h]; decide)
theorem hm_nz2 {x : Int32} (c : 0 < x) : ¬ x = 0 := fun h => absurd c (by rw [h]; decide)
theorem hm_inc0 {E i : Int32} (h : 0 ≤ i) (c : ¬ E ≤ i) : 0 ≤ i + 1 := by
  have h1 : ¬ E.toInt ≤ i.toInt := fun h => c (Int32.le_iff_toInt_le.mpr h)
  have h2 := E.toInt_lt
  have h0 : (0 : Int32).toInt ≤ i.toInt := Int32.le_iff_toInt_le.mp h
  have h00 : (0 : Int32).toInt = 0 := rfl
  rw [h00] at h0
  apply Int32.le_iff_toInt_le.mpr
  have h4 : (i + 1).toInt = i.toInt + 1 := by
    rw [Int32.toInt_add, show (1 : Int32).toInt = 1 from rfl]
    apply Int.bmod_eq_of_le <;> omega
  rw [h4, h00]
  omega
theorem hm_nl {i : Int32} (h : 0 ≤ i) : ¬ i < 0 := Int32.not_lt.mpr h
theorem hm_ni {x c : Int32} (h : ¬ x = c) : ¬ x.toInt = c.toInt := fun e => h (Int32.toInt_inj.mp e)
theorem hm_tswD {d lo hi : Int} {offs : List Int} {x : Int32} (h : ¬ (lo ≤ x.toInt ∧ x.toInt ≤ hi)) : hm_tsw d lo hi offs x = d := if_pos (by omega)
theorem hm_swD3 {d : Int} {d2 : Nat} {offs : List Int} {x : Int32} (h0 : ¬ x = 0) (h1 : ¬ x = 1) (h2 : ¬ x = 2) (hd : d.toNat = d2 := by rfl) : (hm_tsw d 0 2 offs x).toNat = d2 := by
  have e0 : ¬ x.toInt = 0 := hm_ni h0
  have e1 : ¬ x.toInt = 1 := hm_ni h1
  have e2 : ¬ x.toInt = 2 := hm_ni h2
  rw [hm_tswD (by omega)]
  exact hd
theorem hm_swD5 {d : Int} {d2 : Nat} {offs : List Int} {x : Int32} (h0 : ¬ x = 0) (h1 : ¬ x = 1) (h2 : ¬ x = 2) (h3 : ¬ x = 3) (h4 : ¬ x = 4) (hd : d.toNat = d2 := by rfl) : (hm_tsw d 0 4 offs x).toNat = d2 := by
  have e0 : ¬ x.toInt = 0 := hm_ni h0
  have e1 : ¬ x.toInt = 1 := hm_ni h1
  have e2 : ¬ x.toInt = 2 := hm_ni h2
  have e3 : ¬ x.toInt = 3 := hm_ni h3
  have e4 : ¬ x.toInt = 4 := hm_ni h4
  rw [hm_tswD (by omega)]
  exact hd
theorem hm_swD7 {d : Int} {d2 : Nat} {offs : List Int} {x : Int32} (h0 : ¬ x = 0) (h1 : ¬ x = 1) (h2 : ¬ x = 2) (h3 : ¬ x = 3) (h4 : ¬ x = 4) (h5 : ¬ x = 5) (h6 : ¬ x = 6) (hd : d.toNat = d2 := by rfl) : (hm_tsw d 0 6 offs x).toNat = d2 := by
  have e0 : ¬ x.toInt = 0 := hm_ni h0
  have e1 : ¬ x.toInt = 1 := hm_ni h1
  have e2 : ¬ x.toInt = 2 := hm_ni h2
  have e3 : ¬ x.toInt = 3 := hm_ni h3
  have e4 : ¬ x.toInt = 4 := hm_ni h4
  have e5 : ¬ x.toInt = 5 := hm_ni h5
  have e6 : ¬ x.toInt = 6 := hm_ni h6
  rw [hm_tswD (by omega)]
  exact hd
theorem hm_swD9 {d : Int} {d2 : Nat} {offs : List Int} {x : Int32} (h0 : ¬ x = 0) (h1 : ¬ x = 1) (h2 : ¬ x = 2) (h3 : ¬ x = 3) (h4 : ¬ x = 4) (h5 : ¬ x = 5) (h6 : ¬ x = 6) (h7 : ¬ x = 7) (h8 : ¬ x = 8) (hd : d.toNat = d2 := by rfl) : (hm_tsw d 0 8 offs x).toNat = d2 := by
  have e0 : ¬ x.toInt = 0 := hm_ni h0
  have e1 : ¬ x.toInt = 1 := hm_ni h1
  have e2 : ¬ x.toInt = 2 := hm_ni h2
  have e3 : ¬ x.toInt = 3 := hm_ni h3
  have e4 : ¬ x.toInt = 4 := hm_ni h4
  have e5 : ¬ x.toInt = 5 := hm_ni h5
  have e6 : ¬ x.toInt = 6 := hm_ni h6
  have e7 : ¬ x.toInt = 7 := hm_ni h7
  have e8 : ¬ x.toInt = 8 := hm_ni h8
  rw [hm_tswD (by omega)]
  exact hd
theorem hm_swD7_8 {d : Int} {d2 : Nat} {offs : List Int} {x : Int32} (h0 : ¬ x = 8) (h1 : ¬ x = 9) (h2 : ¬ x = 10) (h3 : ¬ x = 11) (h4 : ¬ x = 12) (h5 : ¬ x = 13) (h6 : ¬ x = 14) (hd : d.toNat = d2 := by rfl) : (hm_tsw d 8 14 offs x).toNat = d2 := by
  have e0 : ¬ x.toInt = 8 := hm_ni h0
  have e1 : ¬ x.toInt = 9 := hm_ni h1
  have e2 : ¬ x.toInt = 10 := hm_ni h2
  have e3 : ¬ x.toInt = 11 := hm_ni h3
  have e4 : ¬ x.toInt = 12 := hm_ni h4
  have e5 : ¬ x.toInt = 13 := hm_ni h5
  have e6 : ¬ x.toInt = 14 := hm_ni h6
  rw [hm_tswD (by omega)]
  exact hd
theorem hm_lkD2 {d a b : Int} {d2 : Nat} {x : Int32} (h0 : ¬ x = 0) (h1 : ¬ x = 1) (hd : d.toNat = d2 := by rfl) : (Op.lookupswitch.offset [(0, a), (1, b)] d x.toInt).toNat = d2 := by
  have e0 : ¬ x.toInt = 0 := hm_ni h0
  have e1 : ¬ x.toInt = 1 := hm_ni h1
  rw [Op.lookupswitch.offset_cons, Op.lookupswitch.offset_cons, if_neg (fun e => e0 e.symm), if_neg (fun e => e1 e.symm)]
  exact hd
theorem hm_m1 {i : Int32} (h : (-2147483648 : Int) < i.toInt) : (i + (-1)).toInt = i.toInt - 1 := by
  have h2 := i.toInt_lt
  rw [Int32.toInt_add, show (-1 : Int32).toInt = -1 from rfl]
  apply Int.bmod_eq_of_le <;> omega
theorem hm_dcm {E i : Int32} {n : Nat} (c : ¬ i ≤ E) (hm : (i.toInt - E.toInt).toNat < n + 1) : ((i + (-1)).toInt - E.toInt).toNat < n := by
  have h1 : ¬ i.toInt ≤ E.toInt := fun h => c (Int32.le_iff_toInt_le.mpr h)
  have h3 := E.le_toInt
  rw [hm_m1 (by omega)]
  omega
theorem hm_dcn {i : Int32} {n : Nat} (c : ¬ i < 0) (hm : (i.toInt + 1).toNat < n + 1) : ((i + (-1)).toInt + 1).toNat < n := by
  have h1 : ¬ i.toInt < (0 : Int32).toInt := fun h => c (Int32.lt_iff_toInt_lt.mpr h)
  rw [show (0 : Int32).toInt = 0 from rfl] at h1
  rw [hm_m1 (by omega)]
  omega
theorem hm_dch {i : Int32} {n : Nat} (c : ¬ i ≤ 0) (hm : i.toInt.toNat < n + 1) : (i / 2).toInt.toNat < n := by
  obtain ⟨j, hj, rfl⟩ := nI_of (x := i) (fun h => c (Int32.le_of_lt h))
  have e : nI j / 2 = nI (j / 2) := pk_div hj (by decide) (by decide)
  rw [e, nI_toInt (by omega)]
  rw [nI_toInt hj] at hm
  have : ¬ j = 0 := fun h => c (by rw [h]; decide)
  omega
theorem hm_dcy {E i : Int32} {n : Nat} (c : ¬ E < i) (hE : E < 100000) (hm : (E.toInt + 1 - i.toInt).toNat < n + 1) : (E.toInt + 1 - (i + 1).toInt).toNat < n := by
  have h1 : ¬ E.toInt < i.toInt := fun h => c (Int32.lt_iff_toInt_lt.mpr h)
  have h2 : E.toInt < (100000 : Int32).toInt := Int32.lt_iff_toInt_lt.mp hE
  rw [show (100000 : Int32).toInt = 100000 from rfl] at h2
  have h3 := i.le_toInt
  have h4 : (i + 1).toInt = i.toInt + 1 := by
    rw [Int32.toInt_add, show (1 : Int32).toInt = 1 from rfl]
    apply Int.bmod_eq_of_le <;> omega
  rw [h4]
  omega
theorem hm_ltT {E i M : Int32} (c : ¬ E ≤ i) (h : E ≤ M) : i < M := Int32.lt_of_lt_of_le (Int32.not_le.mp c) h
theorem hm_dcE {E E' i : Int32} {n : Nat} (e : E' = E) (h : hm_df E i < n) : hm_df E' i < n := by rw [e]; exact h
theorem hm_tsS {R : hm_R} (hR : hm_Cm R) {k pc : Nat} {lv : hm_Lv} {r : List Value} {h : hm_Hp} {b : hm_B} {Q : hm_Q} {d lo ho : Int} {offs : Array Int} {n a c z : Nat} {x : Int32} (t : Nat)
    (hi : hm_ins k pc = some (.tableswitch d lo ho offs, n, a, c, z)) (e : (hm_tsw d lo ho offs.toList x).toNat = t) (H : R k t lv r h b Q) : R k pc lv (.int x :: r) h b Q := by
  refine hm_st hR ?_
  unfold hm_Step
  rw [hi]
  show R k (hm_tsw d lo _ offs.toList x).toNat lv r h b Q
  rw [e]
  exact H
theorem hm_lkS {R : hm_R} (hR : hm_Cm R) {k pc : Nat} {lv : hm_Lv} {r : List Value} {h : hm_Hp} {b : hm_B} {Q : hm_Q} {d : Int} {ps : Array (Int × Int)} {n a c z : Nat} {x : Int32} (t : Nat)
    (hi : hm_ins k pc = some (.lookupswitch d ps, n, a, c, z)) (e : (Op.lookupswitch.offset ps.toList d x.toInt).toNat = t) (H : R k t lv r h b Q) : R k pc lv (.int x :: r) h b Q := by
  refine hm_st hR ?_
  unfold hm_Step
  rw [hi]
  show R k (Op.lookupswitch.offset ps.toList d x.toInt).toNat lv r h b Q
  rw [e]
  exact H
