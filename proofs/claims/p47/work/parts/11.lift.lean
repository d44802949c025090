/-! hm_LF is closed under steps. -/
section HLift
variable {l : Launch} {D : va_G} {cI : ClassId} {B t0 bs L : Nat} {xs : Nat → Int32}
theorem hm_LF_mono {k pc : Nat} {lv : hm_Lv} {st : List Value} {h : hm_Hp} {b : hm_B} {Q Q' : hm_Q} (hq : ∀ o h', Q o h' → Q' o h') (H : hm_LF l D cI B t0 bs L xs k pc lv st h b Q) : hm_LF l D cI B t0 bs L xs k pc lv st h b Q' := by
  intro p e s m args below meth c Hp locs cells slots mc ms ls C hW hC2 hs hS hl hcb hsb T hT X
  obtain ⟨t, a1, o, b1, b2, b3⟩ := H p e s m args below meth c Hp locs cells slots mc ms ls C hW hC2 hs hS hl hcb hsb T hT X
  refine ⟨t, a1, o, b1, b2, ?_⟩
  rcases b3 with ⟨⟨⟨r, h', e1, e2, e3⟩, e4⟩, e5⟩ | ⟨q, e1, E, ce, Lc, ⟨⟨h', f1, f2⟩, f3⟩, f4⟩
  · exact Or.inl ⟨⟨⟨r, h', e1, hq _ _ e2, e3⟩, e4⟩, e5⟩
  · exact Or.inr ⟨q, e1, E, ce, Lc, ⟨⟨h', hq _ _ f1, f2⟩, f3⟩, f4⟩
theorem hm_dcs {k pc : Nat} {i : Instr} {n : Nat} (h : hm_dc k pc i n = true) : decode (hm_cc k) pc = .ok (i, n) := of_decide_eq_true h
theorem hm_fxWi {h : hm_Hp} {a j : Nat} {v : Int32} (ha : 2 ≤ a) (hf : hm_fx L xs h) : hm_fx L xs (hm_wi h a j v) := by
  obtain ⟨f1, f2, f3, f4, f5, f6, f7⟩ := hf
  refine ⟨f1, f2, f3, ?_, f5, f6, ?_⟩
  · show (if 0 = a then _ else h.2.2 0) = _
    rw [if_neg (by omega)]; exact f4
  · show (if 1 = a then _ else h.2.2 1) = _
    rw [if_neg (by omega)]; exact f7
theorem hm_fxWr {h : hm_Hp} {a j : Nat} {r : Option Nat} (ha : 2 ≤ a) (hf : hm_fx L xs h) : hm_fx L xs (hm_wr h a j r) := by
  obtain ⟨f1, f2, f3, f4, f5, f6, f7⟩ := hf
  have e0 : (hm_wr h a j r).2.1 0 = h.2.1 0 := by show (if 0 = a then _ else h.2.1 0) = _; rw [if_neg (by omega)]
  have e1 : (hm_wr h a j r).2.1 1 = h.2.1 1 := by show (if 1 = a then _ else h.2.1 1) = _; rw [if_neg (by omega)]
  exact ⟨f1, by rw [e0]; exact f2, by rw [e0]; exact f3, f4, by rw [e1]; exact f5, by rw [e1]; exact f6, f7⟩
theorem hm_fxMk {h : hm_Hp} {c n : Nat} (hf : hm_fx L xs h) : hm_fx L xs (hm_mk h c n) := by
  obtain ⟨f1, f2, f3, f4, f5, f6, f7⟩ := hf
  have e0 : (hm_mk h c n).2.1 0 = h.2.1 0 := by show (if 0 = h.1 then _ else h.2.1 0) = _; rw [if_neg (by omega)]
  have e1 : (hm_mk h c n).2.1 1 = h.2.1 1 := by show (if 1 = h.1 then _ else h.2.1 1) = _; rw [if_neg (by omega)]
  have g0 : (hm_mk h c n).2.2 0 = h.2.2 0 := by show (if 0 = h.1 then _ else h.2.2 0) = _; rw [if_neg (by omega)]
  have g1 : (hm_mk h c n).2.2 1 = h.2.2 1 := by show (if 1 = h.1 then _ else h.2.2 1) = _; rw [if_neg (by omega)]
  exact ⟨Nat.le_succ_of_le f1, by rw [e0]; exact f2, by rw [e0]; exact f3, by rw [g0]; exact f4, by rw [e1]; exact f5, by rw [e1]; exact f6, by rw [g1]; exact f7⟩
theorem hm_fxUnk {h : hm_Hp} {N : Nat} (hN : h.1 ≤ N) (hf : hm_fx L xs h) : hm_fx L xs (hm_unk h N) := by
  obtain ⟨f1, f2, f3, f4, f5, f6, f7⟩ := hf
  have e0 : (hm_unk h N).2.1 0 = h.2.1 0 := by show (if 0 < h.1 then h.2.1 0 else _) = _; rw [if_pos (by omega)]
  have e1 : (hm_unk h N).2.1 1 = h.2.1 1 := by show (if 1 < h.1 then h.2.1 1 else _) = _; rw [if_pos (by omega)]
  exact ⟨Nat.le_trans f1 hN, by rw [e0]; exact f2, by rw [e0]; exact f3, f4, by rw [e1]; exact f5, by rw [e1]; exact f6, f7⟩
/-- an object of the world -/
theorem hm_gob {h : hm_Hp} {a ci : Nat} (h1 : (h.2.1 a).1 = ci) (hci : ci < 11) (h2 : 2 ≤ a) (h3 : a < h.1) : ∃ q0 : Nat, (hm_ws cI B t0 bs h)[q0]? = some (B + a, (.inr (ci, hm_fs B t0 bs (h.2.1 a) (h.2.2 a)) : va_E)) := by
  obtain ⟨q0, hq⟩ := hm_wget (cI := cI) (B := B) (t0 := t0) (bs := bs) h2 h3 (by rw [h1]; omega)
  refine ⟨q0, ?_⟩
  rw [hq]
  unfold hm_E
  rw [if_neg (by rw [h1]; omega), h1]
/-- a row of the world -/
theorem hm_gar {h : hm_Hp} {a : Nat} (h1 : (h.2.1 a).1 = 1000) (h2 : 2 ≤ a) (h3 : a < h.1) : ∃ q0 : Nat, (hm_ws cI B t0 bs h)[q0]? = some (B + a, (.inl (cI, (h.2.1 a).2.1, .inl (h.2.2 a)) : va_E)) := by
  obtain ⟨q0, hq⟩ := hm_wget (cI := cI) (B := B) (t0 := t0) (bs := bs) h2 h3 (by rw [h1]; omega)
  refine ⟨q0, ?_⟩
  rw [hq]
  unfold hm_E
  rw [if_pos h1]
theorem hm_arrI : Jvm.Cond.arrayClass .int ∈ hm_G := List.mem_filter.mpr ⟨by decide +kernel, rfl⟩
theorem hm_swL (ps : List (Int × Int)) (d pc x : Int) : lookupswitch.offset (ps.map fun o => (o.1, o.2 + pc)) (d + pc) x = lookupswitch.offset ps d x + pc := by
  induction ps with
  | nil => rfl
  | cons q r ih =>
    obtain ⟨a, o⟩ := q
    simp only [List.map_cons, lookupswitch.offset_cons, ih]
    split <;> rfl
end HLift
theorem hm_swP (ps : List (Int × Int)) (d x : Int) (hd : 0 ≤ d) (hp : ∀ o ∈ ps, 0 ≤ o.2) : 0 ≤ lookupswitch.offset ps d x := by
  induction ps with
  | nil => exact hd
  | cons q r ih =>
    obtain ⟨a, o⟩ := q
    rw [lookupswitch.offset_cons]
    split
    · exact hp _ List.mem_cons_self
    · exact ih (fun o ho => hp o (List.mem_cons_of_mem _ ho))
