/-! What the machine's heap is when the abstract one is h. -/
section HW
variable (D : va_G) (cI : ClassId) (B t0 bs L : Nat) (xs : Nat → Int32)
def hm_tab (j : Nat) : Int32 := [0, 8, 16, 24, 1, 16, 24, 15, 0, 8, 24, 16, 0, 8, 16, 24].getD j 0
def hm_ad (i : Nat) : Nat := if i = 0 then t0 else if i = 1 then bs else B + i
def hm_tr (v : Value) : Value := match v with
  | .ref i => .ref (hm_ad B t0 bs i)
  | v => v
def hm_fs (sh : hm_Sh) (σ : Nat → Int32) : List Value := (List.range (hm_nf sh.1)).map (fun j => hm_tr B t0 bs (hm_fv sh σ j))
def hm_E (sh : hm_Sh) (σ : Nat → Int32) : va_E := if sh.1 = 1000 then .inl (cI, sh.2.1, .inl σ) else .inr (sh.1, hm_fs B t0 bs sh σ)
def hm_kn (h : hm_Hp) (i : Nat) : Bool := decide (2 ≤ i) && decide ((h.2.1 i).1 ≠ 2000)
def hm_Ls (h : hm_Hp) : List Nat := ((List.range h.1).filter (hm_kn h)).map (B + ·)
def hm_wf (h : hm_Hp) (a : Nat) : va_E := hm_E cI B t0 bs (h.2.1 (a - B)) (h.2.2 (a - B))
def hm_ws (h : hm_Hp) : va_W := va_pl (hm_Ls B h) (hm_wf cI B t0 bs h)
def hm_A : Nat → Prop := fun q => B + 2 ≤ q
/-- the fixed cells -/
def hm_fx (h : hm_Hp) : Prop := 2 ≤ h.1 ∧ (h.2.1 0).1 = 1000 ∧ (h.2.1 0).2.1 = 16 ∧ h.2.2 0 = hm_tab ∧ (h.2.1 1).1 = 1000 ∧ (h.2.1 1).2.1 = L ∧ h.2.2 1 = xs
def hm_W (h : hm_Hp) (H : Heap) : Prop := hm_fx L xs h ∧ H.size = B + h.1 ∧ va_P D hm_cls (hm_ws cI B t0 bs h) H ∧ va_D (hm_A B) (hm_ws cI B t0 bs h)
/-- the statics -/
def hm_X (U : State) (H : Heap) : Prop :=
  va_Z "CurvekeyHouse" "TABLES" "[I" (.ref t0) (hm_A B) U H ∧ va_T .int t0 16 (fun j => .int (hm_tab j)) (hm_A B) U H ∧ va_T .int bs L (fun j => .int (xs j)) (hm_A B) U H ∧
  vx_Zq Bundle.tN "UNASSIGNED_STACK" Bundle.steD (hm_A B) U H ∧ vx_Zq Bundle.tN "SUPPRESSED_SENTINEL" Bundle.listD (hm_A B) U H
def hm_Y (U : State) : Prop := va_K D hm_cls [(cI, .int)] U
end HW
section HV
variable {D : va_G} {cI : ClassId} {B t0 bs L : Nat} {xs : Nat → Int32}
theorem hm_tr_cat (v : Value) : (hm_tr B t0 bs v).category = v.category := by cases v <;> rfl
theorem hm_ad2 {i : Nat} (h : 2 ≤ i) : hm_ad B t0 bs i = B + i := by
  unfold hm_ad
  rw [if_neg (by omega), if_neg (by omega)]
theorem hm_kn_iff {h : hm_Hp} {i : Nat} : hm_kn h i = true ↔ 2 ≤ i ∧ (h.2.1 i).1 ≠ 2000 := by simp [hm_kn]
theorem hm_mem {h : hm_Hp} {i : Nat} (h1 : 2 ≤ i) (h2 : i < h.1) (h3 : (h.2.1 i).1 ≠ 2000) : B + i ∈ hm_Ls B h :=
  List.mem_map.mpr ⟨i, List.mem_filter.mpr ⟨List.mem_range.mpr h2, hm_kn_iff.mpr ⟨h1, h3⟩⟩, rfl⟩
theorem hm_wget {h : hm_Hp} {i : Nat} (h1 : 2 ≤ i) (h2 : i < h.1) (h3 : (h.2.1 i).1 ≠ 2000) : ∃ k : Nat, (hm_ws cI B t0 bs h)[k]? = some (B + i, hm_E cI B t0 bs (h.2.1 i) (h.2.2 i)) := by
  obtain ⟨k, hk⟩ := va_pl_get (X := []) (f := hm_wf cI B t0 bs h) (hm_mem (B := B) h1 h2 h3)
  refine ⟨k, ?_⟩
  have e : hm_wf cI B t0 bs h (B + i) = hm_E cI B t0 bs (h.2.1 i) (h.2.2 i) := by unfold hm_wf; rw [Nat.add_sub_cancel_left]
  rw [← e]
  exact hk
/-- a cell is changed, its kind and the list of the known stay -/
theorem hm_wset {A : Nat → Prop} {h h' : hm_Hp} {i k : Nat} (hD : va_D A (hm_ws cI B t0 bs h)) (h1 : 2 ≤ i) (h2 : i < h.1) (h3 : (h.2.1 i).1 ≠ 2000) (hk : (hm_ws cI B t0 bs h)[k]? = some (B + i, hm_E cI B t0 bs (h.2.1 i) (h.2.2 i)))
    (hn : h'.1 = h.1) (hkd : ∀ j, (h'.2.1 j).1 = (h.2.1 j).1) (ho : ∀ j, j ≠ i → h'.2.1 j = h.2.1 j ∧ h'.2.2 j = h.2.2 j) :
    (hm_ws cI B t0 bs h).set k (B + i, hm_E cI B t0 bs (h'.2.1 i) (h'.2.2 i)) = hm_ws cI B t0 bs h' := by
  have e : hm_wf cI B t0 bs h (B + i) = hm_E cI B t0 bs (h.2.1 i) (h.2.2 i) := by unfold hm_wf; rw [Nat.add_sub_cancel_left]
  have h4 := va_pl_set (X := []) (f := hm_wf cI B t0 bs h) (e := hm_E cI B t0 bs (h'.2.1 i) (h'.2.2 i)) (A := A) hD (hm_mem (B := B) h1 h2 h3) (k := k) (by rw [e]; exact hk)
  have h5 : hm_Ls B h' = hm_Ls B h := by
    unfold hm_Ls
    rw [hn]
    congr 1
    apply List.filter_congr
    intro j _
    unfold hm_kn
    rw [hkd]
  show (va_pl (hm_Ls B h) (hm_wf cI B t0 bs h)).set k _ = va_pl (hm_Ls B h') (hm_wf cI B t0 bs h')
  rw [h5]
  refine Eq.trans h4 ?_
  show va_pl _ _ = _
  apply va_pl_congr
  intro a
  by_cases ha : a = B + i
  · subst ha
    rw [va_up_self]
    unfold hm_wf
    rw [Nat.add_sub_cancel_left]
  · rw [va_up_ne _ _ ha]
    unfold hm_wf
    obtain ⟨o1, o2⟩ := ho (a - B) (by omega)
    rw [o1, o2]
/-- a cell more -/
theorem hm_wpush {h h' : hm_Hp} {H : Heap} (hP : va_P D hm_cls (hm_ws cI B t0 bs h) H) (hz : H.size = B + h.1) (h2 : 2 ≤ h.1) (hn : h'.1 = h.1 + 1) (ho : ∀ j, j ≠ h.1 → h'.2.1 j = h.2.1 j ∧ h'.2.2 j = h.2.2 j) (hk : (h'.2.1 h.1).1 ≠ 2000) :
    hm_ws cI B t0 bs h ++ [(B + h.1, hm_E cI B t0 bs (h'.2.1 h.1) (h'.2.2 h.1))] = hm_ws cI B t0 bs h' := by
  have hf : B + h.1 ∉ hm_Ls B h := fun hm => by
    obtain ⟨i, hi, he⟩ := List.mem_map.mp hm
    have := List.mem_range.mp (List.mem_filter.mp hi).1
    omega
  show va_pl _ _ ++ _ = va_pl _ _
  rw [va_pl_push hf]
  have h5 : hm_Ls B h' = hm_Ls B h ++ [B + h.1] := by
    unfold hm_Ls
    rw [hn, List.range_succ, List.filter_append, List.map_append]
    congr 1
    · congr 1
      apply List.filter_congr
      intro j hj
      have hj2 := List.mem_range.mp hj
      unfold hm_kn
      rw [(ho j (by omega)).1]
    · have : hm_kn h' h.1 = true := hm_kn_iff.mpr ⟨h2, hk⟩
      simp [List.filter, this]
  rw [h5]
  apply va_pl_congr
  intro a
  by_cases ha : a = B + h.1
  · subst ha
    rw [va_up_self]
    unfold hm_wf
    rw [Nat.add_sub_cancel_left]
  · rw [va_up_ne _ _ ha]
    unfold hm_wf
    obtain ⟨o1, o2⟩ := ho (a - B) (by omega)
    rw [o1, o2]
/-- cells of which nothing is known: the world stays -/
theorem hm_wunk {h : hm_Hp} {N : Nat} (hN : h.1 ≤ N) : hm_ws cI B t0 bs (hm_unk h N) = hm_ws cI B t0 bs h := by
  have h5 : hm_Ls B (hm_unk h N) = hm_Ls B h := by
    unfold hm_Ls
    congr 1
    obtain ⟨d, rfl⟩ := Nat.exists_eq_add_of_le hN
    show (List.range (h.1 + d)).filter (hm_kn (hm_unk h (h.1 + d))) = _
    rw [List.range_add, List.filter_append]
    have e1 : (List.range h.1).filter (hm_kn (hm_unk h (h.1 + d))) = (List.range h.1).filter (hm_kn h) := by
      apply List.filter_congr
      intro j hj
      have hj2 := List.mem_range.mp hj
      unfold hm_kn hm_unk
      simp only [if_pos hj2]
    have e2 : ((List.range d).map (h.1 + ·)).filter (hm_kn (hm_unk h (h.1 + d))) = [] := by
      apply List.filter_eq_nil_iff.mpr
      intro j hj
      obtain ⟨q, _, rfl⟩ := List.mem_map.mp hj
      have hn : ¬ (h.1 + q < h.1) := by omega
      unfold hm_kn hm_unk
      simp [if_neg hn]
    rw [e1, e2, List.append_nil]
  show va_pl _ _ = va_pl _ _
  rw [h5]
  unfold va_pl
  apply List.map_congr_left
  intro a ha
  obtain ⟨i, hi, rfl⟩ := List.mem_map.mp ha
  have hi2 := List.mem_range.mp (List.mem_filter.mp hi).1
  congr 1
  unfold hm_wf
  rw [Nat.add_sub_cancel_left]
  unfold hm_unk
  simp only [if_pos hi2]
/-- a field set, as the list of an object's fields has it -/
theorem hm_fset {n j : Nat} {F F' : Nat → Value} {v : Value} (hv : F' j = v) (ho : ∀ q, q ≠ j → F' q = F q) : ((List.range n).map F).set j v = (List.range n).map F' := by
  apply List.ext_getElem?
  intro q
  by_cases hq : q = j
  · subst hq
    by_cases hl : q < n
    · rw [List.getElem?_set_self (by simpa using hl)]
      simp [hl, hv]
    · rw [List.getElem?_eq_none (by simpa using hl), List.getElem?_eq_none (by simpa using hl)]
  · rw [List.getElem?_set_ne (Ne.symm hq)]
    simp only [List.getElem?_map]
    cases hr : (List.range n)[q]? with
    | none => rfl
    | some w =>
      have : w = q := by
        have h9 := (List.getElem?_eq_some_iff.mp hr)
        obtain ⟨h8, h7⟩ := h9
        rw [← h7, List.getElem_range]
      subst this
      simp [ho _ hq]
theorem hm_fget {n j : Nat} {F : Nat → Value} (h : j < n) : ((List.range n).map F)[j]? = some (F j) := by simp [h]
end HV
