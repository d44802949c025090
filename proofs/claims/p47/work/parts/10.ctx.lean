/-! What holds where the abstract machine stands at a place. -/
def hm_V (U : State) : Prop := ∀ w ∈ lw_tbl, hm_vk w = true → va_Nw w U
def hm_Vs (U : State) : Prop := (∃ sa, vk_R "CurvekeyHouse" 410 "an argument is outside what the call allows" sa U) ∧ (∃ sa, vk_R "CurvekeyHouse" 417 "the store does not allow the call as it is now" sa U) ∧ (∃ sa, vk_R "CurvekeyHouse" 422 "there is no such number" sa U) ∧
  va_Nc "java/lang/IllegalStateException" "java/lang/IndexOutOfBoundsException" U
theorem hm_V.warm {s U : State} (hW : s.WarmedH U.vm) (h : hm_V s) : hm_V U := by
  intro w hw hk
  have h1 := h w hw hk
  cases w with
  | fieldLinkNest a i b n d h => exact va_Nw.warmF hW h1
  | methodLinkNest a i x h => exact va_Nw.warmM hW h1
  | castable C T => exact va_Nw.warmC hW h1
  | declares x => exact va_Nw.warmD hW h1
  | _ => cases hk
theorem hm_V.same {u U : State} (hv : u.vm = U.vm) (h : hm_V u) : hm_V U := by
  intro w hw hk
  have h1 := h w hw hk
  cases w with
  | fieldLinkNest a i b n d h => exact va_Nw.same rfl hv h1
  | methodLinkNest a i x h => exact va_Nw.same rfl hv h1
  | castable C T => exact va_Nw.same rfl hv h1
  | declares x => exact va_Nw.same rfl hv h1
  | _ => cases hk
theorem hm_Vs.warm {s U : State} (hW : s.WarmedH U.vm) (h : hm_Vs s) : hm_Vs U := by
  obtain ⟨⟨a, h1⟩, ⟨b, h2⟩, ⟨c, h3⟩, h4⟩ := h
  exact ⟨⟨a, h1.warm hW⟩, ⟨b, h2.warm hW⟩, ⟨c, h3.warm hW⟩, h4.moved hW.alike⟩
theorem hm_Vs.same {u U : State} (hv : u.vm = U.vm) (h : hm_Vs u) : hm_Vs U := by
  obtain ⟨⟨a, h1⟩, ⟨b, h2⟩, ⟨c, h3⟩, h4⟩ := h
  exact ⟨⟨a, h1.same hv.symm⟩, ⟨b, h2.same hv.symm⟩, ⟨c, h3.same hv.symm⟩, h4.moved (hv ▸ Vm.Alike.refl u.vm)⟩
theorem hm_inG {y : Nat} {w : Jvm.Cond} (h : hm_wd y w = true) : w ∈ hm_G := by
  simp only [hm_wd, Bool.and_eq_true, decide_eq_true_eq] at h
  exact List.mem_filter.mpr ⟨List.mem_of_getElem? h.1, h.2⟩
theorem hm_inV {y : Nat} {w : Jvm.Cond} (h : hm_wv y w = true) {U : State} (hV : hm_V U) : va_Nw w U := by
  simp only [hm_wv, Bool.and_eq_true, decide_eq_true_eq] at h
  exact hV w (List.mem_of_getElem? h.1) h.2
theorem hm_goodG {ws : List Jvm.Cond} (h : ∀ w ∈ ws, w ∈ hm_G) : GoodIn hm_G ws := fun w hw => ⟨h w hw, good_of_word (List.mem_filter.mp (h w hw)).2⟩
theorem hm_clsOk {c : Nat} (h : c < 11) : hm_cls[c]? = some (hm_cn c, hm_T c, hm_nf c) := by
  have : ∀ c, c < 11 → hm_cls[c]? = some (hm_cn c, hm_T c, hm_nf c) := by
    intro c hc
    rcases (show c = 0 ∨ c = 1 ∨ c = 2 ∨ c = 3 ∨ c = 4 ∨ c = 5 ∨ c = 6 ∨ c = 7 ∨ c = 8 ∨ c = 9 ∨ c = 10 by omega) with rfl | rfl | rfl | rfl | rfl | rfl | rfl | rfl | rfl | rfl | rfl <;> rfl
  exact this c h
def hm_ty (c : Nat) : Nat → FieldType := hm_tys.getD c (fun _ => .int)
/-- what the classes' tables say, decided -/
def hm_ckc (c : Nat) : Bool := (u_ws (hm_cn c) (hm_T c) (hm_nf c)).all (fun w => decide (w ∈ lw_tbl) && goodWord w) &&
  (List.range (hm_nf c)).all (fun k => decide (parseFieldDescriptor (hm_T c k).2.2.1 = some (hm_ty c k)) && (List.range (hm_nf c)).all (fun j => decide (k = j) || decide ((hm_T c k).2.1 ≠ (hm_T c j).2.1)) &&
    (if hm_isR c k then (match hm_ty c k with
      | .object _ => true
      | .array _ => true
      | _ => false) else decide (hm_ty c k = .int)))
set_option maxRecDepth 100000 in
theorem hm_ckcA : (List.range 11).all hm_ckc = true := by decide +kernel
theorem hm_ckc1 {c : Nat} (h : c < 11) : hm_ckc c = true := List.all_eq_true.mp hm_ckcA c (List.mem_range.mpr h)
theorem hm_cIn {c : Nat} (h : c < 11) : ∀ w ∈ u_ws (hm_cn c) (hm_T c) (hm_nf c), w ∈ hm_G := by
  intro w hw
  have h1 := hm_ckc1 h
  simp only [hm_ckc, Bool.and_eq_true] at h1
  have h2 := List.all_eq_true.mp h1.1 w hw
  simp only [Bool.and_eq_true, decide_eq_true_eq] at h2
  exact List.mem_filter.mpr h2
theorem hm_cF {c k : Nat} (h : c < 11) (hk : k < hm_nf c) : parseFieldDescriptor (hm_T c k).2.2.1 = some (hm_ty c k) ∧ (∀ j, j < hm_nf c → k ≠ j → (hm_T c k).2.1 ≠ (hm_T c j).2.1) ∧ (hm_isR c k = false → hm_ty c k = .int) ∧ (hm_isR c k = true → (∃ n, hm_ty c k = .object n) ∨ ∃ n, hm_ty c k = .array n) := by
  have h1 := hm_ckc1 h
  simp only [hm_ckc, Bool.and_eq_true] at h1
  have h2 := List.all_eq_true.mp h1.2 k (List.mem_range.mpr hk)
  simp only [Bool.and_eq_true, decide_eq_true_eq] at h2
  obtain ⟨⟨a1, a2⟩, a3⟩ := h2
  refine ⟨a1, fun j hj hne => ?_, fun hr => ?_, fun hr => ?_⟩
  · have h3 := List.all_eq_true.mp a2 j (List.mem_range.mpr hj)
    simp only [Bool.or_eq_true, decide_eq_true_eq] at h3
    exact h3.resolve_left hne
  · rw [hr] at a3
    simpa using a3
  · rw [hr] at a3
    simp only [if_true] at a3
    split at a3
    · exact Or.inl ⟨_, by assumption⟩
    · exact Or.inr ⟨_, by assumption⟩
    · cases a3
section HL
variable (l : Launch) (D : va_G) (cI : ClassId) (B t0 bs L : Nat) (xs : Nat → Int32)
def hm_Cx (k : Nat) (p : Program) (s : State) (m : MethodId) (args : Array Value) (meth : Method) (c : Code) : Prop :=
  p.tables.exec = Jvm.exec ∧ c.code = hm_cc k ∧ c.maxLocals = hm_mL k ∧ meth.sig.returnType = hm_rt k ∧ s.vm.findClass (hm_own k) = some m.cls ∧ (∀ w ∈ hm_G, w.before args s = true) ∧ meth.locks = false ∧ meth.name = (hm_y k).name ∧ c.exceptionTable.toList = tableOf (hm_hh k)
def hm_C2 (s : State) : Prop := hm_X B t0 bs L xs s s.heap ∧ hm_Y D cI s ∧ hm_V s ∧ hm_Vs s
def hm_Pc (av : List Value) (h : hm_Hp) : Array Value → State → Prop := va_Pc (av.map (hm_tr B t0 bs)) (fun U => hm_W D cI B t0 bs L xs h U.heap ∧ hm_C2 D cI B t0 bs L xs U)
def hm_Qc (Q : hm_Q) : Array Value → State → Outcome → State → Prop := fun _ st oc t => (∃ (r : Option Value) (h' : hm_Hp), oc = .returned (r.map (hm_tr B t0 bs)) ∧ Q (.inr r) h' ∧ hm_W D cI B t0 bs L xs h' t.heap) ∧ va_F (hm_A B) st t
def hm_XC (Q : hm_Q) : String → State → State → Prop := fun E st t => (∃ h' : hm_Hp, Q (.inl E) h' ∧ hm_W D cI B t0 bs L xs h' t.heap) ∧ va_F (hm_A B) st t
def hm_rm (k : Nat) (b : hm_B) : Room := { frames := hm_fr k, cells := b.1, slots := b.2, locals := hm_lo k }
def hm_lm (lv : hm_Lv) : List (Nat × Value) := lv.map (fun q => (q.1, hm_tr B t0 bs q.2))
/-- the machine comes from this place to an end that Q allows -/
def hm_LF : hm_R := fun k pc lv st h b Q => ∀ (p : Program) (e : Env) (s : State) (m : MethodId) (args : Array Value) (below : List Frame) (meth : Method) (c : Code) (H : Heap) (locs : List Loc) (cells slots mc ms : Nat) (ls : Array Slot),
  hm_Cx k p s m args meth c → hm_W D cI B t0 bs L xs h H → hm_C2 D cI B t0 bs L xs s → B + 2 ≤ s.heap.size → va_S (hm_A B) s.heap H locs → lv_has ls (hm_mL k) (hm_lm B t0 bs lv) → cells + b.1 ≤ mc → slots + b.2 ≤ ms →
  W p l e (hm_rm k (mc, ms)) s m args below meth c H locs cells slots (vx_MQ below (hm_Qc D cI B t0 bs L xs Q) (hm_XC D cI B t0 bs L xs Q) args s mc ms (hm_A B)) (F0 m pc ls (st.map (hm_tr B t0 bs)))
end HL
section HL2
variable {D : va_G} {cI : ClassId} {B t0 bs L : Nat} {xs : Nat → Int32}
theorem hm_lget {ls : Array Slot} {n i : Nat} {lv : hm_Lv} {v : Value} (hl : lv_has ls n (hm_lm B t0 bs lv)) (h : hm_get lv i = some v) : ls[i]? = some (.val (hm_tr B t0 bs v)) := by
  have key : ∀ lv : hm_Lv, hm_get lv i = some v → (i, v) ∈ lv := by
    intro lv
    induction lv with
    | nil => intro h; cases h
    | cons q r ih =>
      intro h
      unfold hm_get at h
      split at h
      · rename_i e
        cases h
        rw [← e]
        exact List.mem_cons_self
      · exact List.mem_cons_of_mem _ (ih h)
  exact hl.2.2 (i, hm_tr B t0 bs v) (List.mem_map.mpr ⟨(i, v), key lv h, rfl⟩)
theorem hm_lpos {i : Nat} {lv : hm_Lv} {v : Value} (h : hm_get lv i = some v) : ∃ k : Nat, (hm_lm B t0 bs lv)[k]? = some (i, hm_tr B t0 bs v) := by
  apply List.getElem?_of_mem
  have key : ∀ lv : hm_Lv, hm_get lv i = some v → (i, v) ∈ lv := by
    intro lv
    induction lv with
    | nil => intro h; cases h
    | cons q r ih =>
      intro h
      unfold hm_get at h
      split at h
      · rename_i e
        cases h
        rw [← e]
        exact List.mem_cons_self
      · exact List.mem_cons_of_mem _ (ih h)
  exact List.mem_map.mpr ⟨(i, v), key lv h, rfl⟩
theorem hm_lset1 (lv : hm_Lv) (i : Nat) (v : Value) : (i, hm_tr B t0 bs v) :: (hm_lm B t0 bs lv).filter (fun q => !(q.1 == i) && !(q.1 + 1 == i && q.2.category == 2)) = hm_lm B t0 bs (hm_set1 lv i v) := by
  unfold hm_lm hm_set1
  rw [List.map_cons, List.filter_map]
  congr 2
  apply List.filter_congr
  intro q _
  simp only [Function.comp, hm_tr_cat]
theorem hm_lset2 (lv : hm_Lv) (i : Nat) (v : Value) : (i, hm_tr B t0 bs v) :: (hm_lm B t0 bs lv).filter (fun q => !(q.1 == i) && (!(q.1 == i + 1) && !(q.1 + 1 == i && q.2.category == 2))) = hm_lm B t0 bs (hm_set2 lv i v) := by
  unfold hm_lm hm_set2
  rw [List.map_cons, List.filter_map]
  congr 2
  apply List.filter_congr
  intro q _
  simp only [Function.comp, hm_tr_cat]
theorem hm_cs_tr (st : List Value) : ((st.map (hm_tr B t0 bs)).map fun v => v.category).sum = hm_cs st := by
  unfold hm_cs
  rw [List.map_map]
  congr 1
  apply List.map_congr_left
  intro v _
  exact hm_tr_cat v
theorem hm_largs (vs : List Value) : ∀ n, lv_args n (vs.map (hm_tr B t0 bs)) = hm_lm B t0 bs (lv_args n vs) := by
  induction vs with
  | nil => intro n; rfl
  | cons v r ih =>
    intro n
    simp only [List.map_cons, lv_args, hm_lm, ih, hm_tr_cat]
theorem hm_lsl (vs : List Value) : (lg_sl (vs.map (hm_tr B t0 bs))).length = (lg_sl vs).length := by
  unfold lg_sl
  rw [List.flatMap_map, List.length_flatMap, List.length_flatMap]
  congr 1
  apply List.map_congr_left
  intro a _
  simp only [hm_tr_cat]
  split <;> rfl
theorem hm_Qc_F {Q : hm_Q} {a : Array Value} {st t : State} {o : Outcome} (h : hm_Qc D cI B t0 bs L xs Q a st o t) : va_F (hm_A B) st t := h.2
/-- what holds of a state holds where the heap is H and the tables are warmer -/
theorem hm_C2.to {s U : State} {H : Heap} {locs : List Loc} (h : hm_C2 D cI B t0 bs L xs s) (hS : va_S (hm_A B) s.heap H locs) (hU : U.heap = H) (hW : s.WarmedH U.vm) : hm_C2 D cI B t0 bs L xs U := by
  obtain ⟨⟨z, t1, t2, u1, u2⟩, y, v, vs⟩ := h
  have hq : ∀ a : Nat, a < s.heap.size → ¬ hm_A B a → U.heap[a]? = s.heap[a]? := fun a h1 h2 => by rw [hU]; exact hS.2.1 a h1 h2
  exact ⟨⟨(z.moved hW.alike).kept hq, (t1.moved hW.alike).kept hq, (t2.moved hW.alike).kept hq, (u1.moved hW.alike).kept hq, (u2.moved hW.alike).kept hq⟩, va_K.moved hW.alike y, v.warm hW, vs.warm hW⟩
theorem hm_C2.same {s U : State} (h : hm_C2 D cI B t0 bs L xs s) (hU : U.heap = s.heap) (hv : s.vm = U.vm) : hm_C2 D cI B t0 bs L xs U := by
  obtain ⟨⟨z, t1, t2, u1, u2⟩, y, v, vs⟩ := h
  have ha : s.vm.Alike U.vm := hv ▸ Vm.Alike.refl s.vm
  unfold hm_C2 hm_X
  rw [hU]
  exact ⟨⟨z.moved ha, t1.moved ha, t2.moved ha, u1.moved ha, u2.moved ha⟩, va_K.moved ha y, v.same hv, vs.same hv⟩
theorem hm_blind {av : List Value} {h : hm_Hp} : FrameBlind (hm_Pc D cI B t0 bs L xs av h) := fun a U g mk q => ⟨q.1, q.2.1, q.2.2.same rfl rfl⟩
end HL2
