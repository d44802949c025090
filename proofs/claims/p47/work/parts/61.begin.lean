/-! The machine at the law's entry holds the abstract one's start. -/
def hm_ix (c : Nat) : Nat := [576, 284, 73, 328, 206, 349, 245, 176, 79, 304, 65].getD c 0
theorem hm_inst : ∀ c, c < 11 → lw_tbl[hm_ix c]? = some (Jvm.Cond.instantiable (hm_cn c) (hm_nf c)) := by decide +kernel
def hm_s2 (xs : Nat → Int32) : hm_St := fun i => if i = 0 then hm_tab else if i = 1 then xs else fun _ => 0
def hm_tm : Jvm.Term := Jvm.Term.static "CurvekeyHouse" "TABLES" "[I"
theorem hm_tabC : ∀ j, j < 16 → Jvm.Cond.eq (.elem hm_tm (.int (Int32.ofNat j))) (.int (hm_tab j)) ∈ flatC (Jvm.Cond.and given_1 narrow_1) := by decide +kernel
section HBeg
variable {s : State} {m : MethodId} {b L : Nat} {xs : Nat → Int32}
theorem hm_w (hts : ∀ w ∈ lw_tbl, w.before #[Value.ref b] s = true) (i : Nat) {w : Jvm.Cond} (h : lw_tbl[i]? = some w) : w.before #[Value.ref b] s = true := hts w (List.mem_of_getElem? h)
theorem hm_kcls (hts : ∀ w ∈ lw_tbl, w.before #[Value.ref b] s = true) (c : Nat) (h : c < 11) : ∃ (q : ClassId × (Nat → Nat)), u_Kn s (hm_cn c) (hm_T c) (hm_nf c) q.1 q.2 := by
  have hG : ∀ w ∈ hm_G, w.before #[Value.ref b] s = true := fun w hw => hts w (List.mem_filter.mp hw).1
  obtain ⟨cC, iS, hk⟩ := u_known (N := hm_nf c) (n := hm_nf c) hG (hm_cIn h) (hm_w hts (hm_ix c) (hm_inst c h))
  exact ⟨(cC, iS), hk⟩
theorem hm_beginY (hts : ∀ w ∈ lw_tbl, w.before #[Value.ref b] s = true) : ∃ (D : va_G) (cI : ClassId), hm_Y D cI s := by
  have key : ∀ c : Nat, ∃ q : ClassId × (Nat → Nat), c < 11 → u_Kn s (hm_cn c) (hm_T c) (hm_nf c) q.1 q.2 := by
    intro c
    by_cases h : c < 11
    · obtain ⟨q, hq⟩ := hm_kcls hts c h
      exact ⟨q, fun _ => hq⟩
    · obtain ⟨q, hq⟩ := hm_kcls hts 0 (by decide)
      exact ⟨q, fun h2 => absurd h2 h⟩
  obtain ⟨f, hf⟩ := Classical.axiomOfChoice key
  obtain ⟨cA, kA, comp, h1, h2, h3⟩ := Cond.arrayClass_spec (hm_w hts 88 (w := .arrayClass .int) (by decide +kernel))
  refine ⟨(fun c => (f c).1, fun c => (f c).2), cA, fun c q hq => ?_, fun k q hq => ?_⟩
  · have hc : c < 11 := (List.getElem?_eq_some_iff.mp hq).1
    have e := hm_clsOk hc
    rw [hq] at e
    cases e
    exact hf c hc
  · have hk : k < 1 := (List.getElem?_eq_some_iff.mp hq).1
    rw [show k = 0 by omega] at hq
    cases hq
    exact ⟨fun n z => ⟨(fun k h => by cases h), kA, h2, comp, h3⟩, h1⟩
theorem hm_beginV (hts : ∀ w ∈ lw_tbl, w.before #[Value.ref b] s = true) : hm_V s := by
  intro w hw hv
  refine va_Nw.of ?_ (hts w hw)
  cases w <;> first | rfl | exact absurd hv (by decide) | exact absurd hv Bool.false_ne_true
theorem hm_beginVs (hts : ∀ w ∈ lw_tbl, w.before #[Value.ref b] s = true) (hgv : (Jvm.Cond.and given_1 narrow_1).before #[Value.ref b] s = true) : hm_Vs s := by
  have hs := flat_of_before _ hgv
  obtain ⟨q, hq⟩ := hm_kcls hts 10 (by decide)
  have hcur : s.vm.findClass "CurvekeyHouse" = some q.1 := hq.2.1
  have str : ∀ (i k : Nat) (tx : String), lw_tbl[i]? = some (Jvm.Cond.stringRef "CurvekeyHouse" k tx) → ∃ sa, vk_R "CurvekeyHouse" k tx sa s := by
    intro i k tx hi
    have h1 := hm_w hts i hi
    obtain ⟨-, -, -, sa, -, -, -, -, -, hev⟩ := Cond.stringRef_spec hcur h1
    exact ⟨sa, vk_R.of h1 hev⟩
  exact ⟨str 459 _ _ (by decide +kernel), str 647 _ _ (by decide +kernel), str 763 _ _ (by decide +kernel), va_Nc.of (hs _ (by decide +kernel))⟩
theorem hm_size2 (hts : ∀ w ∈ lw_tbl, w.before #[Value.ref b] s = true) (hgv : (Jvm.Cond.and given_1 narrow_1).before #[Value.ref b] s = true) : 2 ≤ s.heap.size := by
  have hs := flat_of_before _ hgv
  obtain ⟨a1, c1, cell1, k1, -, -, e1, -, e2, -, -⟩ := Cond.exactly_spec (hs (.exactly (.string "CurvekeyHouse" 410) "java/lang/String") (by decide +kernel))
  obtain ⟨c, k, i, f, a, cell, -, -, -, -, hcell, hst, -, -, -⟩ := Cond.laysStatic_spec (hm_w hts 90 (w := .laysStatic "CurvekeyHouse" "TABLES" "[I") (by decide +kernel))
  have l1 := (Array.getElem?_eq_some_iff.mp e1).1
  have l2 := (Array.getElem?_eq_some_iff.mp hcell).1
  by_cases h : a1 = a
  · rw [h, hcell] at e1
    cases e1
    rw [hst] at e2
    cases e2
  · have h2 : ¬ @Eq Nat a1 a := h
    have l3 : (a1 : Nat) < s.heap.size := l1
    have l4 : (a : Nat) < s.heap.size := l2
    omega
theorem hm_beginX {B : Nat} (hB : B + 2 = s.heap.size) (hts : ∀ w ∈ lw_tbl, w.before #[Value.ref b] s = true) (hgv : (Jvm.Cond.and given_1 narrow_1).before #[Value.ref b] s = true) (hX : va_X b L xs s s.heap) (hbl : b < s.heap.size) (hL : L ≤ 260) : ∃ t0, hm_X B t0 b L xs s s.heap := by
  have hs := flat_of_before _ hgv
  have hA : ∀ a : Nat, a < s.heap.size → ¬ hm_A B a := fun a ha h => by
    unfold hm_A at h
    omega
  obtain ⟨t0, ht, hT⟩ := va_Tof (args := #[Value.ref b]) (s := s) (tm := hm_tm) (ty := .int) (N := 16) (f := fun j => .int (hm_tab j)) (A := hm_A B) (by decide) (hs _ (by decide +kernel)) (va_eqt (z := 16) (hs _ (by decide +kernel))) (fun j hj => va_eqt (hs _ (hm_tabC j hj))) hA
  have hth := hm_w hts 57 (w := .initialized "java/lang/Throwable") (by decide +kernel)
  refine ⟨t0, va_Zref (hm_w hts 90 (by decide +kernel)) (hm_w hts 46 (by decide +kernel)) ht hA, hT, ?_, vx_Zqof (hm_w hts 445 (by decide +kernel)) hth (hs _ (by decide +kernel)) hA, vx_Zqof (hm_w hts 447 (by decide +kernel)) hth (hs _ (by decide +kernel)) hA⟩
  obtain ⟨scr, h1, h2, h3, h4, h5⟩ := hX
  refine ⟨scr, h1, h2, h3, by omega, ?_, h5, hA b hbl⟩
  rw [h4]
theorem hm_beginW {D : va_G} {cI : ClassId} {B t0 : Nat} (hB : B + 2 = s.heap.size) : hm_W D cI B t0 b L xs (2, hm_sh0 L, hm_s2 xs) s.heap := by
  have e : hm_ws cI B t0 b (2, hm_sh0 L, hm_s2 xs) = [] := rfl
  refine ⟨⟨Nat.le_refl 2, rfl, rfl, rfl, rfl, rfl, rfl⟩, hB.symm, ?_, ?_⟩
  · rw [e]
    exact fun k q h => by simp at h
  · rw [e]
    exact ⟨fun i j p q h => by simp at h, fun k q h => by simp at h⟩
end HBeg
