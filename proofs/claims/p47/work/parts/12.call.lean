/-! Calls: from the callee's run to its contract; what comes behind a call. -/
section HCall
variable {l : Launch} {D : va_G} {cI : ClassId} {B t0 bs L : Nat} {xs : Nat → Int32}
theorem hm_hh0 {k : Nat} (h : ¬ k = 195) : tableOf (hm_hh k) = [] := by
  unfold hm_hh
  rw [if_neg h]
  rfl
theorem hm_met {m : Nat} (hpl : plainName (hm_own m) = true) {av : List Value} {h : hm_Hp} {b : hm_B} {Q : hm_Q} (H : hm_LF l D cI B t0 bs L xs m 0 (lv_args 0 av) [] h b Q) (hsl : (lg_sl av).length ≤ hm_mL m) :
    vx_Met l (hm_y m) (hm_wl m) (hm_rm m b) (hm_Pc D cI B t0 bs L xs av h) (hm_Qc D cI B t0 bs L xs Q) (hm_XC D cI B t0 bs L xs Q) b.1 b.2 (hm_A B) := by
  have hle : lv_has ((lg_sl (av.map (hm_tr B t0 bs)) ++ List.replicate (hm_mL m - (lg_sl (av.map (hm_tr B t0 bs))).length) Slot.unset).toArray) (hm_mL m) (hm_lm B t0 bs (lv_args 0 av)) := by
    rw [← hm_largs]
    exact lv_entry _ (by rw [hm_lsl]; exact hsl)
  by_cases hm : m = 195
  · refine vx_ofWH (cc := hm_cc m) (maxL := hm_mL m) (ret := hm_rt m) (hh := hm_hh m) hpl (ws' := hm_G) (by unfold hm_wl hm_cw; rw [if_pos hm]) ?_
    intro p e s m' args below meth c s₁ Bd hml hv
    obtain ⟨rfl, hW, hC2⟩ := hv
    have hts := atoms_spec (ws := hm_wl m) Bd.pre
    have htab : c.exceptionTable.toList = tableOf (hm_hh m) := vx_table (x := hm_y m) Bd (bytes := hm_cc m) (maxL' := hm_mL m) (ret' := hm_rt m) (by have h9 := hts (hm_cw m) List.mem_cons_self; unfold hm_cw at h9; rw [if_pos hm] at h9; exact h9)
    rw [lg_entry_eq]
    exact H p e s m' _ below meth c s.heap [] 0 0 b.1 b.2 _ ⟨Bd.exec, Bd.bytes, hml, Bd.returns, findClass_of_methodNamed Bd.named, fun w hw => hts w (List.mem_cons_of_mem _ hw), Bd.notSynchronized, (name_of_methodNamed Bd.named Bd.method).1, htab⟩ hW hC2 (by rw [hW.2.1]; exact Nat.add_le_add_left hW.1.1 B) va_S.rf hle (by omega) (by omega)
  · refine vx_ofW (cc := hm_cc m) (maxL := hm_mL m) (ret := hm_rt m) hpl (ws' := hm_G) (by unfold hm_wl hm_cw; rw [if_neg hm]) ?_
    intro p e s m' args below meth c s₁ Bd hml htab hv
    obtain ⟨rfl, hW, hC2⟩ := hv
    have hts := atoms_spec (ws := hm_wl m) Bd.pre
    rw [lg_entry_eq]
    exact H p e s m' _ below meth c s.heap [] 0 0 b.1 b.2 _ ⟨Bd.exec, Bd.bytes, hml, Bd.returns, findClass_of_methodNamed Bd.named, fun w hw => hts w (List.mem_cons_of_mem _ hw), Bd.notSynchronized, (name_of_methodNamed Bd.named Bd.method).1, by rw [hm_hh0 hm]; exact List.eq_nil_iff_forall_not_mem.mpr htab⟩ hW hC2 (by rw [hW.2.1]; exact Nat.add_le_add_left hW.1.1 B) va_S.rf hle (by omega) (by omega)
theorem hm_bk (r : Option Value) (rest : List Value) : (r.map (hm_tr B t0 bs)).toList ++ rest.map (hm_tr B t0 bs) = (r.toList ++ rest).map (hm_tr B t0 bs) := by cases r <;> rfl
theorem hm_hasSub {ls : Array Slot} {n : Nat} {l1 l2 : List (Nat × Value)} (h : lv_has ls n l1) (hs : ∀ q ∈ l2, q ∈ l1) : lv_has ls n l2 := ⟨h.1, h.2.1, fun q hq => h.2.2 q (hs q hq)⟩
section
variable {p : Program} {e : Env} {s : State} {m' : MethodId} {args : Array Value} {below : List Frame} {meth : Method} {c : Code} {H : Heap} {locs : List Loc} {cells slots mc ms : Nat} {ls : Array Slot}
theorem hm_behind {k pc : Nat} {lv : hm_Lv} {rest : List Value} {b b1 : hm_B} {Q : hm_Q} (C : hm_Cx k p s m' args meth c) (hC2 : hm_C2 D cI B t0 bs L xs s) (hs : B + 2 ≤ s.heap.size) (hl : lv_has ls (hm_mL k) (hm_lm B t0 bs lv))
    (hcb : cells + b.1 ≤ mc) (hsb : slots + b.2 ≤ ms) (hb1 : b1.1 ≤ b.1) (hb2 : b1.2 ≤ b.2) {v : Option Value} {st t : State} {H1 : Heap} {locs1 : List Loc} (ht : t.heap = H1) {a : Array Value}
    (hq : hm_Qc D cI B t0 bs L xs (hm_K (hm_LF l D cI B t0 bs L xs) k pc lv rest (b.1 - b1.1, b.2 - b1.2) Q) a st (.returned v) t) (hS1 : va_S (hm_A B) s.heap H1 locs1) :
    W p l e (hm_rm k (mc, ms)) s m' args below meth c H1 locs1 (cells + b1.1) (slots + b1.2) (vx_MQ below (hm_Qc D cI B t0 bs L xs Q) (hm_XC D cI B t0 bs L xs Q) args s mc ms (hm_A B)) (F0 m' (pc + 3) ls (v.toList ++ rest.map (hm_tr B t0 bs))) := by
  obtain ⟨⟨r, h', e1, e2, e3⟩, -⟩ := hq
  cases e1
  rw [hm_bk]
  exact e2 p e s m' args below meth c H1 locs1 (cells + b1.1) (slots + b1.2) mc ms ls C (by rw [← ht]; exact e3) hC2 hs hS1 hl (by show _ + (b.1 - b1.1) ≤ _; omega) (by show _ + (b.2 - b1.2) ≤ _; omega)
theorem hm_thrown {k pc : Nat} {lv : hm_Lv} {rest : List Value} {b b1 : hm_B} {Q : hm_Q} (C : hm_Cx k p s m' args meth c) (hC2 : hm_C2 D cI B t0 bs L xs s) (hs : B + 2 ≤ s.heap.size) (hl : lv_has ls (hm_mL k) (hm_lm B t0 bs lv))
    (hcb : cells + b.1 ≤ mc) (hsb : slots + b.2 ≤ ms) (hb1 : b1.1 ≤ b.1) (hb2 : b1.2 ≤ b.2) {E : String} {ce : Cell} {q9 : Addr} {st t : State} {H1 : Heap} {locs1 : List Loc} (ht : t.heap = H1)
    (hx : hm_XC D cI B t0 bs L xs (hm_K (hm_LF l D cI B t0 bs L xs) k pc lv rest (b.1 - b1.1, b.2 - b1.2) Q) E st t) (hS1 : va_S (hm_A B) s.heap H1 locs1) (hce : H1[q9]? = some ce) (hcv : ce.vm = .none) (hcl : s.vm.findClass E = some ce.cls) :
    vx_W p l e (hm_rm k (mc, ms)) s m' args below meth c H1 locs1 (cells + b1.1) (slots + b1.2) (vx_MQ below (hm_Qc D cI B t0 bs L xs Q) (hm_XC D cI B t0 bs L xs Q) args s mc ms (hm_A B)) (F0 m' pc ls (rest.map (hm_tr B t0 bs))) q9 := by
  obtain ⟨⟨h', e2, e3⟩, -⟩ := hx
  have C0 := C
  obtain ⟨hx, hb, hml, hr, hown, hts, hlocks, hnm, hex⟩ := C
  unfold hm_K at e2
  dsimp only at e2
  by_cases hk : k = 195
  · subst hk
    rw [if_pos rfl] at e2
    obtain ⟨p1, p2, e2⟩ := e2
    have htab : c.exceptionTable.toList = [⟨26, 214, 217, 70⟩, ⟨26, 214, 220, 72⟩] := hex
    have go : ∀ (hp tg : Nat), decode (hm_cc 195) hp = .ok (.astore 7, 2) → tg = hp + 2 → hm_LF l D cI B t0 bs L xs 195 tg (lv.filter (fun q => !(q.1 == 7) && !(q.1 + 1 == 7 && q.2.category == 2))) [] h' (b.1 - b1.1, b.2 - b1.2) Q →
        W p l e (hm_rm 195 (mc, ms)) s m' args below meth c H1 locs1 (cells + b1.1) (slots + b1.2) (vx_MQ below (hm_Qc D cI B t0 bs L xs Q) (hm_XC D cI B t0 bs L xs Q) args s mc ms (hm_A B)) (F0 m' hp ls [.ref q9]) := by
      intro hp tg hd htg F
      subst htg
      refine lv_astore hx hb hd hl (by decide +kernel) rfl (fun ls' hl' => ?_)
      refine F p e s m' args below meth c H1 locs1 (cells + b1.1) (slots + b1.2) mc ms ls' C0 (by rw [← ht]; exact e3) hC2 hs hS1 (hm_hasSub hl' ?_) (by show _ + (b.1 - b1.1) ≤ _; omega) (by show _ + (b.2 - b1.2) ≤ _; omega)
      intro q hq
      obtain ⟨w, hw, rfl⟩ := List.mem_map.mp hq
      obtain ⟨w1, w2⟩ := List.mem_filter.mp hw
      refine List.mem_cons_of_mem _ (List.mem_filter.mpr ⟨List.mem_map.mpr ⟨w, w1, rfl⟩, ?_⟩)
      dsimp only
      rw [hm_tr_cat]
      exact w2
    have hv := hC2.2.2.1
    have cst : ∀ (y : Nat) (E9 : String), hm_wv y (.castable E9 E9) = true → (Cond.castable E9 E9).before args s = true := fun y E9 h9 => va_Nw.use rfl (hm_inV h9 hv)
    rcases e2 with ⟨rfl, F⟩ | ⟨rfl, F⟩
    · exact vx_catch hown [] ⟨26, 214, 217, 70⟩ [⟨26, 214, 220, 72⟩] htab (fun z hz => by cases hz) (by simp [covers]; omega) (by decide) (name := "java/lang/IndexOutOfBoundsException") (hts _ (hm_inG (y := 614) (by decide +kernel))) (cst 756 _ (by decide +kernel)) hce hcv hcl (go 217 219 (by decide +kernel) rfl F)
    · refine vx_catch hown [⟨26, 214, 217, 70⟩] ⟨26, 214, 220, 72⟩ [] htab (fun z hz => ?_) (by simp [covers]; omega) (by decide) (name := "java/lang/IllegalStateException") (hts _ (hm_inG (y := 615) (by decide +kernel))) (cst 640 _ (by decide +kernel)) hce hcv hcl (go 220 222 (by decide +kernel) rfl F)
      cases hz with
      | head => exact Or.inr ⟨by decide, "java/lang/IndexOutOfBoundsException", hts _ (hm_inG (y := 614) (by decide +kernel)), hC2.2.2.2.2.2.2⟩
      | tail _ hz => cases hz
  · rw [if_neg hk] at e2
    rw [hm_hh0 hk] at hex
    exact vx_out (fun x hx => by rw [hex] at hx; cases hx) hlocks hce hcv hcl (fun t' h1 _ => ⟨⟨h', e2, by rw [h1, ← ht]; exact e3⟩, hS1.F h1⟩) hS1.2.2 (by omega) (by omega)
end
end HCall
