/-! What lies at or behind the heap's end doesn't matter. -/
section HAg
variable {l : Launch} {D : va_G} {cI : ClassId} {B t0 bs L : Nat} {xs : Nat → Int32} {h h' : hm_Hp} {H : Heap}
theorem hm_ws_ag (hn : h'.1 = h.1) (ha : ∀ i, i < h.1 → h'.2.1 i = h.2.1 i ∧ h'.2.2 i = h.2.2 i) : hm_ws cI B t0 bs h' = hm_ws cI B t0 bs h := by
  have e : hm_Ls B h' = hm_Ls B h := by
    unfold hm_Ls
    rw [hn]
    congr 1
    apply List.filter_congr
    intro j hj
    unfold hm_kn
    rw [(ha j (List.mem_range.mp hj)).1]
  show va_pl (hm_Ls B h') (hm_wf cI B t0 bs h') = va_pl (hm_Ls B h) (hm_wf cI B t0 bs h)
  rw [e]
  apply List.map_congr_left
  intro a ham
  obtain ⟨j, hj, rfl⟩ := List.mem_map.mp ham
  have hj2 := List.mem_range.mp (List.mem_filter.mp hj).1
  show (B + j, hm_wf cI B t0 bs h' (B + j)) = (B + j, hm_wf cI B t0 bs h (B + j))
  unfold hm_wf
  rw [Nat.add_sub_cancel_left, (ha j hj2).1, (ha j hj2).2]
theorem hm_W_ag (hn : h'.1 = h.1) (ha : ∀ i, i < h.1 → h'.2.1 i = h.2.1 i ∧ h'.2.2 i = h.2.2 i) (hW : hm_W D cI B t0 bs L xs h H) : hm_W D cI B t0 bs L xs h' H := by
  obtain ⟨⟨f1, f2, f3, f4, f5, f6, f7⟩, hz, hP, hD⟩ := hW
  have a0 := ha 0 (Nat.lt_of_lt_of_le (by decide) f1)
  have a1 := ha 1 (Nat.lt_of_lt_of_le (by decide) f1)
  have ew := hm_ws_ag (cI := cI) (B := B) (t0 := t0) (bs := bs) hn ha
  exact ⟨⟨hn ▸ f1, by rw [a0.1]; exact f2, by rw [a0.1]; exact f3, by rw [a0.2]; exact f4, by rw [a1.1]; exact f5, by rw [a1.1]; exact f6, by rw [a1.2]; exact f7⟩, by rw [hn]; exact hz, by rw [ew]; exact hP, by rw [ew]; exact hD⟩
theorem hm_LF_ag {k pc : Nat} {lv : hm_Lv} {st : List Value} {b : hm_B} {Q : hm_Q} (hn : h'.1 = h.1) (ha : ∀ i, i < h.1 → h'.2.1 i = h.2.1 i ∧ h'.2.2 i = h.2.2 i)
    (K : hm_LF l D cI B t0 bs L xs k pc lv st h' b Q) : hm_LF l D cI B t0 bs L xs k pc lv st h b Q := by
  intro p e s m args below meth c Hp locs cells slots mc ms ls C hW hC2 hz hS hl hcb hsb
  exact K p e s m args below meth c Hp locs cells slots mc ms ls C (hm_W_ag hn ha hW) hC2 hz hS hl hcb hsb
/-- hm_Cm, and cells behind the end are free -/
def hm_Ce (R : hm_R) : Prop := hm_Cm R ∧ ∀ k pc lv st (n : Nat) (sh sh' : Nat → hm_Sh) (s s' : hm_St) b Q, (∀ i, i < n → sh' i = sh i ∧ s' i = s i) → R k pc lv st (n, sh', s') b Q → R k pc lv st (n, sh, s) b Q
theorem hm_LF_ce (hfl : l.stackTraces = false) : hm_Ce (hm_LF l D cI B t0 bs L xs) :=
  ⟨hm_LF_cm hfl, fun _ _ _ _ n sh sh' s s' _ _ ha K => hm_LF_ag (h := (n, sh, s)) (h' := (n, sh', s')) rfl ha K⟩
end HAg
