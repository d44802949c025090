/-! hm_LF is closed under steps: the cases. -/
section HStep
variable {l : Launch} {D : va_G} {cI : ClassId} {B t0 bs L : Nat} {xs : Nat → Int32}
set_option maxHeartbeats 4000000 in
set_option maxRecDepth 20000 in
theorem hm_LF_step (hfl : l.stackTraces = false) {k pc : Nat} {lv : hm_Lv} {st : List Value} {h : hm_Hp} {b : hm_B} {Q : hm_Q} (hs : hm_Step (hm_LF l D cI B t0 bs L xs) k pc lv st h b Q) : hm_LF l D cI B t0 bs L xs k pc lv st h b Q := by
  unfold hm_Step at hs
  split at hs
  case h_2 => exact hs.elim
  rename_i i n x y z heq
  have hc := hm_ok heq
  clear heq
  intro p e s m' args below meth c H locs cells slots mc ms ls C hW hC2 hsz hS hl hcb hsb
  have C0 := C
  obtain ⟨hx, hb, hml, hr, hown, hts, hlocks, hnm, hex⟩ := C
  cases i with
  | iconst v =>
    have F : hm_LF l D cI B t0 bs L xs k (pc + n) lv (.int (Int32.ofInt v) :: st) h b Q := hs
    have G := F p e s m' args below meth c H locs cells slots mc ms ls C0 hW hC2 hsz hS hl hcb hsb
    simp only [hm_ck, Bool.or_eq_true, Bool.and_eq_true, decide_eq_true_eq] at hc
    rcases hc with ((⟨rfl, h1⟩ | ⟨rfl, h1, h2⟩) | ⟨rfl, h1, h2⟩) | ⟨rfl, h1, h2⟩
    · exact lv_iconst hx hb (hm_dcs h1) rfl G
    · exact lv_bipush hx hb (hm_dcs h1) h2 G
    · exact lv_sipush hx hb (hm_dcs h1) h2 G
    · exact lv_ldc hx hb hown (hts _ (hm_inG h2)) (hm_dcs h1) G
  | lconst v => exact lv_lconst hx hb (hm_dcs hc) rfl (hs p e s m' args below meth c H locs cells slots mc ms ls C0 hW hC2 hsz hS hl hcb hsb)
  | ldc2_w v =>
    simp only [hm_ck, Bool.and_eq_true] at hc
    exact lv_ldc2 hx hb hown (hts _ (hm_inG hc.2)) (hm_dcs hc.1) (hs p e s m' args below meth c H locs cells slots mc ms ls C0 hW hC2 hsz hS hl hcb hsb)
  | iload_n j =>
    change hm_ldi _ _ _ at hs
    unfold hm_ldi at hs
    split at hs
    · rename_i v hg
      exact lv_iload_n hx hb (hm_dcs hc) rfl (hm_lget hl hg) (hs p e s m' args below meth c H locs cells slots mc ms ls C0 hW hC2 hsz hS hl hcb hsb)
    · exact hs.elim
  | iload j =>
    change hm_ldi _ _ _ at hs
    unfold hm_ldi at hs
    split at hs
    · rename_i v hg
      exact lv_iload hx hb (hm_dcs hc) (hm_lget hl hg) (hs p e s m' args below meth c H locs cells slots mc ms ls C0 hW hC2 hsz hS hl hcb hsb)
    · exact hs.elim
  | lload_n j =>
    change hm_ldl _ _ _ at hs
    unfold hm_ldl at hs
    split at hs
    · rename_i v hg
      exact lv_lload_n hx hb (hm_dcs hc) rfl (hm_lget hl hg) (hs p e s m' args below meth c H locs cells slots mc ms ls C0 hW hC2 hsz hS hl hcb hsb)
    · exact hs.elim
  | lload j =>
    change hm_ldl _ _ _ at hs
    unfold hm_ldl at hs
    split at hs
    · rename_i v hg
      exact lv_lload hx hb (hm_dcs hc) (hm_lget hl hg) (hs p e s m' args below meth c H locs cells slots mc ms ls C0 hW hC2 hsz hS hl hcb hsb)
    · exact hs.elim
  | aload_n j =>
    change hm_lda _ _ _ at hs
    unfold hm_lda at hs
    split at hs
    · rename_i v hg
      exact lv_aload_n hx hb (hm_dcs hc) rfl (hm_lget hl hg) (hs p e s m' args below meth c H locs cells slots mc ms ls C0 hW hC2 hsz hS hl hcb hsb)
    · exact hs.elim
  | aload j =>
    change hm_lda _ _ _ at hs
    unfold hm_lda at hs
    split at hs
    · rename_i v hg
      exact lv_aload hx hb (hm_dcs hc) (hm_lget hl hg) (hs p e s m' args below meth c H locs cells slots mc ms ls C0 hW hC2 hsz hS hl hcb hsb)
    · exact hs.elim
  | istore_n j =>
    simp only [hm_ck, Bool.and_eq_true, decide_eq_true_eq] at hc
    change hm_un _ _ at hs
    unfold hm_un at hs
    split at hs
    · rename_i v r
      exact lv_istore_n hx hb (hm_dcs hc.1) rfl hl hc.2 (hm_lset1 lv j (.int v)) (fun ls' hl' => hs p e s m' args below meth c H locs cells slots mc ms ls' C0 hW hC2 hsz hS hl' hcb hsb)
    · exact hs.elim
  | istore j =>
    simp only [hm_ck, Bool.and_eq_true, decide_eq_true_eq] at hc
    change hm_un _ _ at hs
    unfold hm_un at hs
    split at hs
    · rename_i v r
      exact lv_istore hx hb (hm_dcs hc.1) hl hc.2 (hm_lset1 lv j (.int v)) (fun ls' hl' => hs p e s m' args below meth c H locs cells slots mc ms ls' C0 hW hC2 hsz hS hl' hcb hsb)
    · exact hs.elim
  | lstore_n j =>
    simp only [hm_ck, Bool.and_eq_true, decide_eq_true_eq] at hc
    change hm_ul _ _ at hs
    unfold hm_ul at hs
    split at hs
    · rename_i v r
      exact lv_lstore_n hx hb (hm_dcs hc.1) rfl hl hc.2 (hm_lset2 lv j (.long v)) (fun ls' hl' => hs p e s m' args below meth c H locs cells slots mc ms ls' C0 hW hC2 hsz hS hl' hcb hsb)
    · exact hs.elim
  | lstore j =>
    simp only [hm_ck, Bool.and_eq_true, decide_eq_true_eq] at hc
    change hm_ul _ _ at hs
    unfold hm_ul at hs
    split at hs
    · rename_i v r
      exact lv_lstore hx hb (hm_dcs hc.1) hl hc.2 (hm_lset2 lv j (.long v)) (fun ls' hl' => hs p e s m' args below meth c H locs cells slots mc ms ls' C0 hW hC2 hsz hS hl' hcb hsb)
    · exact hs.elim
  | astore_n j =>
    simp only [hm_ck, Bool.and_eq_true, decide_eq_true_eq] at hc
    change hm_rfs _ _ at hs
    unfold hm_rfs at hs
    split at hs
    · rename_i v r
      exact lv_astore_n hx hb (hm_dcs hc.1) rfl hl hc.2 (hm_lset1 lv j (.ref v)) (fun ls' hl' => hs p e s m' args below meth c H locs cells slots mc ms ls' C0 hW hC2 hsz hS hl' hcb hsb)
    · exact hs.elim
  | astore j =>
    simp only [hm_ck, Bool.and_eq_true, decide_eq_true_eq] at hc
    change hm_rfs _ _ at hs
    unfold hm_rfs at hs
    split at hs
    · rename_i v r
      exact lv_astore hx hb (hm_dcs hc.1) hl hc.2 (hm_lset1 lv j (.ref v)) (fun ls' hl' => hs p e s m' args below meth c H locs cells slots mc ms ls' C0 hW hC2 hsz hS hl' hcb hsb)
    · exact hs.elim
  | iinc j d =>
    simp only [hm_ck, Bool.and_eq_true, decide_eq_true_eq] at hc
    change hm_ldi _ _ _ at hs
    unfold hm_ldi at hs
    split at hs
    · rename_i v hg
      obtain ⟨q, hq⟩ := hm_lpos (B := B) (t0 := t0) (bs := bs) hg
      exact lv_iinc hx hb (hm_dcs hc.1) hl hq rfl hc.2 (hm_lset1 lv j (.int (v + Int32.ofInt d))) (fun ls' hl' => hs p e s m' args below meth c H locs cells slots mc ms ls' C0 hW hC2 hsz hS hl' hcb hsb)
    · exact hs.elim
  | iadd =>
    change hm_bin _ _ at hs
    unfold hm_bin at hs
    split at hs
    · exact lv_iadd hx hb (hm_dcs hc) (hs p e s m' args below meth c H locs cells slots mc ms ls C0 hW hC2 hsz hS hl hcb hsb)
    · exact hs.elim
  | isub =>
    change hm_bin _ _ at hs
    unfold hm_bin at hs
    split at hs
    · exact lv_isub hx hb (hm_dcs hc) (hs p e s m' args below meth c H locs cells slots mc ms ls C0 hW hC2 hsz hS hl hcb hsb)
    · exact hs.elim
  | imul =>
    change hm_bin _ _ at hs
    unfold hm_bin at hs
    split at hs
    · exact lv_imul hx hb (hm_dcs hc) (hs p e s m' args below meth c H locs cells slots mc ms ls C0 hW hC2 hsz hS hl hcb hsb)
    · exact hs.elim
  | idiv =>
    change hm_bin _ _ at hs
    unfold hm_bin at hs
    split at hs
    · exact lv_idiv hx hb (hm_dcs hc) hs.1 (hs.2 p e s m' args below meth c H locs cells slots mc ms ls C0 hW hC2 hsz hS hl hcb hsb)
    · exact hs.elim
  | irem =>
    change hm_bin _ _ at hs
    unfold hm_bin at hs
    split at hs
    · exact lv_irem hx hb (hm_dcs hc) hs.1 (hs.2 p e s m' args below meth c H locs cells slots mc ms ls C0 hW hC2 hsz hS hl hcb hsb)
    · exact hs.elim
  | iand =>
    change hm_bin _ _ at hs
    unfold hm_bin at hs
    split at hs
    · exact lv_iand hx hb (hm_dcs hc) (hs p e s m' args below meth c H locs cells slots mc ms ls C0 hW hC2 hsz hS hl hcb hsb)
    · exact hs.elim
  | ior =>
    change hm_bin _ _ at hs
    unfold hm_bin at hs
    split at hs
    · exact lv_ior hx hb (hm_dcs hc) (hs p e s m' args below meth c H locs cells slots mc ms ls C0 hW hC2 hsz hS hl hcb hsb)
    · exact hs.elim
  | ishl =>
    change hm_bin _ _ at hs
    unfold hm_bin at hs
    split at hs
    · exact lv_ishl hx hb (hm_dcs hc) (hs p e s m' args below meth c H locs cells slots mc ms ls C0 hW hC2 hsz hS hl hcb hsb)
    · exact hs.elim
  | ishr =>
    change hm_bin _ _ at hs
    unfold hm_bin at hs
    split at hs
    · exact lv_ishr hx hb (hm_dcs hc) (hs p e s m' args below meth c H locs cells slots mc ms ls C0 hW hC2 hsz hS hl hcb hsb)
    · exact hs.elim
  | i2l =>
    change hm_un _ _ at hs
    unfold hm_un at hs
    split at hs
    · exact lv_i2l hx hb (hm_dcs hc) rfl (hs p e s m' args below meth c H locs cells slots mc ms ls C0 hW hC2 hsz hS hl hcb hsb)
    · exact hs.elim
  | ladd =>
    change hm_binl _ _ at hs
    unfold hm_binl at hs
    split at hs
    · exact lv_ladd hx hb (hm_dcs hc) (hs p e s m' args below meth c H locs cells slots mc ms ls C0 hW hC2 hsz hS hl hcb hsb)
    · exact hs.elim
  | lmul =>
    change hm_binl _ _ at hs
    unfold hm_binl at hs
    split at hs
    · exact lv_lmul hx hb (hm_dcs hc) (hs p e s m' args below meth c H locs cells slots mc ms ls C0 hW hC2 hsz hS hl hcb hsb)
    · exact hs.elim
  | lcmp =>
    change hm_binl _ _ at hs
    unfold hm_binl at hs
    split at hs
    · exact W.lcmp hx hb (hm_dcs hc) (hs p e s m' args below meth c H locs cells slots mc ms ls C0 hW hC2 hsz hS hl hcb hsb)
    · exact hs.elim
  | dup =>
    change hm_tp _ _ at hs
    unfold hm_tp at hs
    split at hs
    · exact lv_dup hx hb (hm_dcs hc) (by rw [hm_tr_cat]; exact hs.1) (hs.2 p e s m' args below meth c H locs cells slots mc ms ls C0 hW hC2 hsz hS hl hcb hsb)
    · exact hs.elim
  | pop =>
    change hm_tp _ _ at hs
    unfold hm_tp at hs
    split at hs
    · exact lv_pop hx hb (hm_dcs hc) (by rw [hm_tr_cat]; exact hs.1) (hs.2 p e s m' args below meth c H locs cells slots mc ms ls C0 hW hC2 hsz hS hl hcb hsb)
    · exact hs.elim
  | goto t =>
    simp only [hm_ck, Bool.and_eq_true, decide_eq_true_eq] at hc
    exact lv_goto hx hb (hm_dcs hc.2) (tgt := t.toNat) (by omega) (hs p e s m' args below meth c H locs cells slots mc ms ls C0 hW hC2 hsz hS hl hcb hsb)
  | ifCond cd t =>
    simp only [hm_ck, Bool.and_eq_true, decide_eq_true_eq] at hc
    change hm_un _ _ at hs
    unfold hm_un at hs
    split at hs
    · have a1 : (pc : Int) + (t - pc) = (t.toNat : Int) := by omega
      cases cd
      · exact lv_if_eq hx hb (hm_dcs hc.2) a1 (fun q => hs.1 q p e s m' args below meth c H locs cells slots mc ms ls C0 hW hC2 hsz hS hl hcb hsb) (fun q => hs.2 q p e s m' args below meth c H locs cells slots mc ms ls C0 hW hC2 hsz hS hl hcb hsb)
      · exact lv_if_ne hx hb (hm_dcs hc.2) a1 (fun q => hs.1 q p e s m' args below meth c H locs cells slots mc ms ls C0 hW hC2 hsz hS hl hcb hsb) (fun q => hs.2 q p e s m' args below meth c H locs cells slots mc ms ls C0 hW hC2 hsz hS hl hcb hsb)
      · exact lv_if_lt hx hb (hm_dcs hc.2) a1 (fun q => hs.1 q p e s m' args below meth c H locs cells slots mc ms ls C0 hW hC2 hsz hS hl hcb hsb) (fun q => hs.2 q p e s m' args below meth c H locs cells slots mc ms ls C0 hW hC2 hsz hS hl hcb hsb)
      · exact lv_if_ge hx hb (hm_dcs hc.2) a1 (fun q => hs.1 q p e s m' args below meth c H locs cells slots mc ms ls C0 hW hC2 hsz hS hl hcb hsb) (fun q => hs.2 q p e s m' args below meth c H locs cells slots mc ms ls C0 hW hC2 hsz hS hl hcb hsb)
      · exact lv_if_gt hx hb (hm_dcs hc.2) a1 (fun q => hs.1 q p e s m' args below meth c H locs cells slots mc ms ls C0 hW hC2 hsz hS hl hcb hsb) (fun q => hs.2 q p e s m' args below meth c H locs cells slots mc ms ls C0 hW hC2 hsz hS hl hcb hsb)
      · exact lv_if_le hx hb (hm_dcs hc.2) a1 (fun q => hs.1 q p e s m' args below meth c H locs cells slots mc ms ls C0 hW hC2 hsz hS hl hcb hsb) (fun q => hs.2 q p e s m' args below meth c H locs cells slots mc ms ls C0 hW hC2 hsz hS hl hcb hsb)
    · exact hs.elim
  | if_icmp cd t =>
    simp only [hm_ck, Bool.and_eq_true, decide_eq_true_eq] at hc
    change hm_bin _ _ at hs
    unfold hm_bin at hs
    split at hs
    · have a1 : (pc : Int) + (t - pc) = (t.toNat : Int) := by omega
      cases cd
      · exact lv_icmp_eq hx hb (hm_dcs hc.2) a1 (fun q => hs.1 q p e s m' args below meth c H locs cells slots mc ms ls C0 hW hC2 hsz hS hl hcb hsb) (fun q => hs.2 q p e s m' args below meth c H locs cells slots mc ms ls C0 hW hC2 hsz hS hl hcb hsb)
      · exact lv_icmp_ne hx hb (hm_dcs hc.2) a1 (fun q => hs.1 q p e s m' args below meth c H locs cells slots mc ms ls C0 hW hC2 hsz hS hl hcb hsb) (fun q => hs.2 q p e s m' args below meth c H locs cells slots mc ms ls C0 hW hC2 hsz hS hl hcb hsb)
      · exact lv_icmp_lt hx hb (hm_dcs hc.2) a1 (fun q => hs.1 q p e s m' args below meth c H locs cells slots mc ms ls C0 hW hC2 hsz hS hl hcb hsb) (fun q => hs.2 q p e s m' args below meth c H locs cells slots mc ms ls C0 hW hC2 hsz hS hl hcb hsb)
      · exact lv_icmp_ge hx hb (hm_dcs hc.2) a1 (fun q => hs.1 q p e s m' args below meth c H locs cells slots mc ms ls C0 hW hC2 hsz hS hl hcb hsb) (fun q => hs.2 q p e s m' args below meth c H locs cells slots mc ms ls C0 hW hC2 hsz hS hl hcb hsb)
      · exact lv_icmp_gt hx hb (hm_dcs hc.2) a1 (fun q => hs.1 q p e s m' args below meth c H locs cells slots mc ms ls C0 hW hC2 hsz hS hl hcb hsb) (fun q => hs.2 q p e s m' args below meth c H locs cells slots mc ms ls C0 hW hC2 hsz hS hl hcb hsb)
      · exact lv_icmp_le hx hb (hm_dcs hc.2) a1 (fun q => hs.1 q p e s m' args below meth c H locs cells slots mc ms ls C0 hW hC2 hsz hS hl hcb hsb) (fun q => hs.2 q p e s m' args below meth c H locs cells slots mc ms ls C0 hW hC2 hsz hS hl hcb hsb)
    · exact hs.elim
  | tableswitch d lo hi offs =>
    change hm_un _ _ at hs
    unfold hm_un at hs
    simp only [hm_ck, Bool.and_eq_true, decide_eq_true_eq] at hc
    obtain ⟨⟨h0, ha⟩, hm⟩ := hc
    split at hs
    · rename_i v r
      split at hm
      · rename_i d' lo' hi' offs' len hd
        obtain ⟨e1, rfl, rfl, e4, e5⟩ := of_decide_eq_true hm
        unfold hm_tsw at hs
        by_cases ho : v.toInt < lo' ∨ hi' < v.toInt
        · rw [if_pos ho] at hs
          exact lv_tableOut hx hb hd ho (tgt := d.toNat) (by omega) (hs p e s m' args below meth c H locs cells slots mc ms ls C0 hW hC2 hsz hS hl hcb hsb)
        · rw [if_neg ho, ← e4] at hs
          have hj : (v.toInt - lo').toNat < offs'.size := by omega
          have h2 : offs'[(v.toInt - lo').toNat]? = some offs'[(v.toInt - lo').toNat] := Array.getElem?_eq_getElem hj
          have h3 : (offs'.toList.map (fun o : Int => o + (pc : Int))).getD (v.toInt - lo').toNat d = offs'[(v.toInt - lo').toNat] + (pc : Int) := by
            rw [List.getD_eq_getElem?_getD, List.getElem?_map, Array.getElem?_toList, h2]
            rfl
          have h4 : 0 ≤ offs'[(v.toInt - lo').toNat] + (pc : Int) := by
            have h5 := List.all_eq_true.mp ha (offs'[(v.toInt - lo').toNat] + (pc : Int)) (by rw [← e4]; exact List.mem_map.mpr ⟨_, by rw [Array.mem_toList_iff]; exact Array.getElem_mem hj, rfl⟩)
            exact of_decide_eq_true h5
          rw [h3] at hs
          exact lv_tableIn hx hb hd (fun q => ho (Or.inl q)) (fun q => ho (Or.inr q)) h2 (tgt := (offs'[(v.toInt - lo').toNat] + (pc : Int)).toNat) (by omega) (hs p e s m' args below meth c H locs cells slots mc ms ls C0 hW hC2 hsz hS hl hcb hsb)
      · cases hm
    · exact hs.elim
  | lookupswitch d ps =>
    change hm_un _ _ at hs
    unfold hm_un at hs
    simp only [hm_ck, Bool.and_eq_true, decide_eq_true_eq] at hc
    obtain ⟨⟨h0, ha⟩, hm⟩ := hc
    split at hs
    · rename_i v r
      split at hm
      · rename_i d' ps' len hd
        simp only [Bool.and_eq_true] at hm
        obtain ⟨hm, hsort⟩ := hm
        obtain ⟨e1, e2⟩ := of_decide_eq_true hm
        have h4 := hm_swP ps.toList d v.toInt h0 (fun o ho => of_decide_eq_true (List.all_eq_true.mp ha o ho))
        rw [← e1, ← e2, hm_swL] at h4 hs
        exact lv_lookup hx hb hd hsort rfl (tgt := (lookupswitch.offset ps'.toList d' v.toInt + (pc : Int)).toNat) (by omega) (hs p e s m' args below meth c H locs cells slots mc ms ls C0 hW hC2 hsz hS hl hcb hsb)
      · cases hm
    · exact hs.elim
  | getfield f =>
    change hm_rfs _ _ at hs
    unfold hm_rfs at hs
    simp only [hm_ck, Bool.and_eq_true, decide_eq_true_eq] at hc
    obtain ⟨⟨hd, hf1, hf2⟩, hw⟩ := hc
    split at hs
    · rename_i a r
      obtain ⟨k1, k2, k3, F⟩ := hs
      obtain ⟨q0, hq⟩ := hm_gob (cI := cI) (B := B) (t0 := t0) (bs := bs) k1 hf2 k2 k3
      have G := F p e s m' args below meth c H locs cells slots mc ms ls C0 hW hC2 hsz hS hl hcb hsb
      show W p l e _ s m' args below meth c H locs cells slots _ (F0 m' pc ls (.ref (hm_ad B t0 bs a) :: r.map (hm_tr B t0 bs)))
      rw [hm_ad2 k2]
      refine va_get hx hb hts (hm_cIn hf2) hown hC2.2.1 hW.2.2.1 q0 hq (hm_clsOk hf2) (f % 64) hf1 (hts _ (hm_inG hw)) (fun _ h9 => h9) (v := hm_tr B t0 bs (hm_fv (h.2.1 a) (h.2.2 a) (f % 64))) ?_ (hm_dcs hd) G
      unfold hm_fs
      rw [k1]
      exact hm_fget hf1
    · exact hs.elim
  | putfield f =>
    change hm_pf _ _ _ at hs
    unfold hm_pf at hs
    simp only [hm_ck, Bool.and_eq_true, Bool.or_eq_true, decide_eq_true_eq] at hc
    obtain ⟨⟨⟨hd, hf1, hf2⟩, hw⟩, hfin⟩ := hc
    have hty := fun j (hj : j < hm_nf (f / 64)) => (hm_cF hf2 hj).1
    have hnm2 := fun j (hj : j < hm_nf (f / 64)) => (hm_cF hf2 hj).2.1
    have hct := (hm_cF hf2 hf1).2.2
    split at hs
    · rename_i v a r
      obtain ⟨k1, k1b, k2, k3, F⟩ := hs
      obtain ⟨q0, hq⟩ := hm_gob (cI := cI) (B := B) (t0 := t0) (bs := bs) k1 hf2 k2 k3
      show W p l e _ s m' args below meth c H locs cells slots _ (F0 m' pc ls (.int v :: .ref (hm_ad B t0 bs a) :: r.map (hm_tr B t0 bs)))
      rw [hm_ad2 k2]
      have ht := hct.1 k1b
      refine hm_put hx hb hts (hm_cIn hf2) (hm_ty (f / 64)) hty hnm2 hown hC2.2.1 hW.2.2.1 hW.2.2.2 hS q0 hq (hm_clsOk hf2) (f % 64) hf1 (hts _ (hm_inG hw)) (hfin.imp id (fun h9 => ⟨h9.1, hnm.trans h9.2.1, h9.2.2⟩)) (by rw [ht]; rfl) (by rw [ht]; rfl) (by unfold hm_fs; rw [k1]; simpa using hf1) (hm_dcs hd) fun H1 locs1 z1 P1 D1 S1 => ?_
      have e9 : ((.inr (f / 64, (hm_fs B t0 bs (h.2.1 a) (h.2.2 a)).set (f % 64) (.int v)) : va_E)) = hm_E cI B t0 bs ((hm_wi h a (f % 64) v).2.1 a) ((hm_wi h a (f % 64) v).2.2 a) := by
        have e8 : (hm_wi h a (f % 64) v).2.1 a = h.2.1 a := rfl
        have e7 : (hm_wi h a (f % 64) v).2.2 a = fun q => if q = f % 64 then v else h.2.2 a q := if_pos rfl
        rw [e8, e7]
        unfold hm_E
        rw [if_neg (by rw [k1]; omega), k1]
        congr 2
        unfold hm_fs
        refine hm_fset ?_ (fun q hq => ?_)
        · unfold hm_fv
          rw [k1, k1b]
          simp [hm_tr]
        · unfold hm_fv
          dsimp only
          rw [if_neg hq]
      rw [e9] at P1 D1
      have he9 := hm_wset (cI := cI) (t0 := t0) (bs := bs) (h' := hm_wi h a (f % 64) v) hW.2.2.2 k2 k3 (by rw [k1]; omega) (by rw [hq]; congr 2; unfold hm_E; rw [if_neg (by rw [k1]; omega), k1]) rfl (fun _ => rfl) (fun j hj => ⟨rfl, if_neg hj⟩)
      rw [he9] at P1 D1
      exact F p e s m' args below meth c H1 locs1 cells slots mc ms ls C0 ⟨hm_fxWi k2 hW.1, z1.trans hW.2.1, P1, D1⟩ hC2 hsz S1 hl hcb hsb
    · rename_i v a r
      obtain ⟨k1, k1b, k2, k3, F⟩ := hs
      obtain ⟨q0, hq⟩ := hm_gob (cI := cI) (B := B) (t0 := t0) (bs := bs) k1 hf2 k2 k3
      show W p l e _ s m' args below meth c H locs cells slots _ (F0 m' pc ls (.ref (hm_ad B t0 bs v) :: .ref (hm_ad B t0 bs a) :: r.map (hm_tr B t0 bs)))
      rw [hm_ad2 k2]
      have ht := hct.2 k1b
      refine hm_put hx hb hts (hm_cIn hf2) (hm_ty (f / 64)) hty hnm2 hown hC2.2.1 hW.2.2.1 hW.2.2.2 hS q0 hq (hm_clsOk hf2) (f % 64) hf1 (hts _ (hm_inG hw)) (hfin.imp id (fun h9 => ⟨h9.1, hnm.trans h9.2.1, h9.2.2⟩)) (by rcases ht with ⟨n, ht⟩ | ⟨n, ht⟩ <;> rw [ht] <;> rfl) (by rcases ht with ⟨n, ht⟩ | ⟨n, ht⟩ <;> rw [ht] <;> rfl) (by unfold hm_fs; rw [k1]; simpa using hf1) (hm_dcs hd) fun H1 locs1 z1 P1 D1 S1 => ?_
      have e9 : ((.inr (f / 64, (hm_fs B t0 bs (h.2.1 a) (h.2.2 a)).set (f % 64) (.ref (hm_ad B t0 bs v))) : va_E)) = hm_E cI B t0 bs ((hm_wr h a (f % 64) (some v)).2.1 a) ((hm_wr h a (f % 64) (some v)).2.2 a) := by
        have e8 : (hm_wr h a (f % 64) (some v)).2.1 a = ((h.2.1 a).1, (h.2.1 a).2.1, fun q => if q = f % 64 then some v else (h.2.1 a).2.2 q) := if_pos rfl
        have e7 : (hm_wr h a (f % 64) (some v)).2.2 a = h.2.2 a := rfl
        rw [e8, e7]
        unfold hm_E
        dsimp only
        rw [if_neg (by rw [k1]; omega), k1]
        congr 2
        unfold hm_fs
        dsimp only
        rw [k1]
        refine hm_fset ?_ (fun q hq => ?_)
        · unfold hm_fv
          dsimp only
          rw [k1b]
          simp [hm_tr, va_rf]
        · unfold hm_fv
          dsimp only
          rw [if_neg hq, k1]
      rw [e9] at P1 D1
      have he9 := hm_wset (cI := cI) (t0 := t0) (bs := bs) (h' := hm_wr h a (f % 64) (some v)) hW.2.2.2 k2 k3 (by rw [k1]; omega) (by rw [hq]; congr 2; unfold hm_E; rw [if_neg (by rw [k1]; omega), k1]) rfl (fun j => by show (if j = a then _ else h.2.1 j).1 = _; split <;> simp_all) (fun j hj => ⟨if_neg hj, rfl⟩)
      rw [he9] at P1 D1
      exact F p e s m' args below meth c H1 locs1 cells slots mc ms ls C0 ⟨hm_fxWr k2 hW.1, z1.trans hW.2.1, P1, D1⟩ hC2 hsz S1 hl hcb hsb
    · exact hs.elim
  | getstatic f =>
    simp only [hm_ck, Bool.and_eq_true] at hc
    have F : hm_LF l D cI B t0 bs L xs k (pc + 3) lv (.ref 0 :: st) h b Q := hs
    exact va_getsN hx hb hC2.1.1 hS hown (va_Nw.use rfl (hm_inV hc.2 hC2.2.2.1)) (fun _ h9 => h9) (hm_dcs hc.1) (F p e s m' args below meth c H locs cells slots mc ms ls C0 hW hC2 hsz hS hl hcb hsb)
  | new ci =>
    simp only [hm_ck, Bool.and_eq_true, decide_eq_true_eq] at hc
    obtain ⟨⟨⟨⟨hd, hci⟩, w1⟩, w2⟩, w3⟩ := hc
    obtain ⟨b1, b2, F⟩ := hs
    have hty := fun j (hj : j < hm_nf ci) => (hm_cF hci hj).1
    refine hm_new (fs := hm_fs B t0 bs (ci, 0, fun _ => none) (fun _ => 0)) hx hb hts (hm_cIn hci) (hm_ty ci) hty hown (hts _ (hm_inG w1)) (hts _ (hm_inG w2)) (hts _ (hm_inG w3)) hC2.2.1 hW.2.2.1 hW.2.2.2 hS (fun q hq => Nat.le_trans hsz hq) (hm_clsOk hci) ?_ (by show _ ≤ mc; omega) (by show _ ≤ ms; omega) (hm_dcs hd) fun H1 z1 P1 D1 S1 => ?_
    · intro j hj
      unfold vp_V hm_fs
      rw [List.getD_eq_getElem?_getD, hm_fget hj]
      obtain ⟨c1, c2⟩ := (hm_cF hci hj).2.2
      unfold hm_fv
      dsimp only
      cases hr : hm_isR ci j with
      | false => rw [c1 hr]; rfl
      | true => rcases c2 hr with ⟨n, e9⟩ | ⟨n, e9⟩ <;> rw [e9] <;> rfl
    · have e8 : (hm_mk h ci 0).2.1 h.1 = (ci, 0, fun _ => none) := if_pos rfl
      have e7 : (hm_mk h ci 0).2.2 h.1 = fun _ => 0 := if_pos rfl
      have e9 : ((.inr (ci, hm_fs B t0 bs (ci, 0, fun _ => none) (fun _ => 0)) : va_E)) = hm_E cI B t0 bs ((hm_mk h ci 0).2.1 h.1) ((hm_mk h ci 0).2.2 h.1) := by
        rw [e8, e7]
        unfold hm_E
        rw [if_neg (show ¬ ci = 1000 by omega)]
      rw [e9, hW.2.1, hm_wpush (h' := hm_mk h ci 0) hW.2.2.1 hW.2.1 hW.1.1 rfl (fun j hj => ⟨if_neg hj, if_neg hj⟩) (by rw [e8]; show ci ≠ 2000; omega)] at P1 D1
      have e6 : (Value.ref H.size :: st.map (hm_tr B t0 bs)) = (Value.ref h.1 :: st).map (hm_tr B t0 bs) := by
        show _ = Value.ref (hm_ad B t0 bs h.1) :: _
        rw [hm_ad2 hW.1.1, hW.2.1]
      rw [e6]
      exact F p e s m' args below meth c H1 locs (cells + 1) (slots + hm_nf ci) mc ms ls C0 ⟨hm_fxMk hW.1, by rw [z1, hW.2.1]; rfl, P1, D1⟩ hC2 hsz S1 hl (by show _ + (b.1 - 1) ≤ _; omega) (by show _ + (b.2 - hm_nf ci) ≤ _; omega)
  | newarray ty =>
    change hm_un _ _ at hs
    unfold hm_un at hs
    simp only [hm_ck, Bool.and_eq_true, decide_eq_true_eq] at hc
    obtain ⟨rfl, hd⟩ := hc
    split at hs
    · rename_i v r
      obtain ⟨v1, v2, b1, b2, F⟩ := hs
      refine hm_newa (N' := v.toNatClampNeg) hx hb (hts _ hm_arrI) hC2.2.1 hW.2.2.1 hW.2.2.2 hS (fun q hq => Nat.le_trans hsz hq) v1 rfl (by omega) (by show _ ≤ mc; omega) (by show _ ≤ ms; omega) (hm_dcs hd) fun H1 z1 P1 D1 S1 => ?_
      have e8 : (hm_mk h 1000 v.toNatClampNeg).2.1 h.1 = (1000, v.toNatClampNeg, fun _ => none) := if_pos rfl
      have e7 : (hm_mk h 1000 v.toNatClampNeg).2.2 h.1 = fun _ => 0 := if_pos rfl
      have e9 : ((.inl (cI, v.toNatClampNeg, .inl (fun _ => 0)) : va_E)) = hm_E cI B t0 bs ((hm_mk h 1000 v.toNatClampNeg).2.1 h.1) ((hm_mk h 1000 v.toNatClampNeg).2.2 h.1) := by
        rw [e8, e7]
        unfold hm_E
        rw [if_pos rfl]
      rw [e9, hW.2.1, hm_wpush (h' := hm_mk h 1000 v.toNatClampNeg) hW.2.2.1 hW.2.1 hW.1.1 rfl (fun j hj => ⟨if_neg hj, if_neg hj⟩) (by rw [e8]; show (1000 : Nat) ≠ 2000; omega)] at P1 D1
      have e6 : (Value.ref H.size :: r.map (hm_tr B t0 bs)) = (Value.ref h.1 :: r).map (hm_tr B t0 bs) := by
        show _ = Value.ref (hm_ad B t0 bs h.1) :: _
        rw [hm_ad2 hW.1.1, hW.2.1]
      rw [e6]
      exact F p e s m' args below meth c H1 locs (cells + 1) (slots + v.toNatClampNeg) mc ms ls C0 ⟨hm_fxMk hW.1, by rw [z1, hW.2.1]; rfl, P1, D1⟩ hC2 hsz S1 hl (by show _ + (b.1 - 1) ≤ _; omega) (by show _ + (b.2 - v.toNatClampNeg) ≤ _; omega)
    · exact hs.elim
  | arraylength =>
    change hm_rfs _ _ at hs
    unfold hm_rfs at hs
    split at hs
    · rename_i a r
      obtain ⟨k1, k3, F⟩ := hs
      have G := F p e s m' args below meth c H locs cells slots mc ms ls C0 hW hC2 hsz hS hl hcb hsb
      obtain ⟨f1, f2, f3, f4, f5, f6, f7⟩ := hW.1
      by_cases a0 : a = 0
      · subst a0
        rw [f3] at G
        exact va_tlen hx hb hC2.1.2.1 hS rfl (hm_dcs hc) G
      by_cases a1 : a = 1
      · subst a1
        rw [f6] at G
        exact va_tlen hx hb hC2.1.2.2.1 hS rfl (hm_dcs hc) G
      have k2 : 2 ≤ a := Nat.lt_of_le_of_ne (Nat.one_le_iff_ne_zero.mpr a0) (Ne.symm a1)
      obtain ⟨q0, hq⟩ := hm_gar (cI := cI) (B := B) (t0 := t0) (bs := bs) k1 k2 k3
      show W p l e _ s m' args below meth c H locs cells slots _ (F0 m' pc ls (.ref (hm_ad B t0 bs a) :: r.map (hm_tr B t0 bs)))
      rw [hm_ad2 k2]
      exact va_alen hx hb hC2.2.1 hW.2.2.1 q0 0 hq rfl rfl (hm_dcs hc) G
    · exact hs.elim
  | iaload =>
    change hm_ia _ _ at hs
    unfold hm_ia at hs
    split at hs
    · rename_i i a r
      obtain ⟨k1, k3, vi, F⟩ := hs
      have G := F p e s m' args below meth c H locs cells slots mc ms ls C0 hW hC2 hsz hS hl hcb hsb
      obtain ⟨f1, f2, f3, f4, f5, f6, f7⟩ := hW.1
      by_cases a0 : a = 0
      · subst a0
        rw [f4] at G
        rw [f3] at vi
        exact va_ti hx hb hC2.1.2.1 hS vi rfl (hm_dcs hc) G
      by_cases a1 : a = 1
      · subst a1
        rw [f7] at G
        rw [f6] at vi
        exact va_ti hx hb hC2.1.2.2.1 hS vi rfl (hm_dcs hc) G
      have k2 : 2 ≤ a := Nat.lt_of_le_of_ne (Nat.one_le_iff_ne_zero.mpr a0) (Ne.symm a1)
      obtain ⟨q0, hq⟩ := hm_gar (cI := cI) (B := B) (t0 := t0) (bs := bs) k1 k2 k3
      show W p l e _ s m' args below meth c H locs cells slots _ (F0 m' pc ls (.int i :: .ref (hm_ad B t0 bs a) :: r.map (hm_tr B t0 bs)))
      rw [hm_ad2 k2]
      exact va_iald hx hb hC2.2.1 hW.2.2.1 q0 0 hq rfl vi (hm_dcs hc) G
    · exact hs.elim
  | iastore =>
    change hm_is _ _ at hs
    unfold hm_is at hs
    split at hs
    · rename_i v i a r
      obtain ⟨k1, k2, k3, vi, F⟩ := hs
      obtain ⟨q0, hq⟩ := hm_gar (cI := cI) (B := B) (t0 := t0) (bs := bs) k1 k2 k3
      show W p l e _ s m' args below meth c H locs cells slots _ (F0 m' pc ls (.int v :: .int i :: .ref (hm_ad B t0 bs a) :: r.map (hm_tr B t0 bs)))
      rw [hm_ad2 k2]
      refine hm_iast hx hb hC2.2.1 hW.2.2.1 hW.2.2.2 hS q0 0 hq rfl vi (hm_dcs hc) fun H1 locs1 z1 P1 D1 S1 => ?_
      have e9 : ((.inl (cI, (h.2.1 a).2.1, .inl (upd (h.2.2 a) i.toNatClampNeg v)) : va_E)) = hm_E cI B t0 bs ((hm_wi h a i.toNatClampNeg v).2.1 a) ((hm_wi h a i.toNatClampNeg v).2.2 a) := by
        have e8 : (hm_wi h a i.toNatClampNeg v).2.1 a = h.2.1 a := rfl
        have e7 : (hm_wi h a i.toNatClampNeg v).2.2 a = fun q => if q = i.toNatClampNeg then v else h.2.2 a q := if_pos rfl
        rw [e8, e7]
        unfold hm_E
        rw [if_pos k1]
        rfl
      rw [e9] at P1 D1
      have he9 := hm_wset (cI := cI) (t0 := t0) (bs := bs) (h' := hm_wi h a i.toNatClampNeg v) hW.2.2.2 k2 k3 (by rw [k1]; omega) (by rw [hq]; congr 2; unfold hm_E; rw [if_pos k1]) rfl (fun _ => rfl) (fun j hj => ⟨rfl, if_neg hj⟩)
      rw [he9] at P1 D1
      exact F p e s m' args below meth c H1 locs1 cells slots mc ms ls C0 ⟨hm_fxWi k2 hW.1, z1.trans hW.2.1, P1, D1⟩ hC2 hsz S1 hl hcb hsb
    · exact hs.elim
  | invokevirtual m =>
    simp only [hm_ck, Bool.and_eq_true, decide_eq_true_eq] at hc
    obtain ⟨⟨⟨⟨⟨hd, hcm⟩, hcx, hcn, hm195⟩, w1⟩, w2⟩, w3⟩ := hc
    exact hm_goV (l := l) C0 hW hC2 hsz hS hl hcb hsb (hm_dcs hd) hcm hcx hcn hm195 w1 w2 w3 hs
  | invokespecial m =>
    simp only [hm_ck] at hc
    by_cases hm : m = 1000
    · subst hm
      rw [if_pos rfl] at hc
      have hs1 : hm_rfs st fun _ r => hm_cs r ≤ 8 ∧ hm_LF l D cI B t0 bs L xs k (pc + 3) lv r h b Q := hs
      unfold hm_rfs at hs1
      simp only [Bool.and_eq_true, decide_eq_true_eq] at hc
      obtain ⟨⟨hd, w1⟩, hf, hlo⟩ := hc
      split at hs1
      · rename_i a r
        obtain ⟨h8, F⟩ := hs1
        refine W.objInit hx hb hown (hts _ (hm_inG w1)) (hts _ hm_obj1) (hts _ hm_obj2) rfl (by rw [hml]; exact hl.1) rfl (hm_dcs hd) hf ?_ (F p e s m' args below meth c H locs cells slots mc ms ls C0 hW hC2 hsz hS hl hcb hsb)
        have h9 := hm_cs_tr (B := B) (t0 := t0) (bs := bs) r
        show 2 * 0 + _ + 12 ≤ hm_lo k
        rw [h9]
        omega
      · exact hs1.elim
    · rw [if_neg hm] at hc
      have hs1 : hm_CallI (hm_LF l D cI B t0 bs L xs) k pc m z lv st h b Q := by
        have h9 : (if m = 1000 then hm_rfs st (fun _ r => hm_cs r ≤ 8 ∧ hm_LF l D cI B t0 bs L xs k (pc + 3) lv r h b Q) else hm_CallI (hm_LF l D cI B t0 bs L xs) k pc m z lv st h b Q) := hs
        rw [if_neg hm] at h9
        exact h9
      simp only [Bool.and_eq_true, decide_eq_true_eq] at hc
      obtain ⟨⟨⟨⟨hd, hcm⟩, hcx, hm195, hin, hrt⟩, w1⟩, w2⟩ := hc
      exact hm_goI (l := l) C0 hW hC2 hsz hS hl hcb hsb (hm_dcs hd) hcm hcx hm195 hin hrt w1 w2 hs1
  | invokestatic m =>
    simp only [hm_ck] at hc
    have hs1 : (if m = 1001 then hm_bin st (fun x y r => hm_cs r ≤ 8 ∧ hm_LF l D cI B t0 bs L xs k (pc + 3) lv (.int (if x < y then y else x) :: r) h b Q)
      else if m = 1002 then hm_bin st (fun x y r => hm_cs r ≤ 8 ∧ hm_LF l D cI B t0 bs L xs k (pc + 3) lv (.int (if y < x then y else x) :: r) h b Q)
      else if m = 1003 then hm_un st (fun x r => hm_cs r ≤ 8 ∧ hm_LF l D cI B t0 bs L xs k (pc + 3) lv (.int (if 0 ≤ x then x else 0 - x) :: r) h b Q)
      else hm_CallS (hm_LF l D cI B t0 bs L xs) k pc m z lv st h b Q) := hs
    have hsum : ∀ r : List Value, hm_cs r ≤ 8 → 21 ≤ hm_lo k → ((r.map (hm_tr B t0 bs)).map fun v => v.category).sum + 13 ≤ hm_lo k := by
      intro r h8 h9
      rw [hm_cs_tr]
      omega
    by_cases h1 : m = 1001
    · rw [if_pos h1] at hc hs1
      simp only [Bool.and_eq_true, decide_eq_true_eq] at hc
      obtain ⟨⟨hd, w1⟩, hf, hlo⟩ := hc
      unfold hm_bin at hs1
      split at hs1
      · rename_i yv xv r
        exact va_mmax hx hb (hml.trans hl.1.symm) hown (hts _ (hm_inG w1)) (hts _ hm_max1) (hts _ hm_mathI) (hts _ hm_max2) hf (hsum r hs1.1 hlo) (by show cells ≤ mc; omega) (by show slots ≤ ms; omega) (hm_dcs hd) (hs1.2 p e s m' args below meth c H locs cells slots mc ms ls C0 hW hC2 hsz hS hl hcb hsb)
      · exact hs1.elim
    by_cases h2 : m = 1002
    · rw [if_neg h1, if_pos h2] at hc hs1
      simp only [Bool.and_eq_true, decide_eq_true_eq] at hc
      obtain ⟨⟨hd, w1⟩, hf, hlo⟩ := hc
      unfold hm_bin at hs1
      split at hs1
      · rename_i yv xv r
        exact va_mmin hx hb (hml.trans hl.1.symm) hown (hts _ (hm_inG w1)) (hts _ hm_min1) (hts _ hm_mathI) (hts _ hm_min2) hf (hsum r hs1.1 hlo) (by show cells ≤ mc; omega) (by show slots ≤ ms; omega) (hm_dcs hd) (hs1.2 p e s m' args below meth c H locs cells slots mc ms ls C0 hW hC2 hsz hS hl hcb hsb)
      · exact hs1.elim
    by_cases h3 : m = 1003
    · rw [if_neg h1, if_neg h2, if_pos h3] at hc hs1
      simp only [Bool.and_eq_true, decide_eq_true_eq] at hc
      obtain ⟨⟨hd, w1⟩, hf, hlo⟩ := hc
      unfold hm_un at hs1
      split at hs1
      · rename_i xv r
        exact va_mabs hx hb (hml.trans hl.1.symm) hown (hts _ (hm_inG w1)) (hts _ hm_abs1) (hts _ hm_mathI) (hts _ hm_abs2) hf (hsum r hs1.1 hlo) (by show cells ≤ mc; omega) (by show slots ≤ ms; omega) (hm_dcs hd) (hs1.2 p e s m' args below meth c H locs cells slots mc ms ls C0 hW hC2 hsz hS hl hcb hsb)
      · exact hs1.elim
    rw [if_neg h1, if_neg h2, if_neg h3] at hc hs1
    simp only [Bool.and_eq_true, decide_eq_true_eq] at hc
    obtain ⟨⟨⟨hd, hcm⟩, w1⟩, w2⟩ := hc
    exact hm_goS (l := l) C0 hW hC2 hsz hS hl hcb hsb (hm_dcs hd) hcm w1 w2 hs1
  | ireturn =>
    change hm_r1 _ _ at hs
    unfold hm_r1 at hs
    simp only [hm_ck, Bool.and_eq_true, Bool.or_eq_true, decide_eq_true_eq] at hc
    split at hs
    · rename_i v
      obtain ⟨hz, hq⟩ := hs
      refine W.widen (k := mc) (n := ms) (by omega) (by omega) (vx_ret ?_)
      rcases hc.2 with ⟨x1, x2⟩ | ⟨x1, x2⟩
      · exact W.zret hx hb (hr.trans x2) (by rcases hz x1 with rfl | rfl <;> rfl) (fun t ht _ => ⟨⟨some (.int v), h, rfl, hq, by rw [ht]; exact hW⟩, hS.F ht⟩) hS.2.2 (hm_dcs hc.1)
      · exact W.iret hx hb (hr.trans x2) (fun t ht _ => ⟨⟨some (.int v), h, rfl, hq, by rw [ht]; exact hW⟩, hS.F ht⟩) hS.2.2 (hm_dcs hc.1)
    · exact hs.elim
  | lreturn =>
    change hm_rl _ _ at hs
    unfold hm_rl at hs
    simp only [hm_ck, Bool.and_eq_true, decide_eq_true_eq] at hc
    split at hs
    · rename_i v
      refine W.widen (k := mc) (n := ms) (by omega) (by omega) (vx_ret ?_)
      exact W.lret hx hb (hr.trans hc.2) (fun t ht _ => ⟨⟨some (.long v), h, rfl, hs, by rw [ht]; exact hW⟩, hS.F ht⟩) hS.2.2 (hm_dcs hc.1)
    · exact hs.elim
  | areturn =>
    change hm_ra _ _ at hs
    unfold hm_ra at hs
    simp only [hm_ck, Bool.and_eq_true] at hc
    split at hs
    · rename_i v
      refine W.widen (k := mc) (n := ms) (by omega) (by omega) (vx_ret ?_)
      obtain ⟨hd, h9⟩ := hc
      split at h9
      · rename_i n9 e9
        exact W.aret hx hb (hr.trans e9) (Or.inl ⟨_, rfl⟩) (Or.inr ⟨_, rfl⟩) (fun t ht _ => ⟨⟨some (.ref v), h, rfl, hs, by rw [ht]; exact hW⟩, hS.F ht⟩) hS.2.2 (hm_dcs hd)
      · cases h9
    · exact hs.elim
  | return_ =>
    change hm_r0 _ _ at hs
    unfold hm_r0 at hs
    simp only [hm_ck, Bool.and_eq_true, decide_eq_true_eq] at hc
    split at hs
    · refine W.widen (k := mc) (n := ms) (by omega) (by omega) (vx_ret ?_)
      exact W.vret hx hb (hr.trans hc.2) (fun t ht _ => ⟨⟨none, h, rfl, hs, by rw [ht]; exact hW⟩, hS.F ht⟩) hS.2.2 (hm_dcs hc.1)
    · exact hs.elim
  | athrow =>
    change hm_r0 _ _ at hs
    unfold hm_r0 at hs
    split at hs
    · obtain ⟨b1, b2, hq⟩ := hs
      exact hm_goX (y := y) (z := z) hfl C0 hW hC2 hsz hS hl hcb hsb hc b1 b2 hq
    · exact hs.elim
  | _ => exact hs.elim
/-- the relation of the machine is closed -/
theorem hm_LF_cl (hfl : l.stackTraces = false) : hm_Cl (hm_LF l D cI B t0 bs L xs) := ⟨fun _ _ _ _ _ _ _ hs => hm_LF_step hfl hs, fun _ _ _ _ _ _ _ _ hq H => hm_LF_mono hq H⟩
end HStep
