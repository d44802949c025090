/-! The calls and the throws, as steps. -/
theorem hm_obj1 : Jvm.Cond.instanceMethod Lib.objectInit ∈ hm_G := hm_inG (y := 70) (by decide +kernel)
theorem hm_obj2 : Jvm.Cond.code Lib.objectInit ⟨#[0xb1]⟩ 1 none ∈ hm_G := hm_inG (y := 71) (by decide +kernel)
theorem hm_mathI : Jvm.Cond.initialized "java/lang/Math" ∈ hm_G := hm_inG (y := 49) (by decide +kernel)
theorem hm_max1 : Jvm.Cond.static Lib.Math.max.name ∈ hm_G := hm_inG (y := 151) (by decide +kernel)
theorem hm_max2 : Jvm.Cond.code Lib.Math.max.name Lib.Math.max.code 2 (some .int) ∈ hm_G := hm_inG (y := 152) (by decide +kernel)
theorem hm_min1 : Jvm.Cond.static Lib.Math.min.name ∈ hm_G := hm_inG (y := 843) (by decide +kernel)
theorem hm_min2 : Jvm.Cond.code Lib.Math.min.name Lib.Math.min.code 2 (some .int) ∈ hm_G := hm_inG (y := 844) (by decide +kernel)
theorem hm_abs1 : Jvm.Cond.static Lib.Math.abs.name ∈ hm_G := hm_inG (y := 136) (by decide +kernel)
theorem hm_abs2 : Jvm.Cond.code Lib.Math.abs.name Lib.Math.abs.code 1 (some .int) ∈ hm_G := hm_inG (y := 137) (by decide +kernel)
theorem hm_cmS {k m z : Nat} (h : hm_cm k m z = true) : z / 128 % 64 = hm_na m ∧ z % 128 = hm_cx m ∧ z / 8192 = hm_mL m ∧ hm_cw m ∈ hm_G ∧ Jvm.Cond.initialized (hm_own m) ∈ hm_G ∧
    (hm_own m ≠ "java/lang/invoke/MethodHandle" ∧ hm_own m ≠ "java/lang/invoke/VarHandle" ∧ (parseMethodDescriptor (hm_y m).desc).map (fun d => d.parameters.length) = some (hm_na m)) ∧ (hm_fr m + 1 ≤ hm_fr k ∧ 8 + (hm_mL m + 11) + hm_lo m ≤ hm_lo k) ∧ plainName (hm_own m) = true := by
  simp only [hm_cm, Bool.and_eq_true, decide_eq_true_eq] at h
  obtain ⟨⟨⟨⟨⟨⟨⟨h1, h2⟩, h3⟩, h4⟩, h5⟩, h6⟩, h7⟩, h8⟩ := h
  exact ⟨by omega, by omega, by omega, hm_inG h4, hm_inG h5, ⟨h6.1.1, h6.1.2, h6.2⟩, h7, h8⟩
theorem hm_wlG {m : Nat} (h : hm_cw m ∈ hm_G) : ∀ w ∈ hm_wl m, w ∈ hm_G := fun w hw => (List.mem_cons.mp hw).elim (fun e => by rw [e]; exact h) id
section HGo
variable {l : Launch} {D : va_G} {cI : ClassId} {B t0 bs L : Nat} {xs : Nat → Int32}
variable {p : Program} {e : Env} {s : State} {m' : MethodId} {args : Array Value} {below : List Frame} {meth : Method} {c : Code} {H : Heap} {locs : List Loc} {cells slots mc ms : Nat} {ls : Array Slot}
variable {k pc m z x y : Nat} {lv : hm_Lv} {st : List Value} {h : hm_Hp} {b : hm_B} {Q : hm_Q}
theorem hm_behindN {rest : List Value} {b1 : hm_B} (C : hm_Cx k p s m' args meth c) (hC2 : hm_C2 D cI B t0 bs L xs s) (hs : B + 2 ≤ s.heap.size) (hl : lv_has ls (hm_mL k) (hm_lm B t0 bs lv))
    (hcb : cells + b.1 ≤ mc) (hsb : slots + b.2 ≤ ms) (hb1 : b1.1 ≤ b.1) (hb2 : b1.2 ≤ b.2) {v : Option Value} {st' t : State} {H1 : Heap} {locs1 : List Loc} (ht : t.heap = H1) {a : Array Value}
    (hq : hm_Qc D cI B t0 bs L xs (hm_KN (hm_LF l D cI B t0 bs L xs) k pc lv rest (b.1 - b1.1, b.2 - b1.2) Q) a st' (.returned v) t) (hS1 : va_S (hm_A B) s.heap H1 locs1) :
    W p l e (hm_rm k (mc, ms)) s m' args below meth c H1 locs1 (cells + b1.1) (slots + b1.2) (vx_MQ below (hm_Qc D cI B t0 bs L xs Q) (hm_XC D cI B t0 bs L xs Q) args s mc ms (hm_A B)) (F0 m' (pc + 3) ls (v.toList ++ rest.map (hm_tr B t0 bs))) := by
  obtain ⟨⟨r, h', e1, e2, e3⟩, -⟩ := hq
  cases e1
  rw [hm_bk]
  exact e2 p e s m' args below meth c H1 locs1 (cells + b1.1) (slots + b1.2) mc ms ls C (by rw [← ht]; exact e3) hC2 hs hS1 hl (by show _ + (b.1 - b1.1) ≤ _; omega) (by show _ + (b.2 - b1.2) ≤ _; omega)
theorem hm_split {n : Nat} {v : Value} {rest : List Value} (h : st.drop n = v :: rest) : st.map (hm_tr B t0 bs) = (((st.take n).reverse).map (hm_tr B t0 bs)).reverse ++ hm_tr B t0 bs v :: rest.map (hm_tr B t0 bs) := by
  have h1 : st = st.take n ++ (v :: rest) := by rw [← h]; exact (List.take_append_drop n st).symm
  conv => lhs; rw [h1]
  simp
theorem hm_split0 {n : Nat} : st.map (hm_tr B t0 bs) = (((st.take n).reverse).map (hm_tr B t0 bs)).reverse ++ (st.drop n).map (hm_tr B t0 bs) := by
  conv => lhs; rw [← List.take_append_drop n st]
  simp
theorem hm_rmW {r : List Value} (h : hm_cs r ≤ 8) : ((r.map (hm_tr B t0 bs)).map fun v => v.category).sum ≤ 8 := by rw [hm_cs_tr]; exact h
theorem hm_goV (C0 : hm_Cx k p s m' args meth c) (hW : hm_W D cI B t0 bs L xs h H) (hC2 : hm_C2 D cI B t0 bs L xs s) (hsz : B + 2 ≤ s.heap.size) (hS : va_S (hm_A B) s.heap H locs) (hl : lv_has ls (hm_mL k) (hm_lm B t0 bs lv)) (hcb : cells + b.1 ≤ mc) (hsb : slots + b.2 ≤ ms)
    (hd : decode (hm_cc k) pc = .ok (.invokevirtual x, 3)) (hcm : hm_cm k m z = true) (hcx : hm_cx m < 11) (hcn : hm_own m = hm_cn (hm_cx m)) (hm195 : m ≠ 195) (w1 : hm_wd y (.methodLink (hm_own k) x (hm_y m)) = true) (w2 : hm_wd (hm_pI m) (.instanceMethod (hm_y m)) = true) (w3 : hm_wd (hm_pS m) (.selects (hm_own m) (hm_y m) (hm_y m)) = true)
    (hs : hm_CallV (hm_LF l D cI B t0 bs L xs) k pc m z lv st h b Q) :
    W p l e (hm_rm k (mc, ms)) s m' args below meth c H locs cells slots (vx_MQ below (hm_Qc D cI B t0 bs L xs Q) (hm_XC D cI B t0 bs L xs Q) args s mc ms (hm_A B)) (F0 m' pc ls (st.map (hm_tr B t0 bs))) := by
  obtain ⟨n1, n2, n3, g1, g2, g3, g4, g5⟩ := hm_cmS hcm
  obtain ⟨hx, hb, hml, hr, hown, hts, hlocks, hnm, hex⟩ := id C0
  unfold hm_CallV at hs
  rw [n1, n2] at hs
  obtain ⟨hlen, hs⟩ := hs
  split at hs
  · rename_i a rest hdrop
    obtain ⟨k1, k2, k3, h8, hsl, c1, hc1, hc2, F⟩ := hs
    obtain ⟨q0, hq⟩ := hm_gob (cI := cI) (B := B) (t0 := t0) (bs := bs) k1 hcx k2 k3
    have hM := hm_met g5 F (by rw [← n3]; exact hsl)
    rw [hm_split (B := B) (t0 := t0) (bs := bs) hdrop, show hm_tr B t0 bs (.ref a) = .ref (B + a) from congrArg Value.ref (hm_ad2 k2)]
    have hrun := vx_runV (p := p) (e := e) (R := hm_rm k (mc, ms)) (m := m') (args := args) (below := below) (meth := meth) (c := c) (H := H) (locs := locs) (cells := cells) (slots := slots) (own := hm_own k) (index := x) (C := hm_own m) (b := B + a) (bytes := hm_cc m) (maxL := hm_mL m) (ret := hm_rt m) (n := hm_na m) (nL := hm_mL k) (cc := hm_cc k) (Ts := hm_G)
      (As := ((st.take (hm_na m)).reverse).map (hm_tr B t0 bs)) (rest := rest.map (hm_tr B t0 bs)) (g := F0 m' pc ls ((((st.take (hm_na m)).reverse).map (hm_tr B t0 bs)).reverse ++ .ref (B + a) :: rest.map (hm_tr B t0 bs))) ⟨hx, hb, hml, hown, hts⟩ hM
      (cwV (ws' := hm_G) (hm_na m) hts (hm_goodG fun w hw => by
        rcases List.mem_append.mp hw with hw | hw
        · simp only [List.mem_cons, List.not_mem_nil, or_false] at hw
          rcases hw with rfl | rfl | rfl | rfl
          · exact hm_inG w1
          · exact hm_inG w2
          · exact hm_inG w3
          · exact g2
        · exact hm_wlG g1 w hw) (by unfold hm_wl hm_cw; rw [if_neg hm195]) rfl rfl ⟨rfl, g3⟩ g4)
      ⟨hm_blind, by rw [hcn]; exact va_recv (q := (hm_cn (hm_cx m), hm_T (hm_cx m), hm_nf (hm_cx m))) hC2.2.1 hW.2.2.1 (hm_clsOk hcx) hq, fun U hU hWm => ⟨by rw [List.map_cons, show hm_tr B t0 bs (.ref a) = .ref (B + a) from congrArg Value.ref (hm_ad2 k2)], by rw [hU]; exact hW, hC2.to hS hU hWm⟩⟩
      rfl (by simp; omega) hl.1 rfl (lv_room (hm_rmW h8)) hd ⟨by show _ ≤ mc; omega, by show _ ≤ ms; omega⟩
    exact hm_call hrun hS (fun _ _ _ h => h.2) (fun _ _ _ h => h.2) (fun v st' t H1 locs1 ht hq hS1 => hm_behind C0 hC2 hsz hl hcb hsb hc1 hc2 ht hq hS1) (fun E ce q9 st' t H1 locs1 ht hx hS1 hce hcv hcl => hm_thrown C0 hC2 hsz hl hcb hsb hc1 hc2 ht hx hS1 hce hcv hcl)
  · exact hs.elim
theorem hm_goI {n : Nat} (C0 : hm_Cx k p s m' args meth c) (hW : hm_W D cI B t0 bs L xs h H) (hC2 : hm_C2 D cI B t0 bs L xs s) (hsz : B + 2 ≤ s.heap.size) (hS : va_S (hm_A B) s.heap H locs) (hl : lv_has ls (hm_mL k) (hm_lm B t0 bs lv)) (hcb : cells + b.1 ≤ mc) (hsb : slots + b.2 ≤ ms)
    (hd : decode (hm_cc k) pc = .ok (.invokespecial x, 3)) (hcm : hm_cm k m z = true) (hcx : hm_cx m < 11) (hm195 : m ≠ 195) (hin : (hm_y m).name = "<init>") (hrt : hm_rt m = none)
    (w1 : (if n = 7 then hm_wv y (.methodLinkNest (hm_own k) x (hm_y m) "CurvekeyHouse") else hm_wd y (.methodLink (hm_own k) x (hm_y m))) = true) (w2 : hm_wd (hm_pI m) (.instanceMethod (hm_y m)) = true)
    (hs : hm_CallI (hm_LF l D cI B t0 bs L xs) k pc m z lv st h b Q) :
    W p l e (hm_rm k (mc, ms)) s m' args below meth c H locs cells slots (vx_MQ below (hm_Qc D cI B t0 bs L xs Q) (hm_XC D cI B t0 bs L xs Q) args s mc ms (hm_A B)) (F0 m' pc ls (st.map (hm_tr B t0 bs))) := by
  obtain ⟨n1, n2, n3, g1, g2, g3, g4, g5⟩ := hm_cmS hcm
  obtain ⟨hx, hb, hml, hr, hown, hts, hlocks, hnm, hex⟩ := id C0
  unfold hm_CallI at hs
  rw [n1] at hs
  obtain ⟨hlen, hs⟩ := hs
  split at hs
  · rename_i a rest hdrop
    obtain ⟨k2, h8, hsl, c1, hc1, hc2, F⟩ := hs
    have hM := hm_noX (hm_met g5 F (by rw [← n3]; exact hsl)) (fun E st' t hX => by obtain ⟨⟨h', e1, -⟩, -⟩ := hX; exact e1)
    rw [hm_split (B := B) (t0 := t0) (bs := bs) hdrop, show hm_tr B t0 bs (.ref a) = .ref (B + a) from congrArg Value.ref (hm_ad2 k2)]
    have hG : GoodIn hm_G (hm_wl m) := hm_goodG (hm_wlG g1)
    have hwl : hm_wl m = Cond.code (hm_y m) (hm_cc m) (hm_mL m) none :: hm_G := by unfold hm_wl hm_cw; rw [if_neg hm195, hrt]
    have hpre : PreS s H (hm_Pc D cI B t0 bs L xs (.ref a :: (st.take (hm_na m)).reverse) h) (.ref (B + a) :: ((st.take (hm_na m)).reverse).map (hm_tr B t0 bs)) :=
      ⟨hm_blind, fun U hU hWm => ⟨by rw [List.map_cons, show hm_tr B t0 bs (.ref a) = .ref (B + a) from congrArg Value.ref (hm_ad2 k2)], by rw [hU]; exact hW, hC2.to hS hU hWm⟩⟩
    have hrun : va_Run p l e (hm_rm k (mc, ms)) s m' args below meth c H locs cells slots c1.1 c1.2 (F0 m' pc ls ((((st.take (hm_na m)).reverse).map (hm_tr B t0 bs)).reverse ++ .ref (B + a) :: rest.map (hm_tr B t0 bs))) (rest.map (hm_tr B t0 bs)) (hm_Qc D cI B t0 bs L xs (hm_KN (hm_LF l D cI B t0 bs L xs) k pc lv rest (b.1 - c1.1, b.2 - c1.2) Q) (Value.ref (B + a) :: ((st.take (hm_na m)).reverse).map (hm_tr B t0 bs)).toArray) (hm_A B) := by
      by_cases hn : n = 7
      · rw [if_pos hn] at w1
        exact va_runIN (Ts := hm_G) (n := hm_na m) (nL := hm_mL k) (cc := hm_cc k) (own := hm_own k) (index := x) (host := "CurvekeyHouse") (bytes := hm_cc m) (maxL := hm_mL m) ⟨hx, hb, hml, hown, hts⟩ hM ⟨va_cnB (ws' := hm_G) (hm_na m) hts hG hwl rfl rfl (hm_inV w1 hC2.2.2.1) (hts _ g2) g3 g4, hin, hts _ (hm_inG w2)⟩ hpre rfl (by simp; omega) hl.1 rfl (lv_room (hm_rmW h8)) hd ⟨by show _ ≤ mc; omega, by show _ ≤ ms; omega⟩
      · rw [if_neg hn] at w1
        exact va_runI (Ts := hm_G) (n := hm_na m) (nL := hm_mL k) (cc := hm_cc k) (own := hm_own k) (index := x) (bytes := hm_cc m) (maxL := hm_mL m) ⟨hx, hb, hml, hown, hts⟩ hM (cwI (ws' := hm_G) (hm_na m) hts hG hwl rfl rfl (hts _ g2) (hts _ (hm_inG w1)) (hts _ (hm_inG w2)) hin g3 g4) hpre rfl (by simp; omega) hl.1 rfl (lv_room (hm_rmW h8)) hd ⟨by show _ ≤ mc; omega, by show _ ≤ ms; omega⟩
    exact hm_callN hrun hS (fun _ _ _ h => h.2) (fun v st' t H1 locs1 ht hq hS1 => hm_behindN C0 hC2 hsz hl hcb hsb hc1 hc2 ht hq hS1)
  · exact hs.elim
theorem hm_goS (C0 : hm_Cx k p s m' args meth c) (hW : hm_W D cI B t0 bs L xs h H) (hC2 : hm_C2 D cI B t0 bs L xs s) (hsz : B + 2 ≤ s.heap.size) (hS : va_S (hm_A B) s.heap H locs) (hl : lv_has ls (hm_mL k) (hm_lm B t0 bs lv)) (hcb : cells + b.1 ≤ mc) (hsb : slots + b.2 ≤ ms)
    (hd : decode (hm_cc k) pc = .ok (.invokestatic x, 3)) (hcm : hm_cm k m z = true) (w1 : hm_wd y (.methodLink (hm_own k) x (hm_y m)) = true) (w2 : hm_wd (hm_pI m) (.static (hm_y m)) = true)
    (hs : hm_CallS (hm_LF l D cI B t0 bs L xs) k pc m z lv st h b Q) :
    W p l e (hm_rm k (mc, ms)) s m' args below meth c H locs cells slots (vx_MQ below (hm_Qc D cI B t0 bs L xs Q) (hm_XC D cI B t0 bs L xs Q) args s mc ms (hm_A B)) (F0 m' pc ls (st.map (hm_tr B t0 bs))) := by
  obtain ⟨n1, n2, n3, g1, g2, g3, g4, g5⟩ := hm_cmS hcm
  obtain ⟨hx, hb, hml, hr, hown, hts, hlocks, hnm, hex⟩ := id C0
  unfold hm_CallS at hs
  rw [n1] at hs
  obtain ⟨hlen, h8, hsl, c1, hc1, hc2, F⟩ := hs
  have hM := hm_met g5 F (by rw [← n3]; exact hsl)
  rw [hm_split0 (B := B) (t0 := t0) (bs := bs) (st := st) (n := hm_na m)]
  have hpre : PreS s H (hm_Pc D cI B t0 bs L xs (st.take (hm_na m)).reverse h) (((st.take (hm_na m)).reverse).map (hm_tr B t0 bs)) :=
    ⟨hm_blind, fun U hU hWm => ⟨rfl, by rw [hU]; exact hW, hC2.to hS hU hWm⟩⟩
  have hrun : vx_Run p l e (hm_rm k (mc, ms)) s m' args below meth c H locs cells slots c1.1 c1.2 (F0 m' pc ls ((((st.take (hm_na m)).reverse).map (hm_tr B t0 bs)).reverse ++ (st.drop (hm_na m)).map (hm_tr B t0 bs))) ((st.drop (hm_na m)).map (hm_tr B t0 bs)) (hm_Qc D cI B t0 bs L xs (hm_K (hm_LF l D cI B t0 bs L xs) k pc lv (st.drop (hm_na m)) (b.1 - c1.1, b.2 - c1.2) Q) (((st.take (hm_na m)).reverse).map (hm_tr B t0 bs)).toArray) (hm_XC D cI B t0 bs L xs (hm_K (hm_LF l D cI B t0 bs L xs) k pc lv (st.drop (hm_na m)) (b.1 - c1.1, b.2 - c1.2) Q)) (hm_A B) := by
    by_cases hm : m = 195
    · exact vx_runSX (hh := hm_hh m) (Ts := hm_G) (n := hm_na m) (nL := hm_mL k) (cc := hm_cc k) (own := hm_own k) (index := x) (bytes := hm_cc m) (maxL := hm_mL m) (ret := hm_rt m) ⟨hx, hb, hml, hown, hts⟩ hM
        (vx_cwSW (ws' := hm_G) (hm_na m) hts (hm_goodG fun w hw => by
          rcases List.mem_append.mp hw with hw | hw
          · simp only [List.mem_cons, List.not_mem_nil, or_false] at hw
            rcases hw with rfl | rfl | rfl
            · exact hm_inG w1
            · exact hm_inG w2
            · exact g2
          · exact hm_wlG g1 w hw) (by unfold hm_wl hm_cw; rw [if_pos hm]) rfl rfl g3 g4) hpre rfl (by simp; omega) hl.1 rfl (lv_room (hm_rmW h8)) hd ⟨by show _ ≤ mc; omega, by show _ ≤ ms; omega⟩
    · exact vx_runS (Ts := hm_G) (n := hm_na m) (nL := hm_mL k) (cc := hm_cc k) (own := hm_own k) (index := x) (bytes := hm_cc m) (maxL := hm_mL m) (ret := hm_rt m) ⟨hx, hb, hml, hown, hts⟩ hM
        ⟨callB_of (ws' := hm_G) (hm_na m) hts (hm_goodG (hm_wlG g1)) (by unfold hm_wl hm_cw; rw [if_neg hm]) rfl rfl (hts _ g2) (hts _ (hm_inG w1)) g3 g4, hts _ (hm_inG w2)⟩ hpre rfl (by simp; omega) hl.1 rfl (lv_room (hm_rmW h8)) hd ⟨by show _ ≤ mc; omega, by show _ ≤ ms; omega⟩
  exact hm_call hrun hS (fun _ _ _ h => h.2) (fun _ _ _ h => h.2) (fun v st' t H1 locs1 ht hq hS1 => hm_behind C0 hC2 hsz hl hcb hsb hc1 hc2 ht hq hS1) (fun E ce q9 st' t H1 locs1 ht hx hS1 hce hcv hcl => hm_thrown C0 hC2 hsz hl hcb hsb hc1 hc2 ht hx hS1 hce hcv hcl)
theorem hm_V.word (hV : hm_V s) {w : Jvm.Cond} (hw : w ∈ lw_tbl.filter hm_vk) : w.before args s = true := by
  obtain ⟨h1, h2⟩ := List.mem_filter.mp hw
  have h3 := hV w h1 h2
  cases w with
  | fieldLinkNest a i b n d h => exact va_Nw.use rfl h3
  | methodLinkNest a i x h => exact va_Nw.use rfl h3
  | castable C T => exact va_Nw.use rfl h3
  | declares x => exact va_Nw.use rfl h3
  | _ => cases h2
theorem hm_goX (hfl : l.stackTraces = false) (C0 : hm_Cx k p s m' args meth c) (hW : hm_W D cI B t0 bs L xs h H) (hC2 : hm_C2 D cI B t0 bs L xs s) (hsz : B + 2 ≤ s.heap.size) (hS : va_S (hm_A B) s.heap H locs) (hl : lv_has ls (hm_mL k) (hm_lm B t0 bs lv)) (hcb : cells + b.1 ≤ mc) (hsb : slots + b.2 ≤ ms)
    (hc : hm_ck k pc .athrow 0 x y z = true) (b1 : 1 ≤ b.1) (b2 : 6 ≤ b.2) (hq : ∀ N : Nat, h.1 ≤ N → Q (.inl (hm_xn x)) (hm_unk h N)) :
    W p l e (hm_rm k (mc, ms)) s m' args below meth c H locs cells slots (vx_MQ below (hm_Qc D cI B t0 bs L xs Q) (hm_XC D cI B t0 bs L xs Q) args s mc ms (hm_A B)) (F0 m' pc ls []) := by
  obtain ⟨hx, hb, hml, hr, hown, hts, hlocks, hnm, hex⟩ := C0
  have key : ∀ t : State, s.vm.Alike t.vm → H.size ≤ t.heap.size → (∀ q : Nat, q < H.size → t.heap[q]? = H[q]?) → hm_XC D cI B t0 bs L xs Q (hm_xn x) s t := by
    intro t _ hz hk
    obtain ⟨w1, w2, w3, w4⟩ := hW
    have hN : h.1 ≤ t.heap.size - B := by omega
    refine ⟨⟨hm_unk h (t.heap.size - B), hq _ hN, hm_fxUnk hN w1, by show _ = B + (t.heap.size - B); omega, ?_, ?_⟩, Nat.le_trans hS.1 hz, fun q h1 h2 => (hk q (Nat.lt_of_lt_of_le h1 hS.1)).trans (hS.2.1 q h1 h2)⟩
    · rw [hm_wunk hN]
      exact w3.kept (fun j q hj => hk q.1 ((w3 j q hj).lt))
    · rw [hm_wunk hN]
      exact w4
  simp only [hm_ck, Bool.and_eq_true, Bool.or_eq_true, decide_eq_true_eq] at hc
  obtain ⟨rfl, hc⟩ := hc
  obtain ⟨v1, v2, v3, -⟩ := hC2.2.2.2
  have hG9 : ∀ (ws : List Jvm.Cond), (∀ w ∈ ws.filter goodWord, w ∈ lw_tbl) → ∀ w ∈ ws.filter goodWord, w.before args s = true := fun ws h9 w hw => hts w (List.mem_filter.mpr ⟨h9 w hw, (List.mem_filter.mp hw).2⟩)
  rcases hc with (⟨rfl, rfl⟩ | ⟨rfl, rfl⟩) | ⟨rfl, rfl⟩
  · obtain ⟨sa, v1⟩ := v1
    refine vx_throwSW (own := "CurvekeyHouse") (cls := "java/lang/IllegalArgumentException") (names := ["java/lang/RuntimeException", "java/lang/Exception"]) (ik := 408) (is := 410) (ic := 412) hx hb hfl hown (by decide +kernel) (by decide +kernel) (hts _ (hm_inG (y := 418) (by decide +kernel))) (hts _ (hm_inG (y := 60) (by decide +kernel))) v1
      (vx_hat (hG9 _ (by decide +kernel)) (B := lw_tbl.filter hm_vk) (by decide +kernel) (fun w hw => hC2.2.2.1.word hw)) (by decide +kernel) hC2.1.2.2.2.1 hC2.1.2.2.2.2 hS (hl.1.trans hml.symm) (by decide +kernel) (by decide +kernel) (by decide +kernel) (by decide +kernel) (by decide +kernel) ?_ (show 5 < hm_fr 31 by decide +kernel) (show 82 ≤ hm_lo 31 by decide +kernel) ?_ ?_ hlocks key hS.2.2 (by omega) (by omega)
    · rw [hex, hm_hh0 (by decide)]
      intro x hx
      cases hx
    · show _ ≤ mc; omega
    · show _ ≤ ms; omega
  · obtain ⟨sa, v2⟩ := v2
    refine vx_throwSW (own := "CurvekeyHouse") (cls := "java/lang/IllegalStateException") (names := ["java/lang/RuntimeException", "java/lang/Exception"]) (ik := 415) (is := 417) (ic := 419) hx hb hfl hown (by decide +kernel) (by decide +kernel) (hts _ (hm_inG (y := 638) (by decide +kernel))) (hts _ (hm_inG (y := 61) (by decide +kernel))) v2
      (vx_hat (hG9 _ (by decide +kernel)) (B := lw_tbl.filter hm_vk) (by decide +kernel) (fun w hw => hC2.2.2.1.word hw)) (by decide +kernel) hC2.1.2.2.2.1 hC2.1.2.2.2.2 hS (hl.1.trans hml.symm) (by decide +kernel) (by decide +kernel) (by decide +kernel) (by decide +kernel) (by decide +kernel) ?_ (show 5 < hm_fr 32 by decide +kernel) (show 82 ≤ hm_lo 32 by decide +kernel) ?_ ?_ hlocks key hS.2.2 (by omega) (by omega)
    · rw [hex, hm_hh0 (by decide)]
      intro x hx
      cases hx
    · show _ ≤ mc; omega
    · show _ ≤ ms; omega
  · obtain ⟨sa, v3⟩ := v3
    refine vx_throwSW (own := "CurvekeyHouse") (cls := "java/lang/IndexOutOfBoundsException") (names := ["java/lang/RuntimeException", "java/lang/Exception"]) (ik := 420) (is := 422) (ic := 424) hx hb hfl hown (by decide +kernel) (by decide +kernel) (hts _ (hm_inG (y := 754) (by decide +kernel))) (hts _ (hm_inG (y := 62) (by decide +kernel))) v3
      (vx_hat (hG9 _ (by decide +kernel)) (B := lw_tbl.filter hm_vk) (by decide +kernel) (fun w hw => hC2.2.2.1.word hw)) (by decide +kernel) hC2.1.2.2.2.1 hC2.1.2.2.2.2 hS (hl.1.trans hml.symm) (by decide +kernel) (by decide +kernel) (by decide +kernel) (by decide +kernel) (by decide +kernel) ?_ (show 5 < hm_fr 33 by decide +kernel) (show 82 ≤ hm_lo 33 by decide +kernel) ?_ ?_ hlocks key hS.2.2 (by omega) (by omega)
    · rw [hex, hm_hh0 (by decide)]
      intro x hx
      cases hx
    · show _ ≤ mc; omega
    · show _ ≤ ms; omega
end HGo
