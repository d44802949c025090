/-! The constructors' row fields. -/
theorem hm_nrk {sh : Nat → hm_Sh} {N n me j : Nat} (hm : me < N) : (hm_nr sh N n me j me).1 = (sh me).1 := by
  unfold hm_nr
  rw [if_neg (Nat.ne_of_lt hm), if_neg (Nat.ne_of_lt (Nat.lt_succ_of_lt hm)), if_pos rfl]
set_option maxRecDepth 20000 in
theorem cr_68 {R : hm_R} (hR : hm_Cm R) {N me : Nat} {sh : Nat → hm_Sh} {s : hm_St} {b : hm_B} {Q : hm_Q} {p1 : Int32} (hk : (sh me).1 = 1) (h2 : 2 ≤ me) (hm : me < N) (hb1 : 2 ≤ b.1) (hb2 : 1366 ≤ b.2) (H : R 68 18 [(0, .ref me), (1, .int p1)] [] (N + 2, (hm_nr sh N 1365 me 0), (hm_ns s N)) (b.1 - 1 - 1, b.2 - 1 - 1365) Q) : R 68 0 (lv_args 0 [.ref me, .int p1]) [] (N, sh, s) b Q := by
  show R 68 0 [(0, .ref me), (1, .int p1)] [] (N, sh, s) b Q
  refine hm_st hR (hm_st hR ⟨hm_le rfl, ?_⟩)
  show R 68 4 [(0, .ref me), (1, .int p1)] [] (N, sh, s) (b.1, b.2) Q
  refine hm_st hR ?_
  show R 68 5 [(0, .ref me), (1, .int p1)] [.ref me] (N, sh, s) (b.1, b.2) Q
  refine hm_fld (n := 1365) hR (by rfl) (by rfl) (by rfl) (by rfl) (by rfl) (by decide) (by decide) (by decide) (by decide) hk (by rfl) h2 hm (by show 2 ≤ b.1; omega) (by show 1365 + 1 ≤ b.2; omega) ?_
  show R 68 18 [(0, .ref me), (1, .int p1)] [] (N + 2, (hm_nr sh N 1365 me 0), (hm_ns s N)) (b.1 - 1 - 1, b.2 - 1 - 1365) Q
  exact H
set_option maxRecDepth 20000 in
theorem cr_84 {R : hm_R} (hR : hm_Cm R) {N me : Nat} {sh : Nat → hm_Sh} {s : hm_St} {b : hm_B} {Q : hm_Q} {p1 : Int32} (hk : (sh me).1 = 2) (h2 : 2 ≤ me) (hm : me < N) (hb1 : 10 ≤ b.1) (hb2 : 12349 ≤ b.2) (H : R 84 71 [(0, .ref me), (1, .int p1)] [] (N + 10, (hm_nr (hm_nr (hm_nr (hm_nr (hm_nr sh N 16 me 0) (N + 2) 16 me 1) (N + 4) 6144 me 2) (N + 6) 6144 me 3) (N + 8) 24 me 4), (hm_ns (hm_ns (hm_ns (hm_ns (hm_ns s N) (N + 2)) (N + 4)) (N + 6)) (N + 8))) (b.1 - 1 - 1 - 1 - 1 - 1 - 1 - 1 - 1 - 1 - 1, b.2 - 1 - 16 - 1 - 16 - 1 - 6144 - 1 - 6144 - 1 - 24) Q) : R 84 0 (lv_args 0 [.ref me, .int p1]) [] (N, sh, s) b Q := by
  show R 84 0 [(0, .ref me), (1, .int p1)] [] (N, sh, s) b Q
  refine hm_st hR (hm_st hR ⟨hm_le rfl, ?_⟩)
  show R 84 4 [(0, .ref me), (1, .int p1)] [] (N, sh, s) (b.1, b.2) Q
  refine hm_st hR ?_
  show R 84 5 [(0, .ref me), (1, .int p1)] [.ref me] (N, sh, s) (b.1, b.2) Q
  refine hm_fld (n := 16) hR (by rfl) (by rfl) (by rfl) (by rfl) (by rfl) (by decide) (by decide) (by decide) (by decide) hk (by rfl) h2 hm (by show 2 ≤ b.1; omega) (by show 16 + 1 ≤ b.2; omega) ?_
  show R 84 17 [(0, .ref me), (1, .int p1)] [] (N + 2, (hm_nr sh N 16 me 0), (hm_ns s N)) (b.1 - 1 - 1, b.2 - 1 - 16) Q
  refine hm_st hR ?_
  show R 84 18 [(0, .ref me), (1, .int p1)] [.ref me] (N + 2, (hm_nr sh N 16 me 0), (hm_ns s N)) (b.1 - 1 - 1, b.2 - 1 - 16) Q
  refine hm_fld (n := 16) hR (by rfl) (by rfl) (by rfl) (by rfl) (by rfl) (by decide) (by decide) (by decide) (by decide) ((hm_nrk hm).trans hk) (by rfl) h2 (Nat.lt_succ_of_lt (Nat.lt_succ_of_lt hm)) (by show 2 ≤ b.1 - 1 - 1; omega) (by show 16 + 1 ≤ b.2 - 1 - 16; omega) ?_
  show R 84 30 [(0, .ref me), (1, .int p1)] [] (N + 4, (hm_nr (hm_nr sh N 16 me 0) (N + 2) 16 me 1), (hm_ns (hm_ns s N) (N + 2))) (b.1 - 1 - 1 - 1 - 1, b.2 - 1 - 16 - 1 - 16) Q
  refine hm_st hR ?_
  show R 84 31 [(0, .ref me), (1, .int p1)] [.ref me] (N + 4, (hm_nr (hm_nr sh N 16 me 0) (N + 2) 16 me 1), (hm_ns (hm_ns s N) (N + 2))) (b.1 - 1 - 1 - 1 - 1, b.2 - 1 - 16 - 1 - 16) Q
  refine hm_fld (n := 6144) hR (by rfl) (by rfl) (by rfl) (by rfl) (by rfl) (by decide) (by decide) (by decide) (by decide) ((hm_nrk (Nat.lt_succ_of_lt (Nat.lt_succ_of_lt hm))).trans ((hm_nrk hm).trans hk)) (by rfl) h2 (Nat.lt_succ_of_lt (Nat.lt_succ_of_lt (Nat.lt_succ_of_lt (Nat.lt_succ_of_lt hm)))) (by show 2 ≤ b.1 - 1 - 1 - 1 - 1; omega) (by show 6144 + 1 ≤ b.2 - 1 - 16 - 1 - 16; omega) ?_
  show R 84 44 [(0, .ref me), (1, .int p1)] [] (N + 6, (hm_nr (hm_nr (hm_nr sh N 16 me 0) (N + 2) 16 me 1) (N + 4) 6144 me 2), (hm_ns (hm_ns (hm_ns s N) (N + 2)) (N + 4))) (b.1 - 1 - 1 - 1 - 1 - 1 - 1, b.2 - 1 - 16 - 1 - 16 - 1 - 6144) Q
  refine hm_st hR ?_
  show R 84 45 [(0, .ref me), (1, .int p1)] [.ref me] (N + 6, (hm_nr (hm_nr (hm_nr sh N 16 me 0) (N + 2) 16 me 1) (N + 4) 6144 me 2), (hm_ns (hm_ns (hm_ns s N) (N + 2)) (N + 4))) (b.1 - 1 - 1 - 1 - 1 - 1 - 1, b.2 - 1 - 16 - 1 - 16 - 1 - 6144) Q
  refine hm_fld (n := 6144) hR (by rfl) (by rfl) (by rfl) (by rfl) (by rfl) (by decide) (by decide) (by decide) (by decide) ((hm_nrk (Nat.lt_succ_of_lt (Nat.lt_succ_of_lt (Nat.lt_succ_of_lt (Nat.lt_succ_of_lt hm))))).trans ((hm_nrk (Nat.lt_succ_of_lt (Nat.lt_succ_of_lt hm))).trans ((hm_nrk hm).trans hk))) (by rfl) h2 (Nat.lt_succ_of_lt (Nat.lt_succ_of_lt (Nat.lt_succ_of_lt (Nat.lt_succ_of_lt (Nat.lt_succ_of_lt (Nat.lt_succ_of_lt hm)))))) (by show 2 ≤ b.1 - 1 - 1 - 1 - 1 - 1 - 1; omega) (by show 6144 + 1 ≤ b.2 - 1 - 16 - 1 - 16 - 1 - 6144; omega) ?_
  show R 84 58 [(0, .ref me), (1, .int p1)] [] (N + 8, (hm_nr (hm_nr (hm_nr (hm_nr sh N 16 me 0) (N + 2) 16 me 1) (N + 4) 6144 me 2) (N + 6) 6144 me 3), (hm_ns (hm_ns (hm_ns (hm_ns s N) (N + 2)) (N + 4)) (N + 6))) (b.1 - 1 - 1 - 1 - 1 - 1 - 1 - 1 - 1, b.2 - 1 - 16 - 1 - 16 - 1 - 6144 - 1 - 6144) Q
  refine hm_st hR ?_
  show R 84 59 [(0, .ref me), (1, .int p1)] [.ref me] (N + 8, (hm_nr (hm_nr (hm_nr (hm_nr sh N 16 me 0) (N + 2) 16 me 1) (N + 4) 6144 me 2) (N + 6) 6144 me 3), (hm_ns (hm_ns (hm_ns (hm_ns s N) (N + 2)) (N + 4)) (N + 6))) (b.1 - 1 - 1 - 1 - 1 - 1 - 1 - 1 - 1, b.2 - 1 - 16 - 1 - 16 - 1 - 6144 - 1 - 6144) Q
  refine hm_fld (n := 24) hR (by rfl) (by rfl) (by rfl) (by rfl) (by rfl) (by decide) (by decide) (by decide) (by decide) ((hm_nrk (Nat.lt_succ_of_lt (Nat.lt_succ_of_lt (Nat.lt_succ_of_lt (Nat.lt_succ_of_lt (Nat.lt_succ_of_lt (Nat.lt_succ_of_lt hm))))))).trans ((hm_nrk (Nat.lt_succ_of_lt (Nat.lt_succ_of_lt (Nat.lt_succ_of_lt (Nat.lt_succ_of_lt hm))))).trans ((hm_nrk (Nat.lt_succ_of_lt (Nat.lt_succ_of_lt hm))).trans ((hm_nrk hm).trans hk)))) (by rfl) h2 (Nat.lt_succ_of_lt (Nat.lt_succ_of_lt (Nat.lt_succ_of_lt (Nat.lt_succ_of_lt (Nat.lt_succ_of_lt (Nat.lt_succ_of_lt (Nat.lt_succ_of_lt (Nat.lt_succ_of_lt hm)))))))) (by show 2 ≤ b.1 - 1 - 1 - 1 - 1 - 1 - 1 - 1 - 1; omega) (by show 24 + 1 ≤ b.2 - 1 - 16 - 1 - 16 - 1 - 6144 - 1 - 6144; omega) ?_
  show R 84 71 [(0, .ref me), (1, .int p1)] [] (N + 10, (hm_nr (hm_nr (hm_nr (hm_nr (hm_nr sh N 16 me 0) (N + 2) 16 me 1) (N + 4) 6144 me 2) (N + 6) 6144 me 3) (N + 8) 24 me 4), (hm_ns (hm_ns (hm_ns (hm_ns (hm_ns s N) (N + 2)) (N + 4)) (N + 6)) (N + 8))) (b.1 - 1 - 1 - 1 - 1 - 1 - 1 - 1 - 1 - 1 - 1, b.2 - 1 - 16 - 1 - 16 - 1 - 6144 - 1 - 6144 - 1 - 24) Q
  exact H
set_option maxRecDepth 20000 in
theorem cr_100 {R : hm_R} (hR : hm_Cm R) {N me : Nat} {sh : Nat → hm_Sh} {s : hm_St} {b : hm_B} {Q : hm_Q} (hk : (sh me).1 = 3) (h2 : 2 ≤ me) (hm : me < N) (hb1 : 4 ≤ b.1) (hb2 : 2050 ≤ b.2) (H : R 100 32 [(0, .ref me)] [] (N + 4, (hm_nr (hm_nr sh N 1024 me 0) (N + 2) 1024 me 1), (hm_ns (hm_ns s N) (N + 2))) (b.1 - 1 - 1 - 1 - 1, b.2 - 1 - 1024 - 1 - 1024) Q) : R 100 0 (lv_args 0 [.ref me]) [] (N, sh, s) b Q := by
  show R 100 0 [(0, .ref me)] [] (N, sh, s) b Q
  refine hm_st hR (hm_st hR ⟨hm_le rfl, ?_⟩)
  show R 100 4 [(0, .ref me)] [] (N, sh, s) (b.1, b.2) Q
  refine hm_st hR ?_
  show R 100 5 [(0, .ref me)] [.ref me] (N, sh, s) (b.1, b.2) Q
  refine hm_fld (n := 1024) hR (by rfl) (by rfl) (by rfl) (by rfl) (by rfl) (by decide) (by decide) (by decide) (by decide) hk (by rfl) h2 hm (by show 2 ≤ b.1; omega) (by show 1024 + 1 ≤ b.2; omega) ?_
  show R 100 18 [(0, .ref me)] [] (N + 2, (hm_nr sh N 1024 me 0), (hm_ns s N)) (b.1 - 1 - 1, b.2 - 1 - 1024) Q
  refine hm_st hR ?_
  show R 100 19 [(0, .ref me)] [.ref me] (N + 2, (hm_nr sh N 1024 me 0), (hm_ns s N)) (b.1 - 1 - 1, b.2 - 1 - 1024) Q
  refine hm_fld (n := 1024) hR (by rfl) (by rfl) (by rfl) (by rfl) (by rfl) (by decide) (by decide) (by decide) (by decide) ((hm_nrk hm).trans hk) (by rfl) h2 (Nat.lt_succ_of_lt (Nat.lt_succ_of_lt hm)) (by show 2 ≤ b.1 - 1 - 1; omega) (by show 1024 + 1 ≤ b.2 - 1 - 1024; omega) ?_
  show R 100 32 [(0, .ref me)] [] (N + 4, (hm_nr (hm_nr sh N 1024 me 0) (N + 2) 1024 me 1), (hm_ns (hm_ns s N) (N + 2))) (b.1 - 1 - 1 - 1 - 1, b.2 - 1 - 1024 - 1 - 1024) Q
  exact H
set_option maxRecDepth 20000 in
theorem cr_110 {R : hm_R} (hR : hm_Cm R) {N me : Nat} {sh : Nat → hm_Sh} {s : hm_St} {b : hm_B} {Q : hm_Q} (hk : (sh me).1 = 4) (h2 : 2 ≤ me) (hm : me < N) (hb1 : 16 ≤ b.1) (hb2 : 8520 ≤ b.2) (H : R 110 112 [(0, .ref me)] [] (N + 16, (hm_nr (hm_nr (hm_nr (hm_nr (hm_nr (hm_nr (hm_nr (hm_nr sh N 2048 me 0) (N + 2) 2048 me 1) (N + 4) 2048 me 2) (N + 6) 2048 me 3) (N + 8) 80 me 4) (N + 10) 80 me 5) (N + 12) 80 me 6) (N + 14) 80 me 7), (hm_ns (hm_ns (hm_ns (hm_ns (hm_ns (hm_ns (hm_ns (hm_ns s N) (N + 2)) (N + 4)) (N + 6)) (N + 8)) (N + 10)) (N + 12)) (N + 14))) (b.1 - 1 - 1 - 1 - 1 - 1 - 1 - 1 - 1 - 1 - 1 - 1 - 1 - 1 - 1 - 1 - 1, b.2 - 1 - 2048 - 1 - 2048 - 1 - 2048 - 1 - 2048 - 1 - 80 - 1 - 80 - 1 - 80 - 1 - 80) Q) : R 110 0 (lv_args 0 [.ref me]) [] (N, sh, s) b Q := by
  show R 110 0 [(0, .ref me)] [] (N, sh, s) b Q
  refine hm_st hR (hm_st hR ⟨hm_le rfl, ?_⟩)
  show R 110 4 [(0, .ref me)] [] (N, sh, s) (b.1, b.2) Q
  refine hm_st hR ?_
  show R 110 5 [(0, .ref me)] [.ref me] (N, sh, s) (b.1, b.2) Q
  refine hm_fld (n := 2048) hR (by rfl) (by rfl) (by rfl) (by rfl) (by rfl) (by decide) (by decide) (by decide) (by decide) hk (by rfl) h2 hm (by show 2 ≤ b.1; omega) (by show 2048 + 1 ≤ b.2; omega) ?_
  show R 110 18 [(0, .ref me)] [] (N + 2, (hm_nr sh N 2048 me 0), (hm_ns s N)) (b.1 - 1 - 1, b.2 - 1 - 2048) Q
  refine hm_st hR ?_
  show R 110 19 [(0, .ref me)] [.ref me] (N + 2, (hm_nr sh N 2048 me 0), (hm_ns s N)) (b.1 - 1 - 1, b.2 - 1 - 2048) Q
  refine hm_fld (n := 2048) hR (by rfl) (by rfl) (by rfl) (by rfl) (by rfl) (by decide) (by decide) (by decide) (by decide) ((hm_nrk hm).trans hk) (by rfl) h2 (Nat.lt_succ_of_lt (Nat.lt_succ_of_lt hm)) (by show 2 ≤ b.1 - 1 - 1; omega) (by show 2048 + 1 ≤ b.2 - 1 - 2048; omega) ?_
  show R 110 32 [(0, .ref me)] [] (N + 4, (hm_nr (hm_nr sh N 2048 me 0) (N + 2) 2048 me 1), (hm_ns (hm_ns s N) (N + 2))) (b.1 - 1 - 1 - 1 - 1, b.2 - 1 - 2048 - 1 - 2048) Q
  refine hm_st hR ?_
  show R 110 33 [(0, .ref me)] [.ref me] (N + 4, (hm_nr (hm_nr sh N 2048 me 0) (N + 2) 2048 me 1), (hm_ns (hm_ns s N) (N + 2))) (b.1 - 1 - 1 - 1 - 1, b.2 - 1 - 2048 - 1 - 2048) Q
  refine hm_fld (n := 2048) hR (by rfl) (by rfl) (by rfl) (by rfl) (by rfl) (by decide) (by decide) (by decide) (by decide) ((hm_nrk (Nat.lt_succ_of_lt (Nat.lt_succ_of_lt hm))).trans ((hm_nrk hm).trans hk)) (by rfl) h2 (Nat.lt_succ_of_lt (Nat.lt_succ_of_lt (Nat.lt_succ_of_lt (Nat.lt_succ_of_lt hm)))) (by show 2 ≤ b.1 - 1 - 1 - 1 - 1; omega) (by show 2048 + 1 ≤ b.2 - 1 - 2048 - 1 - 2048; omega) ?_
  show R 110 46 [(0, .ref me)] [] (N + 6, (hm_nr (hm_nr (hm_nr sh N 2048 me 0) (N + 2) 2048 me 1) (N + 4) 2048 me 2), (hm_ns (hm_ns (hm_ns s N) (N + 2)) (N + 4))) (b.1 - 1 - 1 - 1 - 1 - 1 - 1, b.2 - 1 - 2048 - 1 - 2048 - 1 - 2048) Q
  refine hm_st hR ?_
  show R 110 47 [(0, .ref me)] [.ref me] (N + 6, (hm_nr (hm_nr (hm_nr sh N 2048 me 0) (N + 2) 2048 me 1) (N + 4) 2048 me 2), (hm_ns (hm_ns (hm_ns s N) (N + 2)) (N + 4))) (b.1 - 1 - 1 - 1 - 1 - 1 - 1, b.2 - 1 - 2048 - 1 - 2048 - 1 - 2048) Q
  refine hm_fld (n := 2048) hR (by rfl) (by rfl) (by rfl) (by rfl) (by rfl) (by decide) (by decide) (by decide) (by decide) ((hm_nrk (Nat.lt_succ_of_lt (Nat.lt_succ_of_lt (Nat.lt_succ_of_lt (Nat.lt_succ_of_lt hm))))).trans ((hm_nrk (Nat.lt_succ_of_lt (Nat.lt_succ_of_lt hm))).trans ((hm_nrk hm).trans hk))) (by rfl) h2 (Nat.lt_succ_of_lt (Nat.lt_succ_of_lt (Nat.lt_succ_of_lt (Nat.lt_succ_of_lt (Nat.lt_succ_of_lt (Nat.lt_succ_of_lt hm)))))) (by show 2 ≤ b.1 - 1 - 1 - 1 - 1 - 1 - 1; omega) (by show 2048 + 1 ≤ b.2 - 1 - 2048 - 1 - 2048 - 1 - 2048; omega) ?_
  show R 110 60 [(0, .ref me)] [] (N + 8, (hm_nr (hm_nr (hm_nr (hm_nr sh N 2048 me 0) (N + 2) 2048 me 1) (N + 4) 2048 me 2) (N + 6) 2048 me 3), (hm_ns (hm_ns (hm_ns (hm_ns s N) (N + 2)) (N + 4)) (N + 6))) (b.1 - 1 - 1 - 1 - 1 - 1 - 1 - 1 - 1, b.2 - 1 - 2048 - 1 - 2048 - 1 - 2048 - 1 - 2048) Q
  refine hm_st hR ?_
  show R 110 61 [(0, .ref me)] [.ref me] (N + 8, (hm_nr (hm_nr (hm_nr (hm_nr sh N 2048 me 0) (N + 2) 2048 me 1) (N + 4) 2048 me 2) (N + 6) 2048 me 3), (hm_ns (hm_ns (hm_ns (hm_ns s N) (N + 2)) (N + 4)) (N + 6))) (b.1 - 1 - 1 - 1 - 1 - 1 - 1 - 1 - 1, b.2 - 1 - 2048 - 1 - 2048 - 1 - 2048 - 1 - 2048) Q
  refine hm_fld (n := 80) hR (by rfl) (by rfl) (by rfl) (by rfl) (by rfl) (by decide) (by decide) (by decide) (by decide) ((hm_nrk (Nat.lt_succ_of_lt (Nat.lt_succ_of_lt (Nat.lt_succ_of_lt (Nat.lt_succ_of_lt (Nat.lt_succ_of_lt (Nat.lt_succ_of_lt hm))))))).trans ((hm_nrk (Nat.lt_succ_of_lt (Nat.lt_succ_of_lt (Nat.lt_succ_of_lt (Nat.lt_succ_of_lt hm))))).trans ((hm_nrk (Nat.lt_succ_of_lt (Nat.lt_succ_of_lt hm))).trans ((hm_nrk hm).trans hk)))) (by rfl) h2 (Nat.lt_succ_of_lt (Nat.lt_succ_of_lt (Nat.lt_succ_of_lt (Nat.lt_succ_of_lt (Nat.lt_succ_of_lt (Nat.lt_succ_of_lt (Nat.lt_succ_of_lt (Nat.lt_succ_of_lt hm)))))))) (by show 2 ≤ b.1 - 1 - 1 - 1 - 1 - 1 - 1 - 1 - 1; omega) (by show 80 + 1 ≤ b.2 - 1 - 2048 - 1 - 2048 - 1 - 2048 - 1 - 2048; omega) ?_
  show R 110 73 [(0, .ref me)] [] (N + 10, (hm_nr (hm_nr (hm_nr (hm_nr (hm_nr sh N 2048 me 0) (N + 2) 2048 me 1) (N + 4) 2048 me 2) (N + 6) 2048 me 3) (N + 8) 80 me 4), (hm_ns (hm_ns (hm_ns (hm_ns (hm_ns s N) (N + 2)) (N + 4)) (N + 6)) (N + 8))) (b.1 - 1 - 1 - 1 - 1 - 1 - 1 - 1 - 1 - 1 - 1, b.2 - 1 - 2048 - 1 - 2048 - 1 - 2048 - 1 - 2048 - 1 - 80) Q
  refine hm_st hR ?_
  show R 110 74 [(0, .ref me)] [.ref me] (N + 10, (hm_nr (hm_nr (hm_nr (hm_nr (hm_nr sh N 2048 me 0) (N + 2) 2048 me 1) (N + 4) 2048 me 2) (N + 6) 2048 me 3) (N + 8) 80 me 4), (hm_ns (hm_ns (hm_ns (hm_ns (hm_ns s N) (N + 2)) (N + 4)) (N + 6)) (N + 8))) (b.1 - 1 - 1 - 1 - 1 - 1 - 1 - 1 - 1 - 1 - 1, b.2 - 1 - 2048 - 1 - 2048 - 1 - 2048 - 1 - 2048 - 1 - 80) Q
  refine hm_fld (n := 80) hR (by rfl) (by rfl) (by rfl) (by rfl) (by rfl) (by decide) (by decide) (by decide) (by decide) ((hm_nrk (Nat.lt_succ_of_lt (Nat.lt_succ_of_lt (Nat.lt_succ_of_lt (Nat.lt_succ_of_lt (Nat.lt_succ_of_lt (Nat.lt_succ_of_lt (Nat.lt_succ_of_lt (Nat.lt_succ_of_lt hm))))))))).trans ((hm_nrk (Nat.lt_succ_of_lt (Nat.lt_succ_of_lt (Nat.lt_succ_of_lt (Nat.lt_succ_of_lt (Nat.lt_succ_of_lt (Nat.lt_succ_of_lt hm))))))).trans ((hm_nrk (Nat.lt_succ_of_lt (Nat.lt_succ_of_lt (Nat.lt_succ_of_lt (Nat.lt_succ_of_lt hm))))).trans ((hm_nrk (Nat.lt_succ_of_lt (Nat.lt_succ_of_lt hm))).trans ((hm_nrk hm).trans hk))))) (by rfl) h2 (Nat.lt_succ_of_lt (Nat.lt_succ_of_lt (Nat.lt_succ_of_lt (Nat.lt_succ_of_lt (Nat.lt_succ_of_lt (Nat.lt_succ_of_lt (Nat.lt_succ_of_lt (Nat.lt_succ_of_lt (Nat.lt_succ_of_lt (Nat.lt_succ_of_lt hm)))))))))) (by show 2 ≤ b.1 - 1 - 1 - 1 - 1 - 1 - 1 - 1 - 1 - 1 - 1; omega) (by show 80 + 1 ≤ b.2 - 1 - 2048 - 1 - 2048 - 1 - 2048 - 1 - 2048 - 1 - 80; omega) ?_
  show R 110 86 [(0, .ref me)] [] (N + 12, (hm_nr (hm_nr (hm_nr (hm_nr (hm_nr (hm_nr sh N 2048 me 0) (N + 2) 2048 me 1) (N + 4) 2048 me 2) (N + 6) 2048 me 3) (N + 8) 80 me 4) (N + 10) 80 me 5), (hm_ns (hm_ns (hm_ns (hm_ns (hm_ns (hm_ns s N) (N + 2)) (N + 4)) (N + 6)) (N + 8)) (N + 10))) (b.1 - 1 - 1 - 1 - 1 - 1 - 1 - 1 - 1 - 1 - 1 - 1 - 1, b.2 - 1 - 2048 - 1 - 2048 - 1 - 2048 - 1 - 2048 - 1 - 80 - 1 - 80) Q
  refine hm_st hR ?_
  show R 110 87 [(0, .ref me)] [.ref me] (N + 12, (hm_nr (hm_nr (hm_nr (hm_nr (hm_nr (hm_nr sh N 2048 me 0) (N + 2) 2048 me 1) (N + 4) 2048 me 2) (N + 6) 2048 me 3) (N + 8) 80 me 4) (N + 10) 80 me 5), (hm_ns (hm_ns (hm_ns (hm_ns (hm_ns (hm_ns s N) (N + 2)) (N + 4)) (N + 6)) (N + 8)) (N + 10))) (b.1 - 1 - 1 - 1 - 1 - 1 - 1 - 1 - 1 - 1 - 1 - 1 - 1, b.2 - 1 - 2048 - 1 - 2048 - 1 - 2048 - 1 - 2048 - 1 - 80 - 1 - 80) Q
  refine hm_fld (n := 80) hR (by rfl) (by rfl) (by rfl) (by rfl) (by rfl) (by decide) (by decide) (by decide) (by decide) ((hm_nrk (Nat.lt_succ_of_lt (Nat.lt_succ_of_lt (Nat.lt_succ_of_lt (Nat.lt_succ_of_lt (Nat.lt_succ_of_lt (Nat.lt_succ_of_lt (Nat.lt_succ_of_lt (Nat.lt_succ_of_lt (Nat.lt_succ_of_lt (Nat.lt_succ_of_lt hm))))))))))).trans ((hm_nrk (Nat.lt_succ_of_lt (Nat.lt_succ_of_lt (Nat.lt_succ_of_lt (Nat.lt_succ_of_lt (Nat.lt_succ_of_lt (Nat.lt_succ_of_lt (Nat.lt_succ_of_lt (Nat.lt_succ_of_lt hm))))))))).trans ((hm_nrk (Nat.lt_succ_of_lt (Nat.lt_succ_of_lt (Nat.lt_succ_of_lt (Nat.lt_succ_of_lt (Nat.lt_succ_of_lt (Nat.lt_succ_of_lt hm))))))).trans ((hm_nrk (Nat.lt_succ_of_lt (Nat.lt_succ_of_lt (Nat.lt_succ_of_lt (Nat.lt_succ_of_lt hm))))).trans ((hm_nrk (Nat.lt_succ_of_lt (Nat.lt_succ_of_lt hm))).trans ((hm_nrk hm).trans hk)))))) (by rfl) h2 (Nat.lt_succ_of_lt (Nat.lt_succ_of_lt (Nat.lt_succ_of_lt (Nat.lt_succ_of_lt (Nat.lt_succ_of_lt (Nat.lt_succ_of_lt (Nat.lt_succ_of_lt (Nat.lt_succ_of_lt (Nat.lt_succ_of_lt (Nat.lt_succ_of_lt (Nat.lt_succ_of_lt (Nat.lt_succ_of_lt hm)))))))))))) (by show 2 ≤ b.1 - 1 - 1 - 1 - 1 - 1 - 1 - 1 - 1 - 1 - 1 - 1 - 1; omega) (by show 80 + 1 ≤ b.2 - 1 - 2048 - 1 - 2048 - 1 - 2048 - 1 - 2048 - 1 - 80 - 1 - 80; omega) ?_
  show R 110 99 [(0, .ref me)] [] (N + 14, (hm_nr (hm_nr (hm_nr (hm_nr (hm_nr (hm_nr (hm_nr sh N 2048 me 0) (N + 2) 2048 me 1) (N + 4) 2048 me 2) (N + 6) 2048 me 3) (N + 8) 80 me 4) (N + 10) 80 me 5) (N + 12) 80 me 6), (hm_ns (hm_ns (hm_ns (hm_ns (hm_ns (hm_ns (hm_ns s N) (N + 2)) (N + 4)) (N + 6)) (N + 8)) (N + 10)) (N + 12))) (b.1 - 1 - 1 - 1 - 1 - 1 - 1 - 1 - 1 - 1 - 1 - 1 - 1 - 1 - 1, b.2 - 1 - 2048 - 1 - 2048 - 1 - 2048 - 1 - 2048 - 1 - 80 - 1 - 80 - 1 - 80) Q
  refine hm_st hR ?_
  show R 110 100 [(0, .ref me)] [.ref me] (N + 14, (hm_nr (hm_nr (hm_nr (hm_nr (hm_nr (hm_nr (hm_nr sh N 2048 me 0) (N + 2) 2048 me 1) (N + 4) 2048 me 2) (N + 6) 2048 me 3) (N + 8) 80 me 4) (N + 10) 80 me 5) (N + 12) 80 me 6), (hm_ns (hm_ns (hm_ns (hm_ns (hm_ns (hm_ns (hm_ns s N) (N + 2)) (N + 4)) (N + 6)) (N + 8)) (N + 10)) (N + 12))) (b.1 - 1 - 1 - 1 - 1 - 1 - 1 - 1 - 1 - 1 - 1 - 1 - 1 - 1 - 1, b.2 - 1 - 2048 - 1 - 2048 - 1 - 2048 - 1 - 2048 - 1 - 80 - 1 - 80 - 1 - 80) Q
  refine hm_fld (n := 80) hR (by rfl) (by rfl) (by rfl) (by rfl) (by rfl) (by decide) (by decide) (by decide) (by decide) ((hm_nrk (Nat.lt_succ_of_lt (Nat.lt_succ_of_lt (Nat.lt_succ_of_lt (Nat.lt_succ_of_lt (Nat.lt_succ_of_lt (Nat.lt_succ_of_lt (Nat.lt_succ_of_lt (Nat.lt_succ_of_lt (Nat.lt_succ_of_lt (Nat.lt_succ_of_lt (Nat.lt_succ_of_lt (Nat.lt_succ_of_lt hm))))))))))))).trans ((hm_nrk (Nat.lt_succ_of_lt (Nat.lt_succ_of_lt (Nat.lt_succ_of_lt (Nat.lt_succ_of_lt (Nat.lt_succ_of_lt (Nat.lt_succ_of_lt (Nat.lt_succ_of_lt (Nat.lt_succ_of_lt (Nat.lt_succ_of_lt (Nat.lt_succ_of_lt hm))))))))))).trans ((hm_nrk (Nat.lt_succ_of_lt (Nat.lt_succ_of_lt (Nat.lt_succ_of_lt (Nat.lt_succ_of_lt (Nat.lt_succ_of_lt (Nat.lt_succ_of_lt (Nat.lt_succ_of_lt (Nat.lt_succ_of_lt hm))))))))).trans ((hm_nrk (Nat.lt_succ_of_lt (Nat.lt_succ_of_lt (Nat.lt_succ_of_lt (Nat.lt_succ_of_lt (Nat.lt_succ_of_lt (Nat.lt_succ_of_lt hm))))))).trans ((hm_nrk (Nat.lt_succ_of_lt (Nat.lt_succ_of_lt (Nat.lt_succ_of_lt (Nat.lt_succ_of_lt hm))))).trans ((hm_nrk (Nat.lt_succ_of_lt (Nat.lt_succ_of_lt hm))).trans ((hm_nrk hm).trans hk))))))) (by rfl) h2 (Nat.lt_succ_of_lt (Nat.lt_succ_of_lt (Nat.lt_succ_of_lt (Nat.lt_succ_of_lt (Nat.lt_succ_of_lt (Nat.lt_succ_of_lt (Nat.lt_succ_of_lt (Nat.lt_succ_of_lt (Nat.lt_succ_of_lt (Nat.lt_succ_of_lt (Nat.lt_succ_of_lt (Nat.lt_succ_of_lt (Nat.lt_succ_of_lt (Nat.lt_succ_of_lt hm)))))))))))))) (by show 2 ≤ b.1 - 1 - 1 - 1 - 1 - 1 - 1 - 1 - 1 - 1 - 1 - 1 - 1 - 1 - 1; omega) (by show 80 + 1 ≤ b.2 - 1 - 2048 - 1 - 2048 - 1 - 2048 - 1 - 2048 - 1 - 80 - 1 - 80 - 1 - 80; omega) ?_
  show R 110 112 [(0, .ref me)] [] (N + 16, (hm_nr (hm_nr (hm_nr (hm_nr (hm_nr (hm_nr (hm_nr (hm_nr sh N 2048 me 0) (N + 2) 2048 me 1) (N + 4) 2048 me 2) (N + 6) 2048 me 3) (N + 8) 80 me 4) (N + 10) 80 me 5) (N + 12) 80 me 6) (N + 14) 80 me 7), (hm_ns (hm_ns (hm_ns (hm_ns (hm_ns (hm_ns (hm_ns (hm_ns s N) (N + 2)) (N + 4)) (N + 6)) (N + 8)) (N + 10)) (N + 12)) (N + 14))) (b.1 - 1 - 1 - 1 - 1 - 1 - 1 - 1 - 1 - 1 - 1 - 1 - 1 - 1 - 1 - 1 - 1, b.2 - 1 - 2048 - 1 - 2048 - 1 - 2048 - 1 - 2048 - 1 - 80 - 1 - 80 - 1 - 80 - 1 - 80) Q
  exact H
set_option maxRecDepth 20000 in
theorem cr_123 {R : hm_R} (hR : hm_Cm R) {N me : Nat} {sh : Nat → hm_Sh} {s : hm_St} {b : hm_B} {Q : hm_Q} (hk : (sh me).1 = 5) (h2 : 2 ≤ me) (hm : me < N) (hb1 : 2 ≤ b.1) (hb2 : 81 ≤ b.2) (H : R 123 17 [(0, .ref me)] [] (N + 2, (hm_nr sh N 80 me 0), (hm_ns s N)) (b.1 - 1 - 1, b.2 - 1 - 80) Q) : R 123 0 (lv_args 0 [.ref me]) [] (N, sh, s) b Q := by
  show R 123 0 [(0, .ref me)] [] (N, sh, s) b Q
  refine hm_st hR (hm_st hR ⟨hm_le rfl, ?_⟩)
  show R 123 4 [(0, .ref me)] [] (N, sh, s) (b.1, b.2) Q
  refine hm_st hR ?_
  show R 123 5 [(0, .ref me)] [.ref me] (N, sh, s) (b.1, b.2) Q
  refine hm_fld (n := 80) hR (by rfl) (by rfl) (by rfl) (by rfl) (by rfl) (by decide) (by decide) (by decide) (by decide) hk (by rfl) h2 hm (by show 2 ≤ b.1; omega) (by show 80 + 1 ≤ b.2; omega) ?_
  show R 123 17 [(0, .ref me)] [] (N + 2, (hm_nr sh N 80 me 0), (hm_ns s N)) (b.1 - 1 - 1, b.2 - 1 - 80) Q
  exact H
set_option maxRecDepth 20000 in
theorem cr_131 {R : hm_R} (hR : hm_Cm R) {N me : Nat} {sh : Nat → hm_Sh} {s : hm_St} {b : hm_B} {Q : hm_Q} {p1 : Int32} {p2 : Int32} (hk : (sh me).1 = 6) (h2 : 2 ≤ me) (hm : me < N) (hb1 : 4 ≤ b.1) (hb2 : 2051 ≤ b.2) (H : R 131 32 [(0, .ref me), (1, .int p1), (2, .int p2)] [] (N + 4, (hm_nr (hm_nr sh N 1024 me 0) (N + 2) 1025 me 1), (hm_ns (hm_ns s N) (N + 2))) (b.1 - 1 - 1 - 1 - 1, b.2 - 1 - 1024 - 1 - 1025) Q) : R 131 0 (lv_args 0 [.ref me, .int p1, .int p2]) [] (N, sh, s) b Q := by
  show R 131 0 [(0, .ref me), (1, .int p1), (2, .int p2)] [] (N, sh, s) b Q
  refine hm_st hR (hm_st hR ⟨hm_le rfl, ?_⟩)
  show R 131 4 [(0, .ref me), (1, .int p1), (2, .int p2)] [] (N, sh, s) (b.1, b.2) Q
  refine hm_st hR ?_
  show R 131 5 [(0, .ref me), (1, .int p1), (2, .int p2)] [.ref me] (N, sh, s) (b.1, b.2) Q
  refine hm_fld (n := 1024) hR (by rfl) (by rfl) (by rfl) (by rfl) (by rfl) (by decide) (by decide) (by decide) (by decide) hk (by rfl) h2 hm (by show 2 ≤ b.1; omega) (by show 1024 + 1 ≤ b.2; omega) ?_
  show R 131 18 [(0, .ref me), (1, .int p1), (2, .int p2)] [] (N + 2, (hm_nr sh N 1024 me 0), (hm_ns s N)) (b.1 - 1 - 1, b.2 - 1 - 1024) Q
  refine hm_st hR ?_
  show R 131 19 [(0, .ref me), (1, .int p1), (2, .int p2)] [.ref me] (N + 2, (hm_nr sh N 1024 me 0), (hm_ns s N)) (b.1 - 1 - 1, b.2 - 1 - 1024) Q
  refine hm_fld (n := 1025) hR (by rfl) (by rfl) (by rfl) (by rfl) (by rfl) (by decide) (by decide) (by decide) (by decide) ((hm_nrk hm).trans hk) (by rfl) h2 (Nat.lt_succ_of_lt (Nat.lt_succ_of_lt hm)) (by show 2 ≤ b.1 - 1 - 1; omega) (by show 1025 + 1 ≤ b.2 - 1 - 1024; omega) ?_
  show R 131 32 [(0, .ref me), (1, .int p1), (2, .int p2)] [] (N + 4, (hm_nr (hm_nr sh N 1024 me 0) (N + 2) 1025 me 1), (hm_ns (hm_ns s N) (N + 2))) (b.1 - 1 - 1 - 1 - 1, b.2 - 1 - 1024 - 1 - 1025) Q
  exact H
set_option maxRecDepth 20000 in
theorem cr_155 {R : hm_R} (hR : hm_Cm R) {N me : Nat} {sh : Nat → hm_Sh} {s : hm_St} {b : hm_B} {Q : hm_Q} (hk : (sh me).1 = 7) (h2 : 2 ≤ me) (hm : me < N) (hb1 : 10 ≤ b.1) (hb2 : 405 ≤ b.2) (H : R 155 69 [(0, .ref me)] [] (N + 10, (hm_nr (hm_nr (hm_nr (hm_nr (hm_nr sh N 80 me 0) (N + 2) 80 me 1) (N + 4) 80 me 2) (N + 6) 80 me 3) (N + 8) 80 me 4), (hm_ns (hm_ns (hm_ns (hm_ns (hm_ns s N) (N + 2)) (N + 4)) (N + 6)) (N + 8))) (b.1 - 1 - 1 - 1 - 1 - 1 - 1 - 1 - 1 - 1 - 1, b.2 - 1 - 80 - 1 - 80 - 1 - 80 - 1 - 80 - 1 - 80) Q) : R 155 0 (lv_args 0 [.ref me]) [] (N, sh, s) b Q := by
  show R 155 0 [(0, .ref me)] [] (N, sh, s) b Q
  refine hm_st hR (hm_st hR ⟨hm_le rfl, ?_⟩)
  show R 155 4 [(0, .ref me)] [] (N, sh, s) (b.1, b.2) Q
  refine hm_st hR ?_
  show R 155 5 [(0, .ref me)] [.ref me] (N, sh, s) (b.1, b.2) Q
  refine hm_fld (n := 80) hR (by rfl) (by rfl) (by rfl) (by rfl) (by rfl) (by decide) (by decide) (by decide) (by decide) hk (by rfl) h2 hm (by show 2 ≤ b.1; omega) (by show 80 + 1 ≤ b.2; omega) ?_
  show R 155 17 [(0, .ref me)] [] (N + 2, (hm_nr sh N 80 me 0), (hm_ns s N)) (b.1 - 1 - 1, b.2 - 1 - 80) Q
  refine hm_st hR ?_
  show R 155 18 [(0, .ref me)] [.ref me] (N + 2, (hm_nr sh N 80 me 0), (hm_ns s N)) (b.1 - 1 - 1, b.2 - 1 - 80) Q
  refine hm_fld (n := 80) hR (by rfl) (by rfl) (by rfl) (by rfl) (by rfl) (by decide) (by decide) (by decide) (by decide) ((hm_nrk hm).trans hk) (by rfl) h2 (Nat.lt_succ_of_lt (Nat.lt_succ_of_lt hm)) (by show 2 ≤ b.1 - 1 - 1; omega) (by show 80 + 1 ≤ b.2 - 1 - 80; omega) ?_
  show R 155 30 [(0, .ref me)] [] (N + 4, (hm_nr (hm_nr sh N 80 me 0) (N + 2) 80 me 1), (hm_ns (hm_ns s N) (N + 2))) (b.1 - 1 - 1 - 1 - 1, b.2 - 1 - 80 - 1 - 80) Q
  refine hm_st hR ?_
  show R 155 31 [(0, .ref me)] [.ref me] (N + 4, (hm_nr (hm_nr sh N 80 me 0) (N + 2) 80 me 1), (hm_ns (hm_ns s N) (N + 2))) (b.1 - 1 - 1 - 1 - 1, b.2 - 1 - 80 - 1 - 80) Q
  refine hm_fld (n := 80) hR (by rfl) (by rfl) (by rfl) (by rfl) (by rfl) (by decide) (by decide) (by decide) (by decide) ((hm_nrk (Nat.lt_succ_of_lt (Nat.lt_succ_of_lt hm))).trans ((hm_nrk hm).trans hk)) (by rfl) h2 (Nat.lt_succ_of_lt (Nat.lt_succ_of_lt (Nat.lt_succ_of_lt (Nat.lt_succ_of_lt hm)))) (by show 2 ≤ b.1 - 1 - 1 - 1 - 1; omega) (by show 80 + 1 ≤ b.2 - 1 - 80 - 1 - 80; omega) ?_
  show R 155 43 [(0, .ref me)] [] (N + 6, (hm_nr (hm_nr (hm_nr sh N 80 me 0) (N + 2) 80 me 1) (N + 4) 80 me 2), (hm_ns (hm_ns (hm_ns s N) (N + 2)) (N + 4))) (b.1 - 1 - 1 - 1 - 1 - 1 - 1, b.2 - 1 - 80 - 1 - 80 - 1 - 80) Q
  refine hm_st hR ?_
  show R 155 44 [(0, .ref me)] [.ref me] (N + 6, (hm_nr (hm_nr (hm_nr sh N 80 me 0) (N + 2) 80 me 1) (N + 4) 80 me 2), (hm_ns (hm_ns (hm_ns s N) (N + 2)) (N + 4))) (b.1 - 1 - 1 - 1 - 1 - 1 - 1, b.2 - 1 - 80 - 1 - 80 - 1 - 80) Q
  refine hm_fld (n := 80) hR (by rfl) (by rfl) (by rfl) (by rfl) (by rfl) (by decide) (by decide) (by decide) (by decide) ((hm_nrk (Nat.lt_succ_of_lt (Nat.lt_succ_of_lt (Nat.lt_succ_of_lt (Nat.lt_succ_of_lt hm))))).trans ((hm_nrk (Nat.lt_succ_of_lt (Nat.lt_succ_of_lt hm))).trans ((hm_nrk hm).trans hk))) (by rfl) h2 (Nat.lt_succ_of_lt (Nat.lt_succ_of_lt (Nat.lt_succ_of_lt (Nat.lt_succ_of_lt (Nat.lt_succ_of_lt (Nat.lt_succ_of_lt hm)))))) (by show 2 ≤ b.1 - 1 - 1 - 1 - 1 - 1 - 1; omega) (by show 80 + 1 ≤ b.2 - 1 - 80 - 1 - 80 - 1 - 80; omega) ?_
  show R 155 56 [(0, .ref me)] [] (N + 8, (hm_nr (hm_nr (hm_nr (hm_nr sh N 80 me 0) (N + 2) 80 me 1) (N + 4) 80 me 2) (N + 6) 80 me 3), (hm_ns (hm_ns (hm_ns (hm_ns s N) (N + 2)) (N + 4)) (N + 6))) (b.1 - 1 - 1 - 1 - 1 - 1 - 1 - 1 - 1, b.2 - 1 - 80 - 1 - 80 - 1 - 80 - 1 - 80) Q
  refine hm_st hR ?_
  show R 155 57 [(0, .ref me)] [.ref me] (N + 8, (hm_nr (hm_nr (hm_nr (hm_nr sh N 80 me 0) (N + 2) 80 me 1) (N + 4) 80 me 2) (N + 6) 80 me 3), (hm_ns (hm_ns (hm_ns (hm_ns s N) (N + 2)) (N + 4)) (N + 6))) (b.1 - 1 - 1 - 1 - 1 - 1 - 1 - 1 - 1, b.2 - 1 - 80 - 1 - 80 - 1 - 80 - 1 - 80) Q
  refine hm_fld (n := 80) hR (by rfl) (by rfl) (by rfl) (by rfl) (by rfl) (by decide) (by decide) (by decide) (by decide) ((hm_nrk (Nat.lt_succ_of_lt (Nat.lt_succ_of_lt (Nat.lt_succ_of_lt (Nat.lt_succ_of_lt (Nat.lt_succ_of_lt (Nat.lt_succ_of_lt hm))))))).trans ((hm_nrk (Nat.lt_succ_of_lt (Nat.lt_succ_of_lt (Nat.lt_succ_of_lt (Nat.lt_succ_of_lt hm))))).trans ((hm_nrk (Nat.lt_succ_of_lt (Nat.lt_succ_of_lt hm))).trans ((hm_nrk hm).trans hk)))) (by rfl) h2 (Nat.lt_succ_of_lt (Nat.lt_succ_of_lt (Nat.lt_succ_of_lt (Nat.lt_succ_of_lt (Nat.lt_succ_of_lt (Nat.lt_succ_of_lt (Nat.lt_succ_of_lt (Nat.lt_succ_of_lt hm)))))))) (by show 2 ≤ b.1 - 1 - 1 - 1 - 1 - 1 - 1 - 1 - 1; omega) (by show 80 + 1 ≤ b.2 - 1 - 80 - 1 - 80 - 1 - 80 - 1 - 80; omega) ?_
  show R 155 69 [(0, .ref me)] [] (N + 10, (hm_nr (hm_nr (hm_nr (hm_nr (hm_nr sh N 80 me 0) (N + 2) 80 me 1) (N + 4) 80 me 2) (N + 6) 80 me 3) (N + 8) 80 me 4), (hm_ns (hm_ns (hm_ns (hm_ns (hm_ns s N) (N + 2)) (N + 4)) (N + 6)) (N + 8))) (b.1 - 1 - 1 - 1 - 1 - 1 - 1 - 1 - 1 - 1 - 1, b.2 - 1 - 80 - 1 - 80 - 1 - 80 - 1 - 80 - 1 - 80) Q
  exact H
set_option maxRecDepth 20000 in
theorem cr_184 {R : hm_R} (hR : hm_Cm R) {N me : Nat} {sh : Nat → hm_Sh} {s : hm_St} {b : hm_B} {Q : hm_Q} (hk : (sh me).1 = 9) (h2 : 2 ≤ me) (hm : me < N) (hb1 : 8 ≤ b.1) (hb2 : 84 ≤ b.2) (H : R 184 56 [(0, .ref me)] [] (N + 8, (hm_nr (hm_nr (hm_nr (hm_nr sh N 20 me 0) (N + 2) 20 me 1) (N + 4) 20 me 2) (N + 6) 20 me 3), (hm_ns (hm_ns (hm_ns (hm_ns s N) (N + 2)) (N + 4)) (N + 6))) (b.1 - 1 - 1 - 1 - 1 - 1 - 1 - 1 - 1, b.2 - 1 - 20 - 1 - 20 - 1 - 20 - 1 - 20) Q) : R 184 0 (lv_args 0 [.ref me]) [] (N, sh, s) b Q := by
  show R 184 0 [(0, .ref me)] [] (N, sh, s) b Q
  refine hm_st hR (hm_st hR ⟨hm_le rfl, ?_⟩)
  show R 184 4 [(0, .ref me)] [] (N, sh, s) (b.1, b.2) Q
  refine hm_st hR ?_
  show R 184 5 [(0, .ref me)] [.ref me] (N, sh, s) (b.1, b.2) Q
  refine hm_fld (n := 20) hR (by rfl) (by rfl) (by rfl) (by rfl) (by rfl) (by decide) (by decide) (by decide) (by decide) hk (by rfl) h2 hm (by show 2 ≤ b.1; omega) (by show 20 + 1 ≤ b.2; omega) ?_
  show R 184 17 [(0, .ref me)] [] (N + 2, (hm_nr sh N 20 me 0), (hm_ns s N)) (b.1 - 1 - 1, b.2 - 1 - 20) Q
  refine hm_st hR ?_
  show R 184 18 [(0, .ref me)] [.ref me] (N + 2, (hm_nr sh N 20 me 0), (hm_ns s N)) (b.1 - 1 - 1, b.2 - 1 - 20) Q
  refine hm_fld (n := 20) hR (by rfl) (by rfl) (by rfl) (by rfl) (by rfl) (by decide) (by decide) (by decide) (by decide) ((hm_nrk hm).trans hk) (by rfl) h2 (Nat.lt_succ_of_lt (Nat.lt_succ_of_lt hm)) (by show 2 ≤ b.1 - 1 - 1; omega) (by show 20 + 1 ≤ b.2 - 1 - 20; omega) ?_
  show R 184 30 [(0, .ref me)] [] (N + 4, (hm_nr (hm_nr sh N 20 me 0) (N + 2) 20 me 1), (hm_ns (hm_ns s N) (N + 2))) (b.1 - 1 - 1 - 1 - 1, b.2 - 1 - 20 - 1 - 20) Q
  refine hm_st hR ?_
  show R 184 31 [(0, .ref me)] [.ref me] (N + 4, (hm_nr (hm_nr sh N 20 me 0) (N + 2) 20 me 1), (hm_ns (hm_ns s N) (N + 2))) (b.1 - 1 - 1 - 1 - 1, b.2 - 1 - 20 - 1 - 20) Q
  refine hm_fld (n := 20) hR (by rfl) (by rfl) (by rfl) (by rfl) (by rfl) (by decide) (by decide) (by decide) (by decide) ((hm_nrk (Nat.lt_succ_of_lt (Nat.lt_succ_of_lt hm))).trans ((hm_nrk hm).trans hk)) (by rfl) h2 (Nat.lt_succ_of_lt (Nat.lt_succ_of_lt (Nat.lt_succ_of_lt (Nat.lt_succ_of_lt hm)))) (by show 2 ≤ b.1 - 1 - 1 - 1 - 1; omega) (by show 20 + 1 ≤ b.2 - 1 - 20 - 1 - 20; omega) ?_
  show R 184 43 [(0, .ref me)] [] (N + 6, (hm_nr (hm_nr (hm_nr sh N 20 me 0) (N + 2) 20 me 1) (N + 4) 20 me 2), (hm_ns (hm_ns (hm_ns s N) (N + 2)) (N + 4))) (b.1 - 1 - 1 - 1 - 1 - 1 - 1, b.2 - 1 - 20 - 1 - 20 - 1 - 20) Q
  refine hm_st hR ?_
  show R 184 44 [(0, .ref me)] [.ref me] (N + 6, (hm_nr (hm_nr (hm_nr sh N 20 me 0) (N + 2) 20 me 1) (N + 4) 20 me 2), (hm_ns (hm_ns (hm_ns s N) (N + 2)) (N + 4))) (b.1 - 1 - 1 - 1 - 1 - 1 - 1, b.2 - 1 - 20 - 1 - 20 - 1 - 20) Q
  refine hm_fld (n := 20) hR (by rfl) (by rfl) (by rfl) (by rfl) (by rfl) (by decide) (by decide) (by decide) (by decide) ((hm_nrk (Nat.lt_succ_of_lt (Nat.lt_succ_of_lt (Nat.lt_succ_of_lt (Nat.lt_succ_of_lt hm))))).trans ((hm_nrk (Nat.lt_succ_of_lt (Nat.lt_succ_of_lt hm))).trans ((hm_nrk hm).trans hk))) (by rfl) h2 (Nat.lt_succ_of_lt (Nat.lt_succ_of_lt (Nat.lt_succ_of_lt (Nat.lt_succ_of_lt (Nat.lt_succ_of_lt (Nat.lt_succ_of_lt hm)))))) (by show 2 ≤ b.1 - 1 - 1 - 1 - 1 - 1 - 1; omega) (by show 20 + 1 ≤ b.2 - 1 - 20 - 1 - 20 - 1 - 20; omega) ?_
  show R 184 56 [(0, .ref me)] [] (N + 8, (hm_nr (hm_nr (hm_nr (hm_nr sh N 20 me 0) (N + 2) 20 me 1) (N + 4) 20 me 2) (N + 6) 20 me 3), (hm_ns (hm_ns (hm_ns (hm_ns s N) (N + 2)) (N + 4)) (N + 6))) (b.1 - 1 - 1 - 1 - 1 - 1 - 1 - 1 - 1, b.2 - 1 - 20 - 1 - 20 - 1 - 20 - 1 - 20) Q
  exact H
