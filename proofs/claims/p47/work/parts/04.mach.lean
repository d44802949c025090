/-! An abstract machine over the printed code: cells by number (0: the row TABLES, 1: the script, 2 and on: what was made since the start), what each holds; a relation R is closed under it where R holds of a place whenever the step from there comes to where R holds. -/
abbrev hm_Sh : Type := Nat × Nat × (Nat → Option Nat)
abbrev hm_Hp : Type := Nat × (Nat → hm_Sh) × (Nat → Nat → Int32)
abbrev hm_Lv : Type := List (Nat × Value)
abbrev hm_Out : Type := String ⊕ Option Value
abbrev hm_Q : Type := hm_Out → hm_Hp → Prop
abbrev hm_B : Type := Nat × Nat
abbrev hm_R : Type := Nat → Nat → hm_Lv → List Value → hm_Hp → hm_B → hm_Q → Prop
def hm_get : hm_Lv → Nat → Option Value
  | [], _ => none
  | q :: r, i => if q.1 = i then some q.2 else hm_get r i
def hm_set1 (lv : hm_Lv) (i : Nat) (v : Value) : hm_Lv := (i, v) :: lv.filter (fun q => !(q.1 == i) && !(q.1 + 1 == i && q.2.category == 2))
def hm_set2 (lv : hm_Lv) (i : Nat) (v : Value) : hm_Lv := (i, v) :: lv.filter (fun q => !(q.1 == i) && (!(q.1 == i + 1) && !(q.1 + 1 == i && q.2.category == 2)))
def hm_cs (st : List Value) : Nat := (st.map fun v => v.category).sum
def hm_fv (sh : hm_Sh) (σ : Nat → Int32) (j : Nat) : Value := if hm_isR sh.1 j then va_rf (sh.2.2 j) else .int (σ j)
/-- a cell's field set -/
def hm_wi (h : hm_Hp) (a j : Nat) (x : Int32) : hm_Hp := (h.1, h.2.1, fun i => if i = a then (fun q => if q = j then x else h.2.2 i q) else h.2.2 i)
def hm_wr (h : hm_Hp) (a j : Nat) (r : Option Nat) : hm_Hp := (h.1, (fun i => if i = a then ((h.2.1 i).1, (h.2.1 i).2.1, fun q => if q = j then r else (h.2.1 i).2.2 q) else h.2.1 i), h.2.2)
/-- a cell more -/
def hm_mk (h : hm_Hp) (c n : Nat) : hm_Hp := (h.1 + 1, (fun i => if i = h.1 then (c, n, fun _ => none) else h.2.1 i), fun i => if i = h.1 then (fun _ => 0) else h.2.2 i)
/-- cells of which nothing is known -/
def hm_unk (h : hm_Hp) (N : Nat) : hm_Hp := (N, (fun i => if i < h.1 then h.2.1 i else (2000, 0, fun _ => none)), h.2.2)
def hm_xn (x : Nat) : String := match x with
  | 0 => "java/lang/IllegalArgumentException"
  | 1 => "java/lang/IllegalStateException"
  | _ => "java/lang/IndexOutOfBoundsException"
def hm_ldi (lv : hm_Lv) (i : Nat) (K : Int32 → Prop) : Prop := match hm_get lv i with
  | some (.int v) => K v
  | _ => False
def hm_ldl (lv : hm_Lv) (i : Nat) (K : Int64 → Prop) : Prop := match hm_get lv i with
  | some (.long v) => K v
  | _ => False
def hm_lda (lv : hm_Lv) (i : Nat) (K : Nat → Prop) : Prop := match hm_get lv i with
  | some (.ref v) => K v
  | _ => False
def hm_if (c : Jvm.ClassFile.Cond) (x y : Int32) (T F : Prop) : Prop := match c with
  | .eq => (x = y → T) ∧ (¬ x = y → F)
  | .ne => (¬ x = y → T) ∧ (x = y → F)
  | .lt => (x < y → T) ∧ (¬ x < y → F)
  | .ge => (y ≤ x → T) ∧ (¬ y ≤ x → F)
  | .gt => (y < x → T) ∧ (¬ y < x → F)
  | .le => (x ≤ y → T) ∧ (¬ x ≤ y → F)
def hm_tsw (d lo hi : Int) (offs : List Int) (x : Int32) : Int := if x.toInt < lo ∨ hi < x.toInt then d else offs.getD (x.toInt - lo).toNat d
def hm_bin (st : List Value) (K : Int32 → Int32 → List Value → Prop) : Prop := match st with
  | .int y :: .int x :: r => K x y r
  | _ => False
def hm_binl (st : List Value) (K : Int64 → Int64 → List Value → Prop) : Prop := match st with
  | .long y :: .long x :: r => K x y r
  | _ => False
def hm_un (st : List Value) (K : Int32 → List Value → Prop) : Prop := match st with
  | .int x :: r => K x r
  | _ => False
def hm_rfs (st : List Value) (K : Nat → List Value → Prop) : Prop := match st with
  | .ref x :: r => K x r
  | _ => False
def hm_ul (st : List Value) (K : Int64 → List Value → Prop) : Prop := match st with
  | .long x :: r => K x r
  | _ => False
def hm_tp (st : List Value) (K : Value → List Value → Prop) : Prop := match st with
  | v :: r => K v r
  | _ => False
def hm_pf (st : List Value) (K1 : Int32 → Nat → List Value → Prop) (K2 : Nat → Nat → List Value → Prop) : Prop := match st with
  | .int v :: .ref a :: r => K1 v a r
  | .ref v :: .ref a :: r => K2 v a r
  | _ => False
def hm_ia (st : List Value) (K : Int32 → Nat → List Value → Prop) : Prop := match st with
  | .int i :: .ref a :: r => K i a r
  | _ => False
def hm_is (st : List Value) (K : Int32 → Int32 → Nat → List Value → Prop) : Prop := match st with
  | .int v :: .int i :: .ref a :: r => K v i a r
  | _ => False
def hm_r1 (st : List Value) (K : Int32 → Prop) : Prop := match st with
  | [.int v] => K v
  | _ => False
def hm_rl (st : List Value) (K : Int64 → Prop) : Prop := match st with
  | [.long v] => K v
  | _ => False
def hm_ra (st : List Value) (K : Nat → Prop) : Prop := match st with
  | [.ref v] => K v
  | _ => False
def hm_r0 (st : List Value) (K : Prop) : Prop := match st with
  | [] => K
  | _ => False
def hm_K (R : hm_R) (k pc : Nat) (lv : hm_Lv) (rest : List Value) (b : hm_B) (Q : hm_Q) : hm_Q := fun o h' => match o with
  | .inr r => R k (pc + 3) lv (r.toList ++ rest) h' b Q
  | .inl E => if k = 195 then (26 ≤ pc ∧ pc < 214 ∧ ((E = "java/lang/IndexOutOfBoundsException" ∧ R k 219 (lv.filter (fun q => !(q.1 == 7) && !(q.1 + 1 == 7 && q.2.category == 2))) [] h' b Q) ∨ (E = "java/lang/IllegalStateException" ∧ R k 222 (lv.filter (fun q => !(q.1 == 7) && !(q.1 + 1 == 7 && q.2.category == 2))) [] h' b Q))) else Q (.inl E) h'
def hm_Cl0 (R : hm_R) (k pc n z : Nat) (args : List Value) (lv : hm_Lv) (rest : List Value) (h : hm_Hp) (b : hm_B) (Q : hm_Q) : Prop :=
  hm_cs rest ≤ 8 ∧ (lg_sl args).length ≤ z / 8192 ∧ ∃ c : hm_B, c.1 ≤ b.1 ∧ c.2 ≤ b.2 ∧ R n 0 (lv_args 0 args) [] h c (hm_K R k pc lv rest (b.1 - c.1, b.2 - c.2) Q)
def hm_CallV (R : hm_R) (k pc n z : Nat) (lv : hm_Lv) (st : List Value) (h : hm_Hp) (b : hm_B) (Q : hm_Q) : Prop :=
  z / 128 % 64 ≤ st.length ∧ match st.drop (z / 128 % 64) with
  | .ref a :: rest => (h.2.1 a).1 = z % 128 ∧ 2 ≤ a ∧ a < h.1 ∧ hm_Cl0 R k pc n z (.ref a :: (st.take (z / 128 % 64)).reverse) lv rest h b Q
  | _ => False
/-- .. a constructor, which throws nothing -/
def hm_KN (R : hm_R) (k pc : Nat) (lv : hm_Lv) (rest : List Value) (b : hm_B) (Q : hm_Q) : hm_Q := fun o h' => match o with
  | .inr r => R k (pc + 3) lv (r.toList ++ rest) h' b Q
  | .inl _ => False
def hm_CallI (R : hm_R) (k pc n z : Nat) (lv : hm_Lv) (st : List Value) (h : hm_Hp) (b : hm_B) (Q : hm_Q) : Prop :=
  z / 128 % 64 ≤ st.length ∧ match st.drop (z / 128 % 64) with
  | .ref a :: rest => 2 ≤ a ∧ hm_cs rest ≤ 8 ∧ (lg_sl (.ref a :: (st.take (z / 128 % 64)).reverse)).length ≤ z / 8192 ∧
      ∃ c : hm_B, c.1 ≤ b.1 ∧ c.2 ≤ b.2 ∧ R n 0 (lv_args 0 (.ref a :: (st.take (z / 128 % 64)).reverse)) [] h c (hm_KN R k pc lv rest (b.1 - c.1, b.2 - c.2) Q)
  | _ => False
def hm_CallS (R : hm_R) (k pc n z : Nat) (lv : hm_Lv) (st : List Value) (h : hm_Hp) (b : hm_B) (Q : hm_Q) : Prop :=
  z / 128 % 64 ≤ st.length ∧ hm_Cl0 R k pc n z (st.take (z / 128 % 64)).reverse lv (st.drop (z / 128 % 64)) h b Q
/-- one step -/
def hm_S (R : hm_R) (k pc : Nat) (i : Instr) (n x z : Nat) (lv : hm_Lv) (st : List Value) (h : hm_Hp) (b : hm_B) (Q : hm_Q) : Prop := match i with
  | .iconst v => R k (pc + n) lv (.int (Int32.ofInt v) :: st) h b Q
  | .lconst v => R k (pc + 1) lv (.long (Int64.ofNat v) :: st) h b Q
  | .ldc2_w v => R k (pc + 3) lv (.long (Int64.ofNat v) :: st) h b Q
  | .iload_n j => hm_ldi lv j fun v => R k (pc + 1) lv (.int v :: st) h b Q
  | .iload j => hm_ldi lv j fun v => R k (pc + 2) lv (.int v :: st) h b Q
  | .lload_n j => hm_ldl lv j fun v => R k (pc + 1) lv (.long v :: st) h b Q
  | .lload j => hm_ldl lv j fun v => R k (pc + 2) lv (.long v :: st) h b Q
  | .aload_n j => hm_lda lv j fun v => R k (pc + 1) lv (.ref v :: st) h b Q
  | .aload j => hm_lda lv j fun v => R k (pc + 2) lv (.ref v :: st) h b Q
  | .istore_n j => hm_un st fun v r => R k (pc + 1) (hm_set1 lv j (.int v)) r h b Q
  | .istore j => hm_un st fun v r => R k (pc + 2) (hm_set1 lv j (.int v)) r h b Q
  | .lstore_n j => hm_ul st fun v r => R k (pc + 1) (hm_set2 lv j (.long v)) r h b Q
  | .lstore j => hm_ul st fun v r => R k (pc + 2) (hm_set2 lv j (.long v)) r h b Q
  | .astore_n j => hm_rfs st fun v r => R k (pc + 1) (hm_set1 lv j (.ref v)) r h b Q
  | .astore j => hm_rfs st fun v r => R k (pc + 2) (hm_set1 lv j (.ref v)) r h b Q
  | .iinc j d => hm_ldi lv j fun v => R k (pc + 3) (hm_set1 lv j (.int (v + Int32.ofInt d))) st h b Q
  | .iadd => hm_bin st fun x y r => R k (pc + 1) lv (.int (x + y) :: r) h b Q
  | .isub => hm_bin st fun x y r => R k (pc + 1) lv (.int (x - y) :: r) h b Q
  | .imul => hm_bin st fun x y r => R k (pc + 1) lv (.int (x * y) :: r) h b Q
  | .idiv => hm_bin st fun x y r => ¬ y = 0 ∧ R k (pc + 1) lv (.int (x / y) :: r) h b Q
  | .irem => hm_bin st fun x y r => ¬ y = 0 ∧ R k (pc + 1) lv (.int (x - x / y * y) :: r) h b Q
  | .iand => hm_bin st fun x y r => R k (pc + 1) lv (.int (x &&& y) :: r) h b Q
  | .ior => hm_bin st fun x y r => R k (pc + 1) lv (.int (x ||| y) :: r) h b Q
  | .ishl => hm_bin st fun x y r => R k (pc + 1) lv (.int (x <<< (y &&& 31)) :: r) h b Q
  | .ishr => hm_bin st fun x y r => R k (pc + 1) lv (.int (x >>> (y &&& 31)) :: r) h b Q
  | .i2l => hm_un st fun x r => R k (pc + 1) lv (.long x.toInt64 :: r) h b Q
  | .ladd => hm_binl st fun x y r => R k (pc + 1) lv (.long (x + y) :: r) h b Q
  | .lmul => hm_binl st fun x y r => R k (pc + 1) lv (.long (x * y) :: r) h b Q
  | .lcmp => hm_binl st fun x y r => R k (pc + 1) lv (.int (lg_cmp x y) :: r) h b Q
  | .dup => hm_tp st fun v r => v.category = 1 ∧ R k (pc + 1) lv (v :: v :: r) h b Q
  | .pop => hm_tp st fun v r => v.category = 1 ∧ R k (pc + 1) lv r h b Q
  | .goto t => R k t.toNat lv st h b Q
  | .ifCond c t => hm_un st fun x r => hm_if c x 0 (R k t.toNat lv r h b Q) (R k (pc + 3) lv r h b Q)
  | .if_icmp c t => hm_bin st fun x y r => hm_if c x y (R k t.toNat lv r h b Q) (R k (pc + 3) lv r h b Q)
  | .tableswitch d lo hi offs => hm_un st fun x r => R k (hm_tsw d lo hi offs.toList x).toNat lv r h b Q
  | .lookupswitch d ps => hm_un st fun x r => R k (Op.lookupswitch.offset ps.toList d x.toInt).toNat lv r h b Q
  | .getfield f => hm_rfs st fun a r => (h.2.1 a).1 = f / 64 ∧ 2 ≤ a ∧ a < h.1 ∧ R k (pc + 3) lv (hm_fv (h.2.1 a) (h.2.2 a) (f % 64) :: r) h b Q
  | .putfield f => hm_pf st (fun v a r => (h.2.1 a).1 = f / 64 ∧ hm_isR (f / 64) (f % 64) = false ∧ 2 ≤ a ∧ a < h.1 ∧ R k (pc + 3) lv r (hm_wi h a (f % 64) v) b Q)
      (fun v a r => (h.2.1 a).1 = f / 64 ∧ hm_isR (f / 64) (f % 64) = true ∧ 2 ≤ a ∧ a < h.1 ∧ R k (pc + 3) lv r (hm_wr h a (f % 64) (some v)) b Q)
  | .getstatic _ => R k (pc + 3) lv (.ref 0 :: st) h b Q
  | .new c => 1 ≤ b.1 ∧ hm_nf c ≤ b.2 ∧ R k (pc + 3) lv (.ref h.1 :: st) (hm_mk h c 0) (b.1 - 1, b.2 - hm_nf c) Q
  | .newarray _ => hm_un st fun v r => ¬ v < 0 ∧ v.toNatClampNeg ≤ 100000 ∧ 1 ≤ b.1 ∧ v.toNatClampNeg ≤ b.2 ∧ R k (pc + 2) lv (.ref h.1 :: r) (hm_mk h 1000 v.toNatClampNeg) (b.1 - 1, b.2 - v.toNatClampNeg) Q
  | .arraylength => hm_rfs st fun a r => (h.2.1 a).1 = 1000 ∧ a < h.1 ∧ R k (pc + 1) lv (.int (Int32.ofNat (h.2.1 a).2.1) :: r) h b Q
  | .iaload => hm_ia st fun i a r => (h.2.1 a).1 = 1000 ∧ a < h.1 ∧ vp_in i (h.2.1 a).2.1 ∧ R k (pc + 1) lv (.int (h.2.2 a i.toNatClampNeg) :: r) h b Q
  | .iastore => hm_is st fun v i a r => (h.2.1 a).1 = 1000 ∧ 2 ≤ a ∧ a < h.1 ∧ vp_in i (h.2.1 a).2.1 ∧ R k (pc + 1) lv r (hm_wi h a i.toNatClampNeg v) b Q
  | .invokevirtual m => hm_CallV R k pc m z lv st h b Q
  | .invokespecial m => if m = 1000 then hm_rfs st fun _ r => hm_cs r ≤ 8 ∧ R k (pc + 3) lv r h b Q else hm_CallI R k pc m z lv st h b Q
  | .invokestatic m =>
    if m = 1001 then hm_bin st fun x y r => hm_cs r ≤ 8 ∧ R k (pc + 3) lv (.int (if x < y then y else x) :: r) h b Q
    else if m = 1002 then hm_bin st fun x y r => hm_cs r ≤ 8 ∧ R k (pc + 3) lv (.int (if y < x then y else x) :: r) h b Q
    else if m = 1003 then hm_un st fun x r => hm_cs r ≤ 8 ∧ R k (pc + 3) lv (.int (if 0 ≤ x then x else 0 - x) :: r) h b Q
    else hm_CallS R k pc m z lv st h b Q
  | .ireturn => hm_r1 st fun v => (x = 1 → v = 0 ∨ v = 1) ∧ Q (.inr (some (.int v))) h
  | .lreturn => hm_rl st fun v => Q (.inr (some (.long v))) h
  | .areturn => hm_ra st fun v => Q (.inr (some (.ref v))) h
  | .return_ => hm_r0 st (Q (.inr none) h)
  | .athrow => hm_r0 st (1 ≤ b.1 ∧ 6 ≤ b.2 ∧ ∀ N : Nat, h.1 ≤ N → Q (.inl (hm_xn x)) (hm_unk h N))
  | _ => False
def hm_Step (R : hm_R) (k pc : Nat) (lv : hm_Lv) (st : List Value) (h : hm_Hp) (b : hm_B) (Q : hm_Q) : Prop := match hm_ins k pc with
  | some (i, n, x, _, z) => hm_S R k pc i n x z lv st h b Q
  | none => False
/-- closed under steps, and under weaker ends -/
def hm_Cl (R : hm_R) : Prop := (∀ k pc lv st h b Q, hm_Step R k pc lv st h b Q → R k pc lv st h b Q) ∧ ∀ k pc lv st h b (Q Q' : hm_Q), (∀ o h', Q o h' → Q' o h') → R k pc lv st h b Q → R k pc lv st h b Q'
