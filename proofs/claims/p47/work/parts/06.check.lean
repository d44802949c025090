/-! The printed rows are the code's. -/
def hm_d0 : MethodName × ByteArray × Nat × Option FieldType := (⟨"", "", ""⟩, code, 0, none)
def hm_y (k : Nat) : MethodName := (hm_ms.getD k hm_d0).1
def hm_cc (k : Nat) : ByteArray := (hm_ms.getD k hm_d0).2.1
def hm_mL (k : Nat) : Nat := (hm_ms.getD k hm_d0).2.2.1
def hm_rt (k : Nat) : Option FieldType := (hm_ms.getD k hm_d0).2.2.2
def hm_own (k : Nat) : String := (hm_y k).cls
def hm_d1 : Bool × Nat × Nat × Nat × Nat × Nat × Nat × Nat × Nat := (false, 0, 0, 0, 0, 0, 0, 0, 99)
def hm_stat (k : Nat) : Bool := (hm_mi.getD k hm_d1).1
def hm_na (k : Nat) : Nat := (hm_mi.getD k hm_d1).2.1
def hm_fr (k : Nat) : Nat := (hm_mi.getD k hm_d1).2.2.1
def hm_lo (k : Nat) : Nat := (hm_mi.getD k hm_d1).2.2.2.1
def hm_pC (k : Nat) : Nat := (hm_mi.getD k hm_d1).2.2.2.2.1
def hm_pI (k : Nat) : Nat := (hm_mi.getD k hm_d1).2.2.2.2.2.1
def hm_pS (k : Nat) : Nat := (hm_mi.getD k hm_d1).2.2.2.2.2.2.1
def hm_pN (k : Nat) : Nat := (hm_mi.getD k hm_d1).2.2.2.2.2.2.2.1
def hm_cx (k : Nat) : Nat := (hm_mi.getD k hm_d1).2.2.2.2.2.2.2.2
def hm_hh (k : Nat) : List (Nat × Nat × Nat × Nat) := if k = 195 then [(26, 214, 217, 70), (26, 214, 220, 72)] else []
def hm_cw (k : Nat) : Jvm.Cond := if k = 195 then .codeWith (hm_y k) (hm_cc k) (hm_mL k) (hm_rt k) (hm_hh k) else .code (hm_y k) (hm_cc k) (hm_mL k) (hm_rt k)
def hm_d2 : vw_C := ("", hm_T0, 0)
def hm_cn (c : Nat) : String := (hm_cls.getD c hm_d2).1
def hm_T (c : Nat) : u_T := (hm_cls.getD c hm_d2).2.1
def hm_G : List Jvm.Cond := lw_tbl.filter goodWord
def hm_wl (k : Nat) : List Jvm.Cond := hm_cw k :: hm_G
def hm_vk : Jvm.Cond → Bool
  | .fieldLinkNest .. => true
  | .methodLinkNest .. => true
  | .castable .. => true
  | .declares .. => true
  | _ => false
def hm_dc (k pc : Nat) (i : Instr) (n : Nat) : Bool := decide (decode (hm_cc k) pc = .ok (i, n))
def hm_wd (y : Nat) (w : Jvm.Cond) : Bool := decide (lw_tbl[y]? = some w) && goodWord w
def hm_wv (y : Nat) (w : Jvm.Cond) : Bool := decide (lw_tbl[y]? = some w) && hm_vk w
/-- what a call needs of the callee m, from k -/
def hm_cm (k m z : Nat) : Bool :=
  decide (z = ((hm_mL m) * 64 + hm_na m) * 128 + hm_cx m) && decide (hm_na m < 64) && decide (hm_cx m < 128) && hm_wd (hm_pC m) (hm_cw m) && hm_wd (hm_pN m) (.initialized (hm_own m)) &&
  decide ((hm_own m ≠ "java/lang/invoke/MethodHandle" ∧ hm_own m ≠ "java/lang/invoke/VarHandle") ∧ (parseMethodDescriptor (hm_y m).desc).map (fun d => d.parameters.length) = some (hm_na m)) &&
  decide (hm_fr m + 1 ≤ hm_fr k ∧ 8 + (hm_mL m + 11) + hm_lo m ≤ hm_lo k) && plainName (hm_own m)
def hm_ck (k pc : Nat) (i : Instr) (n x y z : Nat) : Bool := match i with
  | .iconst v => (decide (n = 1) && hm_dc k pc (.iconst v) 1) || (decide (n = 2) && (hm_dc k pc (.bipush v) 2 && decide ((Int8.ofInt v).toInt32 = Int32.ofInt v))) || (decide (n = 3) && (hm_dc k pc (.sipush v) 3 && decide ((Int16.ofInt v).toInt32 = Int32.ofInt v))) || (decide (n = 2) && (hm_dc k pc (.ldc x) 2 && hm_wd y (.constant (hm_own k) x (Int32.ofInt v))))
  | .lconst v => hm_dc k pc (.lconst v) 1
  | .ldc2_w v => hm_dc k pc (.ldc2_w x) 3 && hm_wd y (.constantLong (hm_own k) x (Int64.ofNat v))
  | .iload_n j => hm_dc k pc (.iload_n j) 1
  | .iload j => hm_dc k pc (.iload j) 2
  | .lload_n j => hm_dc k pc (.lload_n j) 1
  | .lload j => hm_dc k pc (.lload j) 2
  | .aload_n j => hm_dc k pc (.aload_n j) 1
  | .aload j => hm_dc k pc (.aload j) 2
  | .istore_n j => hm_dc k pc (.istore_n j) 1 && decide ((j : Nat) < hm_mL k)
  | .istore j => hm_dc k pc (.istore j) 2 && decide (j < hm_mL k)
  | .lstore_n j => hm_dc k pc (.lstore_n j) 1 && decide ((j : Nat) + 1 < hm_mL k)
  | .lstore j => hm_dc k pc (.lstore j) 2 && decide (j + 1 < hm_mL k)
  | .astore_n j => hm_dc k pc (.astore_n j) 1 && decide ((j : Nat) < hm_mL k)
  | .astore j => hm_dc k pc (.astore j) 2 && decide (j < hm_mL k)
  | .iinc j d => hm_dc k pc (.iinc j d) 3 && decide (j < hm_mL k)
  | .goto t => decide (0 ≤ t) && hm_dc k pc (.goto (t - pc)) 3
  | .ifCond c t => decide (0 ≤ t) && hm_dc k pc (.ifCond c (t - pc)) 3
  | .if_icmp c t => decide (0 ≤ t) && hm_dc k pc (.if_icmp c (t - pc)) 3
  | .tableswitch d lo hi offs => decide (0 ≤ d) && (offs.toList.all fun o => decide (0 ≤ o)) && (match decode (hm_cc k) pc with
    | .ok (.tableswitch d' lo' hi' offs', _) => decide (d' + (pc : Int) = d ∧ lo' = lo ∧ hi' = hi ∧ offs'.toList.map (fun o : Int => o + (pc : Int)) = offs.toList ∧ (offs'.size : Int) = hi - lo + 1)
    | _ => false)
  | .lookupswitch d ps => decide (0 ≤ d) && (ps.toList.all fun o => decide (0 ≤ o.2)) && (match decode (hm_cc k) pc with
    | .ok (.lookupswitch d' ps', _) => decide (d' + (pc : Int) = d ∧ ps'.toList.map (fun o : Int × Int => (o.1, o.2 + (pc : Int))) = ps.toList) && (ps'.toList.zip (ps'.toList.drop 1)).all (fun (a, next) => a.1 < next.1)
    | _ => false)
  | .getfield f => hm_dc k pc (.getfield x) 3 && decide (f % 64 < hm_nf (f / 64) ∧ f / 64 < 11) && hm_wd y (.fieldLink (hm_own k) x (hm_T (f / 64) (f % 64)).1 (hm_T (f / 64) (f % 64)).2.1 (hm_T (f / 64) (f % 64)).2.2.1)
  | .putfield f => hm_dc k pc (.putfield x) 3 && decide (f % 64 < hm_nf (f / 64) ∧ f / 64 < 11) && hm_wd y (.fieldLink (hm_own k) x (hm_T (f / 64) (f % 64)).1 (hm_T (f / 64) (f % 64)).2.1 (hm_T (f / 64) (f % 64)).2.2.1) &&
      (decide ((hm_T (f / 64) (f % 64)).2.2.2 = false) || decide ((hm_T (f / 64) (f % 64)).2.2.2 = true ∧ (hm_y k).name = "<init>" ∧ (hm_T (f / 64) (f % 64)).1 = hm_own k))
  | .getstatic _ => hm_dc k pc (.getstatic x) 3 && hm_wv y (.fieldLinkNest (hm_own k) x "CurvekeyHouse" "TABLES" "[I" "CurvekeyHouse")
  | .new c => hm_dc k pc (.new x) 3 && decide (c < 11) && hm_wd y (.classLink (hm_own k) x (hm_cn c)) && hm_wd (hm_cp.getD c (0, 0)).1 (.instantiable (hm_cn c) (hm_nf c)) && hm_wd (hm_cp.getD c (0, 0)).2 (.initialized (hm_cn c))
  | .newarray t => decide (t = .int) && hm_dc k pc (.newarray .int) 2
  | .invokevirtual m => hm_dc k pc (.invokevirtual x) 3 && hm_cm k m z && decide (hm_cx m < 11 ∧ hm_own m = hm_cn (hm_cx m) ∧ m ≠ 195) && hm_wd y (.methodLink (hm_own k) x (hm_y m)) && hm_wd (hm_pI m) (.instanceMethod (hm_y m)) && hm_wd (hm_pS m) (.selects (hm_own m) (hm_y m) (hm_y m))
  | .invokespecial m => if m = 1000 then hm_dc k pc (.invokespecial x) 3 && hm_wd y (.methodLink (hm_own k) x Lib.objectInit) && decide (1 ≤ hm_fr k ∧ 20 ≤ hm_lo k)
      else hm_dc k pc (.invokespecial x) 3 && hm_cm k m z && decide (hm_cx m < 11 ∧ m ≠ 195 ∧ (hm_y m).name = "<init>" ∧ hm_rt m = none) && (if n = 7 then hm_wv y (.methodLinkNest (hm_own k) x (hm_y m) "CurvekeyHouse") else hm_wd y (.methodLink (hm_own k) x (hm_y m))) && hm_wd (hm_pI m) (.instanceMethod (hm_y m))
  | .invokestatic m =>
      if m = 1001 then hm_dc k pc (.invokestatic x) 3 && hm_wd y (.methodLink (hm_own k) x Lib.Math.max.name) && decide (1 ≤ hm_fr k ∧ 21 ≤ hm_lo k)
      else if m = 1002 then hm_dc k pc (.invokestatic x) 3 && hm_wd y (.methodLink (hm_own k) x Lib.Math.min.name) && decide (1 ≤ hm_fr k ∧ 21 ≤ hm_lo k)
      else if m = 1003 then hm_dc k pc (.invokestatic x) 3 && hm_wd y (.methodLink (hm_own k) x Lib.Math.abs.name) && decide (1 ≤ hm_fr k ∧ 21 ≤ hm_lo k)
      else hm_dc k pc (.invokestatic x) 3 && hm_cm k m z && hm_wd y (.methodLink (hm_own k) x (hm_y m)) && hm_wd (hm_pI m) (.static (hm_y m))
  | .ireturn => hm_dc k pc .ireturn 1 && ((decide (x = 1) && decide (hm_rt k = some .boolean)) || (decide (x = 0) && decide (hm_rt k = some .int)))
  | .lreturn => hm_dc k pc .lreturn 1 && decide (hm_rt k = some .long)
  | .areturn => hm_dc k pc .areturn 1 && (match hm_rt k with
    | some (.object _) => true
    | _ => false)
  | .return_ => hm_dc k pc .return_ 1 && decide (hm_rt k = none)
  | .athrow => decide (pc = 4) && (decide (k = 31 ∧ x = 0) || decide (k = 32 ∧ x = 1) || decide (k = 33 ∧ x = 2))
  | i => hm_dc k pc i 1
def hm_ckr (k pc : Nat) : Bool := match hm_ins k pc with
  | some (i, n, x, y, z) => hm_ck k pc i n x y z
  | none => true
