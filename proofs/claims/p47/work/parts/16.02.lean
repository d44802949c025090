/-! What a pure method reads. -/
theorem F_77_6 {s t : hm_St} (h : ∀ c, Nat.blt c 59 = true → t c = s c) : ∀ (n : Nat) (v0 : Int32) (v1 : Int32) (v2 : Int32) (v3 : Int32), T_77_6  n t v0 v1 v2 v3 = T_77_6  n s v0 v1 v2 v3 := by
  intro n
  induction n with
  | zero => intros; rfl
  | succ n ih =>
    intros
    unfold T_77_6
    simp only [ih, h 47 rfl, F_74 h, F_75 h]
theorem F_77 {s t : hm_St} {p1 : Int32} {p2 : Int32} {p3 : Int32} (h : ∀ c, Nat.blt c 59 = true → t c = s c) : T_77 t p1 p2 p3 = T_77 s p1 p2 p3 := by
  unfold T_77
  simp only [h 47 rfl, F_74 h, F_75 h, F_77_6 h]
theorem F_187_2 {s t : hm_St} (h : ∀ c, Nat.blt c 59 = true → t c = s c) : ∀ (n : Nat) (v0 : Int32) (v1 : Int32) (v2 : Int32), T_187_2  n t v0 v1 v2 = T_187_2  n s v0 v1 v2 := by
  intro n
  induction n with
  | zero => intros; rfl
  | succ n ih =>
    intros
    unfold T_187_2
    simp only [ih, h 50 rfl, F_178 (h 54 rfl), F_178 (h 52 rfl)]
theorem F_187 {s t : hm_St} {p1 : Int32} {p2 : Int32} (h : ∀ c, Nat.blt c 59 = true → t c = s c) : T_187 t p1 p2 = T_187 s p1 p2 := by
  unfold T_187
  simp only [h 50 rfl, F_178 (h 54 rfl), F_178 (h 52 rfl), F_187_2 h]
theorem F_188 {s t : hm_St} {p1 : Int32} {p2 : Int32} (h : ∀ c, Nat.blt c 59 = true → t c = s c) : T_188 t p1 p2 = T_188 s p1 p2 := by
  unfold T_188
  simp only [h 50 rfl, F_187 h]
theorem F_79 {s t : hm_St} {p1 : Int32} {p2 : Int32} (h : ∀ c, Nat.blt c 59 = true → t c = s c) : T_79 t p1 p2 = T_79 s p1 p2 := by
  unfold T_79
  first | rfl | simp only [ite_true]
theorem F_80 {s t : hm_St} {p1 : Int32} {p2 : Int32} (h : ∀ c, Nat.blt c 59 = true → t c = s c) : T_80 t p1 p2 = T_80 s p1 p2 := by
  unfold T_80
  simp only [F_79 h]
theorem F_78 {s t : hm_St} {p1 : Int32} {p2 : Int32} {p3 : Int32} (h : ∀ c, Nat.blt c 59 = true → t c = s c) : T_78 t p1 p2 p3 = T_78 s p1 p2 p3 := by
  unfold T_78
  simp only [h 47 rfl, F_75 h, F_80 h]
theorem F_67 {s t : hm_St} {bx cx : Nat} {p1 : Int32} {p2 : Int32} {p3 : Int32} (h : ∀ c, Nat.blt c 59 = true → t c = s c) (hb : ∀ j, t cx j = s bx j) : T_67 t cx p1 p2 p3 = T_67 s bx p1 p2 p3 := by
  unfold T_67
  first | rfl | simp only [hb]
theorem F_81_26 {s t : hm_St} {bx cx : Nat} {O O2 : hm_St → Int32 → Int32 → Int32 → Int32} (h : ∀ c, Nat.blt c 59 = true → t c = s c) (hb : ∀ j, t cx j = s bx j) (hOO : ∀ (o0 : Int32) (o1 : Int32) (o2 : Int32), O2 t o0 o1 o2 = O s o0 o1 o2) : ∀ (n : Nat) (v0 : Int32) (v1 : Int32) (v2 : Int32) (v3 : Int32) (v4 : Int32), T_81_26 O2 cx n t v0 v1 v2 v3 v4 = T_81_26 O bx n s v0 v1 v2 v3 v4 := by
  intro n
  induction n with
  | zero => intros; rfl
  | succ n ih =>
    intros
    unfold T_81_26
    simp only [ih, hOO, h 47 rfl, hb, F_67 h hb, F_72 h, F_78 h, F_79 h]
theorem F_81_5 {s t : hm_St} {bx cx : Nat} (h : ∀ c, Nat.blt c 59 = true → t c = s c) (hb : ∀ j, t cx j = s bx j) : ∀ (n : Nat) (v0 : Int32) (v1 : Int32) (v2 : Int32), T_81_5 cx n t v0 v1 v2 = T_81_5 bx n s v0 v1 v2 := by
  intro n
  induction n with
  | zero => intros; rfl
  | succ n ih =>
    intros
    unfold T_81_5
    simp only [ih, h 47 rfl, hb, F_67 h hb, F_72 h, F_78 h, F_79 h, F_81_26 h hb (fun o0 o1 o2 => ih o0 o1 o2)]
theorem F_81 {s t : hm_St} {bx cx : Nat} {p2 : Int32} (h : ∀ c, Nat.blt c 59 = true → t c = s c) (hb : ∀ j, t cx j = s bx j) : T_81 t cx p2 = T_81 s bx p2 := by
  unfold T_81
  simp only [h 47 rfl, hb, F_67 h hb, F_72 h, F_78 h, F_79 h, F_81_5 h hb]
theorem F_82_15 {s t : hm_St} {O O2 : hm_St → Int32 → Int32 → Int32 → Int32} (h : ∀ c, Nat.blt c 59 = true → t c = s c) (hOO : ∀ (o0 : Int32) (o1 : Int32) (o2 : Int32), O2 t o0 o1 o2 = O s o0 o1 o2) : ∀ (n : Nat) (v0 : Int32) (v1 : Int32) (v2 : Int32) (v3 : Int32), T_82_15 O2 n t v0 v1 v2 v3 = T_82_15 O n s v0 v1 v2 v3 := by
  intro n
  induction n with
  | zero => intros; rfl
  | succ n ih =>
    intros
    unfold T_82_15
    simp only [ih, hOO, h 47 rfl, F_72 h, F_78 h]
theorem F_82_4 {s t : hm_St} (h : ∀ c, Nat.blt c 59 = true → t c = s c) : ∀ (n : Nat) (v0 : Int32) (v1 : Int32) (v2 : Int32), T_82_4  n t v0 v1 v2 = T_82_4  n s v0 v1 v2 := by
  intro n
  induction n with
  | zero => intros; rfl
  | succ n ih =>
    intros
    unfold T_82_4
    simp only [ih, h 47 rfl, F_72 h, F_78 h, F_82_15 h (fun o0 o1 o2 => ih o0 o1 o2)]
theorem F_82 {s t : hm_St} {p1 : Int32} (h : ∀ c, Nat.blt c 59 = true → t c = s c) : T_82 t p1 = T_82 s p1 := by
  unfold T_82
  simp only [h 47 rfl, F_72 h, F_78 h, F_82_4 h]
theorem F_83_15 {s t : hm_St} {O O2 : hm_St → Int32 → Int32 → Int32 → Int32} (h : ∀ c, Nat.blt c 59 = true → t c = s c) (hOO : ∀ (o0 : Int32) (o1 : Int32) (o2 : Int32), O2 t o0 o1 o2 = O s o0 o1 o2) : ∀ (n : Nat) (v0 : Int32) (v1 : Int32) (v2 : Int32) (v3 : Int32), T_83_15 O2 n t v0 v1 v2 v3 = T_83_15 O n s v0 v1 v2 v3 := by
  intro n
  induction n with
  | zero => intros; rfl
  | succ n ih =>
    intros
    unfold T_83_15
    simp only [ih, hOO, h 47 rfl, F_72 h, F_75 h, F_78 h]
theorem F_83_4 {s t : hm_St} (h : ∀ c, Nat.blt c 59 = true → t c = s c) : ∀ (n : Nat) (v0 : Int32) (v1 : Int32) (v2 : Int32), T_83_4  n t v0 v1 v2 = T_83_4  n s v0 v1 v2 := by
  intro n
  induction n with
  | zero => intros; rfl
  | succ n ih =>
    intros
    unfold T_83_4
    simp only [ih, h 47 rfl, F_72 h, F_75 h, F_78 h, F_83_15 h (fun o0 o1 o2 => ih o0 o1 o2)]
theorem F_83 {s t : hm_St} {p1 : Int32} (h : ∀ c, Nat.blt c 59 = true → t c = s c) : T_83 t p1 = T_83 s p1 := by
  unfold T_83
  simp only [h 47 rfl, F_72 h, F_75 h, F_78 h, F_83_4 h]
theorem F_154_15 {s t : hm_St} (h : ∀ c, Nat.blt c 59 = true → t c = s c) : ∀ (n : Nat) (v0 : Int32), T_154_15  n t v0 = T_154_15  n s v0 := by
  intro n
  induction n with
  | zero => intros; rfl
  | succ n ih =>
    intros
    unfold T_154_15
    simp only [ih, h 42 rfl, F_141 h, F_178 (h 46 rfl)]
theorem F_154 {s t : hm_St}  (h : ∀ c, Nat.blt c 59 = true → t c = s c) : T_154 t = T_154 s := by
  unfold T_154
  simp only [h 42 rfl, F_141 h, F_178 (h 46 rfl), F_154_15 h]
theorem F_59_4 {s t : hm_St} (h : ∀ c, Nat.blt c 59 = true → t c = s c) : ∀ (n : Nat) (v0 : Int32) (v1 : Int32), T_59_4  n t v0 v1 = T_59_4  n s v0 v1 := by
  intro n
  induction n with
  | zero => intros; rfl
  | succ n ih =>
    intros
    unfold T_59_4
    simp only [ih, F_40 h, F_87 h, F_140 h, F_158 h, F_160 h]
theorem F_59 {s t : hm_St}  (h : ∀ c, Nat.blt c 59 = true → t c = s c) : T_59 t = T_59 s := by
  unfold T_59
  simp only [F_40 h, F_87 h, F_140 h, F_158 h, F_160 h, F_59_4 h]
theorem F_60 {s t : hm_St} {p1 : Int64} {p2 : Int64} (h : ∀ c, Nat.blt c 59 = true → t c = s c) : T_60 t p1 p2 = T_60 s p1 p2 := by
  unfold T_60
  first | rfl | simp only [ite_true]
theorem F_91 {s t : hm_St} {p1 : Int32} {p2 : Int32} (h : ∀ c, Nat.blt c 59 = true → t c = s c) : T_91 t p1 p2 = T_91 s p1 p2 := by
  unfold T_91
  simp only [F_178 (h 13 rfl)]
theorem F_61_60 {s t : hm_St} {O O2 : hm_St → Int64 → Int64 → Int32 → Int64} (h : ∀ c, Nat.blt c 59 = true → t c = s c) (hOO : ∀ (o0 : Int64) (o1 : Int64) (o2 : Int32), O2 t o0 o1 o2 = O s o0 o1 o2) : ∀ (n : Nat) (v0 : Int64) (v1 : Int64) (v2 : Int32) (v3 : Int32), T_61_60 O2 n t v0 v1 v2 v3 = T_61_60 O n s v0 v1 v2 v3 := by
  intro n
  induction n with
  | zero => intros; rfl
  | succ n ih =>
    intros
    unfold T_61_60
    simp only [ih, hOO, F_55 h, F_56 h, F_60 h, F_91 h]
theorem F_61_50 {s t : hm_St} (h : ∀ c, Nat.blt c 59 = true → t c = s c) : ∀ (n : Nat) (v0 : Int64) (v1 : Int64) (v2 : Int32), T_61_50  n t v0 v1 v2 = T_61_50  n s v0 v1 v2 := by
  intro n
  induction n with
  | zero => intros; rfl
  | succ n ih =>
    intros
    unfold T_61_50
    simp only [ih, F_55 h, F_56 h, F_60 h, F_91 h, F_61_60 h (fun o0 o1 o2 => ih o0 o1 o2)]
theorem F_61_5 {s t : hm_St} (h : ∀ c, Nat.blt c 59 = true → t c = s c) : ∀ (n : Nat) (v0 : Int64) (v1 : Int64) (v2 : Int32), T_61_5  n t v0 v1 v2 = T_61_5  n s v0 v1 v2 := by
  intro n
  induction n with
  | zero => intros; rfl
  | succ n ih =>
    intros
    unfold T_61_5
    simp only [ih, F_55 h, F_56 h, F_60 h, F_91 h, F_61_60 h (fun o0 o1 o2 => ih o0 o1 o2), F_61_50 h]
theorem F_61 {s t : hm_St} {p1 : Int64} (h : ∀ c, Nat.blt c 59 = true → t c = s c) : T_61 t p1 = T_61 s p1 := by
  unfold T_61
  simp only [F_55 h, F_56 h, F_60 h, F_91 h, F_61_50 h, F_61_5 h]
theorem F_62_20 {s t : hm_St} {O O2 : hm_St → Int64 → Int64 → Int32 → Int64} (h : ∀ c, Nat.blt c 59 = true → t c = s c) (hOO : ∀ (o0 : Int64) (o1 : Int64) (o2 : Int32), O2 t o0 o1 o2 = O s o0 o1 o2) : ∀ (n : Nat) (v0 : Int64) (v1 : Int64) (v2 : Int32) (v3 : Int32), T_62_20 O2 n t v0 v1 v2 v3 = T_62_20 O n s v0 v1 v2 v3 := by
  intro n
  induction n with
  | zero => intros; rfl
  | succ n ih =>
    intros
    unfold T_62_20
    simp only [ih, hOO, F_53 h, F_60 h, F_157 h]
theorem F_62_5 {s t : hm_St} (h : ∀ c, Nat.blt c 59 = true → t c = s c) : ∀ (n : Nat) (v0 : Int64) (v1 : Int64) (v2 : Int32), T_62_5  n t v0 v1 v2 = T_62_5  n s v0 v1 v2 := by
  intro n
  induction n with
  | zero => intros; rfl
  | succ n ih =>
    intros
    unfold T_62_5
    simp only [ih, F_53 h, F_60 h, F_157 h, F_62_20 h (fun o0 o1 o2 => ih o0 o1 o2)]
theorem F_62 {s t : hm_St} {p1 : Int64} (h : ∀ c, Nat.blt c 59 = true → t c = s c) : T_62 t p1 = T_62 s p1 := by
  unfold T_62
  simp only [F_53 h, F_60 h, F_157 h, F_62_5 h]
theorem F_138 {s t : hm_St} {p1 : Int32} (h : ∀ c, Nat.blt c 59 = true → t c = s c) : T_138 t p1 = T_138 s p1 := by
  unfold T_138
  simp only [F_178 (h 46 rfl)]
theorem F_143 {s t : hm_St} {p1 : Int32} (h : ∀ c, Nat.blt c 59 = true → t c = s c) : T_143 t p1 = T_143 s p1 := by
  unfold T_143
  simp only [F_145 h]
theorem F_144 {s t : hm_St} {p1 : Int32} (h : ∀ c, Nat.blt c 59 = true → t c = s c) : T_144 t p1 = T_144 s p1 := by
  unfold T_144
  simp only [F_141 h, F_145 h]
theorem F_54 {s t : hm_St} {p1 : Int32} {p2 : Int32} (h : ∀ c, Nat.blt c 59 = true → t c = s c) : T_54 t p1 p2 = T_54 s p1 p2 := by
  unfold T_54
  simp only [h 2 rfl, F_138 h, F_141 h, F_142 h, F_143 h, F_144 h, F_146 h]
theorem F_63_20 {s t : hm_St} {O O2 : hm_St → Int64 → Int64 → Int32 → Int64} (h : ∀ c, Nat.blt c 59 = true → t c = s c) (hOO : ∀ (o0 : Int64) (o1 : Int64) (o2 : Int32), O2 t o0 o1 o2 = O s o0 o1 o2) : ∀ (n : Nat) (v0 : Int64) (v1 : Int64) (v2 : Int32) (v3 : Int32), T_63_20 O2 n t v0 v1 v2 v3 = T_63_20 O n s v0 v1 v2 v3 := by
  intro n
  induction n with
  | zero => intros; rfl
  | succ n ih =>
    intros
    unfold T_63_20
    simp only [ih, hOO, F_54 h, F_60 h, F_133 h]
theorem F_63_5 {s t : hm_St} (h : ∀ c, Nat.blt c 59 = true → t c = s c) : ∀ (n : Nat) (v0 : Int64) (v1 : Int64) (v2 : Int32), T_63_5  n t v0 v1 v2 = T_63_5  n s v0 v1 v2 := by
  intro n
  induction n with
  | zero => intros; rfl
  | succ n ih =>
    intros
    unfold T_63_5
    simp only [ih, F_54 h, F_60 h, F_133 h, F_63_20 h (fun o0 o1 o2 => ih o0 o1 o2)]
theorem F_63 {s t : hm_St} {p1 : Int64} (h : ∀ c, Nat.blt c 59 = true → t c = s c) : T_63 t p1 = T_63 s p1 := by
  unfold T_63
  simp only [F_54 h, F_60 h, F_133 h, F_63_5 h]
theorem F_175 {s t : hm_St} {p1 : Int32} {p2 : Int32} (h : ∀ c, Nat.blt c 59 = true → t c = s c) : T_175 t p1 p2 = T_175 s p1 p2 := by
  unfold T_175
  simp only [F_160 h]
theorem F_176_15 {s t : hm_St} {O O2 : hm_St → Int32 → Int32 → Int32 → Int32} (h : ∀ c, Nat.blt c 59 = true → t c = s c) (hOO : ∀ (o0 : Int32) (o1 : Int32) (o2 : Int32), O2 t o0 o1 o2 = O s o0 o1 o2) : ∀ (n : Nat) (v0 : Int32) (v1 : Int32) (v2 : Int32) (v3 : Int32), T_176_15 O2 n t v0 v1 v2 v3 = T_176_15 O n s v0 v1 v2 v3 := by
  intro n
  induction n with
  | zero => intros; rfl
  | succ n ih =>
    intros
    unfold T_176_15
    simp only [ih, hOO, h 14 rfl, F_161 h, F_162 h, F_172 h, F_175 h]
theorem F_176_4 {s t : hm_St} (h : ∀ c, Nat.blt c 59 = true → t c = s c) : ∀ (n : Nat) (v0 : Int32) (v1 : Int32) (v2 : Int32), T_176_4  n t v0 v1 v2 = T_176_4  n s v0 v1 v2 := by
  intro n
  induction n with
  | zero => intros; rfl
  | succ n ih =>
    intros
    unfold T_176_4
    simp only [ih, h 14 rfl, F_161 h, F_162 h, F_172 h, F_175 h, F_176_15 h (fun o0 o1 o2 => ih o0 o1 o2)]
theorem F_176 {s t : hm_St} {p1 : Int32} (h : ∀ c, Nat.blt c 59 = true → t c = s c) : T_176 t p1 = T_176 s p1 := by
  unfold T_176
  simp only [h 14 rfl, F_161 h, F_162 h, F_172 h, F_175 h, F_176_4 h]
theorem F_127 {s t : hm_St}  (h : ∀ c, Nat.blt c 68 = true → t c = s c) : T_127 t = T_127 s := by
  unfold T_127
  simp only [h 64 rfl, F_130 h]
theorem F_64_17 {s t : hm_St} {O O2 : hm_St → Int64 → Int64 → Int32 → Int64} (h : ∀ c, Nat.blt c 59 = true → t c = s c) (hOO : ∀ (o0 : Int64) (o1 : Int64) (o2 : Int32), O2 t o0 o1 o2 = O s o0 o1 o2) : ∀ (n : Nat) (v0 : Int64) (v1 : Int64) (v2 : Int32) (v3 : Int32), T_64_17 O2 n t v0 v1 v2 v3 = T_64_17 O n s v0 v1 v2 v3 := by
  intro n
  induction n with
  | zero => intros; rfl
  | succ n ih =>
    intros
    unfold T_64_17
    simp only [ih, hOO, h 2 rfl, F_23 h, F_57 h, F_60 h]
theorem F_64_5 {s t : hm_St} (h : ∀ c, Nat.blt c 59 = true → t c = s c) : ∀ (n : Nat) (v0 : Int64) (v1 : Int64) (v2 : Int32), T_64_5  n t v0 v1 v2 = T_64_5  n s v0 v1 v2 := by
  intro n
  induction n with
  | zero => intros; rfl
  | succ n ih =>
    intros
    unfold T_64_5
    simp only [ih, h 2 rfl, F_23 h, F_57 h, F_60 h, F_64_17 h (fun o0 o1 o2 => ih o0 o1 o2)]
theorem F_64 {s t : hm_St} {p1 : Int64} (h : ∀ c, Nat.blt c 59 = true → t c = s c) : T_64 t p1 = T_64 s p1 := by
  unfold T_64
  simp only [h 2 rfl, F_23 h, F_57 h, F_60 h, F_64_5 h]
