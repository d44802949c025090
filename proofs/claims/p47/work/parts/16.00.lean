/-! What a pure method reads. -/
theorem hm_59 {s t : hm_St} (h : ∀ c, Nat.blt c 68 = true → t c = s c) : ∀ c, Nat.blt c 59 = true → t c = s c := fun c hc => h c (Nat.blt_eq.mpr (Nat.lt_trans (Nat.blt_eq.mp hc) (by decide)))
theorem F_34 {s t : hm_St} {p1 : Int32} {p2 : Int32} {p3 : Int32} (h : ∀ c, Nat.blt c 59 = true → t c = s c) : T_34 t p1 p2 p3 = T_34 s p1 p2 p3 := by
  unfold T_34
  first | rfl | simp only [ite_true]
theorem F_35 {s t : hm_St} {p1 : Int32} (h : ∀ c, Nat.blt c 59 = true → t c = s c) : T_35 t p1 = T_35 s p1 := by
  unfold T_35
  simp only [F_34 h]
theorem F_86 {s t : hm_St}  (h : ∀ c, Nat.blt c 59 = true → t c = s c) : T_86 t = T_86 s := by
  unfold T_86
  simp only [h 3 rfl]
theorem F_37 {s t : hm_St} {p1 : Int32} {p2 : Int32} (h : ∀ c, Nat.blt c 59 = true → t c = s c) : T_37 t p1 p2 = T_37 s p1 p2 := by
  unfold T_37
  simp only [F_34 h, F_86 h]
theorem F_178 {s t : hm_St} {aa : Nat} {nn : Nat} {p1 : Int32} (h : t aa = s aa) : T_178 t aa nn p1 = T_178 s aa nn p1 := by
  unfold T_178
  simp only [h]
theorem F_88 {s t : hm_St} {p1 : Int32} {p2 : Int32} {p3 : Int32} (h : ∀ c, Nat.blt c 59 = true → t c = s c) : T_88 t p1 p2 p3 = T_88 s p1 p2 p3 := by
  unfold T_88
  simp only [h 3 rfl, F_178 (h 9 rfl)]
theorem F_87 {s t : hm_St}  (h : ∀ c, Nat.blt c 59 = true → t c = s c) : T_87 t = T_87 s := by
  unfold T_87
  simp only [h 3 rfl]
theorem F_36 {s t : hm_St} {p1 : Int32} (h : ∀ c, Nat.blt c 59 = true → t c = s c) : T_36 t p1 = T_36 s p1 := by
  unfold T_36
  simp only [F_34 h, F_87 h]
theorem F_90 {s t : hm_St} {p1 : Int32} {p2 : Int32} (h : ∀ c, Nat.blt c 59 = true → t c = s c) : T_90 t p1 p2 = T_90 s p1 p2 := by
  unfold T_90
  simp only [h 3 rfl, F_178 (h 11 rfl)]
theorem F_89 {s t : hm_St} {p1 : Int32} {p2 : Int32} (h : ∀ c, Nat.blt c 59 = true → t c = s c) : T_89 t p1 p2 = T_89 s p1 p2 := by
  unfold T_89
  simp only [h 3 rfl, F_178 (h 11 rfl)]
theorem F_38 {s t : hm_St} {p1 : Int32} {p2 : Int32} {p3 : Int32} {p4 : Int32} (h : ∀ c, Nat.blt c 59 = true → t c = s c) : T_38 t p1 p2 p3 p4 = T_38 s p1 p2 p3 p4 := by
  unfold T_38
  simp only [F_34 h, F_37 h, F_86 h]
theorem F_66 {s t : hm_St} {bx cx : Nat} {p1 : Int32} {p2 : Int32} (h : ∀ c, Nat.blt c 59 = true → t c = s c) (hb : ∀ j, t cx j = s bx j) : T_66 t cx p1 p2 = T_66 s bx p1 p2 := by
  unfold T_66
  first | rfl | simp only [hb]
theorem F_101 {s t : hm_St}  (h : ∀ c, Nat.blt c 68 = true → t c = s c) : T_101 t = T_101 s := by
  unfold T_101
  simp only [h 59 rfl]
theorem F_96_17 {s t : hm_St} (h : ∀ c, Nat.blt c 59 = true → t c = s c) : ∀ (n : Nat) (v0 : Int32) (v1 : Int32) (v2 : Int32) (v3 : Int32) (v4 : Int32) (v5 : Int32) (v6 : Int32), T_96_17  n t v0 v1 v2 v3 v4 v5 v6 = T_96_17  n s v0 v1 v2 v3 v4 v5 v6 := by
  intro n
  induction n with
  | zero => intros; rfl
  | succ n ih =>
    intros
    unfold T_96_17
    simp only [ih, h 3 rfl, F_178 (h 7 rfl), F_178 (h 5 rfl)]
theorem F_96 {s t : hm_St} {p1 : Int32} {p2 : Int32} {p3 : Int32} (h : ∀ c, Nat.blt c 59 = true → t c = s c) : T_96 t p1 p2 p3 = T_96 s p1 p2 p3 := by
  unfold T_96
  simp only [h 3 rfl, F_178 (h 7 rfl), F_178 (h 5 rfl), F_96_17 h]
theorem F_95 {s t : hm_St} {p1 : Int32} {p2 : Int32} {p3 : Int32} (h : ∀ c, Nat.blt c 59 = true → t c = s c) : T_95 t p1 p2 p3 = T_95 s p1 p2 p3 := by
  unfold T_95
  simp only [h 3 rfl, F_96 h]
theorem F_98 {s t : hm_St} {p1 : Int32} {p2 : Int32} {p3 : Int32} (h : ∀ c, Nat.blt c 59 = true → t c = s c) : T_98 t p1 p2 p3 = T_98 s p1 p2 p3 := by
  unfold T_98
  simp only [F_89 h, F_90 h]
theorem F_97_4 {s t : hm_St} (h : ∀ c, Nat.blt c 59 = true → t c = s c) : ∀ (n : Nat) (v0 : Int32) (v1 : Int32) (v2 : Int32), T_97_4  n t v0 v1 v2 = T_97_4  n s v0 v1 v2 := by
  intro n
  induction n with
  | zero => intros; rfl
  | succ n ih =>
    intros
    unfold T_97_4
    simp only [ih, F_87 h, F_98 h]
theorem F_97 {s t : hm_St} {p1 : Int32} (h : ∀ c, Nat.blt c 59 = true → t c = s c) : T_97 t p1 = T_97 s p1 := by
  unfold T_97
  simp only [F_87 h, F_98 h, F_97_4 h]
theorem F_39 {s t : hm_St} {p1 : Int32} {p2 : Int32} (h : ∀ c, Nat.blt c 59 = true → t c = s c) : T_39 t p1 p2 = T_39 s p1 p2 := by
  unfold T_39
  simp only [h 2 rfl, F_88 h]
theorem F_140 {s t : hm_St} {p1 : Int32} (h : ∀ c, Nat.blt c 59 = true → t c = s c) : T_140 t p1 = T_140 s p1 := by
  unfold T_140
  simp only [F_178 (h 44 rfl)]
theorem F_41 {s t : hm_St} {p1 : Int32} {p2 : Int32} (h : ∀ c, Nat.blt c 59 = true → t c = s c) : T_41 t p1 p2 = T_41 s p1 p2 := by
  unfold T_41
  simp only [F_39 h, F_140 h]
theorem F_157 {s t : hm_St}  (h : ∀ c, Nat.blt c 59 = true → t c = s c) : T_157 t = T_157 s := by
  unfold T_157
  simp only [h 14 rfl]
theorem F_139_4 {s t : hm_St} (h : ∀ c, Nat.blt c 59 = true → t c = s c) : ∀ (n : Nat) (v0 : Int32) (v1 : Int32) (v2 : Int32), T_139_4  n t v0 v1 v2 = T_139_4  n s v0 v1 v2 := by
  intro n
  induction n with
  | zero => intros; rfl
  | succ n ih =>
    intros
    unfold T_139_4
    simp only [ih, h 42 rfl, F_178 (h 46 rfl)]
theorem F_139 {s t : hm_St} {p1 : Int32} (h : ∀ c, Nat.blt c 59 = true → t c = s c) : T_139 t p1 = T_139 s p1 := by
  unfold T_139
  simp only [h 42 rfl, F_178 (h 46 rfl), F_139_4 h]
theorem F_141_23 {s t : hm_St} (h : ∀ c, Nat.blt c 59 = true → t c = s c) : ∀ (n : Nat) (v0 : Int32) (v1 : Int32) (v2 : Int32) (v3 : Int32), T_141_23  n t v0 v1 v2 v3 = T_141_23  n s v0 v1 v2 v3 := by
  intro n
  induction n with
  | zero => intros; rfl
  | succ n ih =>
    intros
    unfold T_141_23
    simp only [ih, F_178 (h 44 rfl), F_178 (h 46 rfl)]
theorem F_141 {s t : hm_St} {p1 : Int32} (h : ∀ c, Nat.blt c 59 = true → t c = s c) : T_141 t p1 = T_141 s p1 := by
  unfold T_141
  simp only [F_178 (h 44 rfl), F_178 (h 46 rfl), F_141_23 h]
theorem F_145_24 {s t : hm_St} (h : ∀ c, Nat.blt c 59 = true → t c = s c) : ∀ (n : Nat) (v0 : Int32) (v1 : Int32) (v2 : Int32) (v3 : Int32) (v4 : Int32), T_145_24  n t v0 v1 v2 v3 v4 = T_145_24  n s v0 v1 v2 v3 v4 := by
  intro n
  induction n with
  | zero => intros; rfl
  | succ n ih =>
    intros
    unfold T_145_24
    simp only [ih, F_178 (h 44 rfl), F_178 (h 46 rfl)]
theorem F_145 {s t : hm_St} {p1 : Int32} {p2 : Int32} (h : ∀ c, Nat.blt c 59 = true → t c = s c) : T_145 t p1 p2 = T_145 s p1 p2 := by
  unfold T_145
  simp only [F_178 (h 44 rfl), F_178 (h 46 rfl), F_145_24 h]
theorem F_74 {s t : hm_St} {p1 : Int32} {p2 : Int32} {p3 : Int32} (h : ∀ c, Nat.blt c 59 = true → t c = s c) : T_74 t p1 p2 p3 = T_74 s p1 p2 p3 := by
  unfold T_74
  simp only [h 47 rfl]
theorem F_72 {s t : hm_St} {p1 : Int32} (h : ∀ c, Nat.blt c 59 = true → t c = s c) : T_72 t p1 = T_72 s p1 := by
  unfold T_72
  first | rfl | simp only [ite_true]
theorem F_73 {s t : hm_St} {p1 : Int32} {p2 : Int32} (h : ∀ c, Nat.blt c 59 = true → t c = s c) : T_73 t p1 p2 = T_73 s p1 p2 := by
  unfold T_73
  simp only [F_72 h]
theorem F_42 {s t : hm_St} {p1 : Int32} (h : ∀ c, Nat.blt c 59 = true → t c = s c) : T_42 t p1 = T_42 s p1 := by
  unfold T_42
  first | rfl | simp only [ite_true]
theorem F_159 {s t : hm_St} {p1 : Int32} (h : ∀ c, Nat.blt c 59 = true → t c = s c) : T_159 t p1 = T_159 s p1 := by
  unfold T_159
  simp only [h 14 rfl]
theorem F_160 {s t : hm_St} {p1 : Int32} (h : ∀ c, Nat.blt c 59 = true → t c = s c) : T_160 t p1 = T_160 s p1 := by
  unfold T_160
  simp only [F_159 h, F_178 (h 20 rfl)]
theorem F_161 {s t : hm_St} {p1 : Int32} (h : ∀ c, Nat.blt c 59 = true → t c = s c) : T_161 t p1 = T_161 s p1 := by
  unfold T_161
  simp only [F_178 (h 16 rfl)]
theorem F_162 {s t : hm_St} {p1 : Int32} (h : ∀ c, Nat.blt c 59 = true → t c = s c) : T_162 t p1 = T_162 s p1 := by
  unfold T_162
  simp only [F_178 (h 18 rfl)]
theorem F_113 {s t : hm_St}  (h : ∀ c, Nat.blt c 59 = true → t c = s c) : T_113 t = T_113 s := by
  unfold T_113
  simp only [h 25 rfl]
theorem F_40 {s t : hm_St} {p1 : Int32} (h : ∀ c, Nat.blt c 59 = true → t c = s c) : T_40 t p1 = T_40 s p1 := by
  unfold T_40
  simp only [F_39 h, F_161 h, F_162 h]
theorem F_114 {s t : hm_St} {p1 : Int32} (h : ∀ c, Nat.blt c 59 = true → t c = s c) : T_114 t p1 = T_114 s p1 := by
  unfold T_114
  simp only [F_178 (h 37 rfl)]
theorem F_115 {s t : hm_St} {p1 : Int32} (h : ∀ c, Nat.blt c 59 = true → t c = s c) : T_115 t p1 = T_115 s p1 := by
  unfold T_115
  simp only [F_178 (h 39 rfl)]
theorem F_116 {s t : hm_St} {p1 : Int32} (h : ∀ c, Nat.blt c 59 = true → t c = s c) : T_116 t p1 = T_116 s p1 := by
  unfold T_116
  simp only [F_178 (h 41 rfl)]
theorem F_163 {s t : hm_St} {p1 : Int32} (h : ∀ c, Nat.blt c 59 = true → t c = s c) : T_163 t p1 = T_163 s p1 := by
  unfold T_163
  simp only [F_178 (h 22 rfl)]
theorem F_164 {s t : hm_St} {p1 : Int32} (h : ∀ c, Nat.blt c 59 = true → t c = s c) : T_164 t p1 = T_164 s p1 := by
  unfold T_164
  simp only [F_178 (h 24 rfl)]
theorem F_53 {s t : hm_St} {p1 : Int32} {p2 : Int32} (h : ∀ c, Nat.blt c 59 = true → t c = s c) : T_53 t p1 p2 = T_53 s p1 p2 := by
  unfold T_53
  simp only [F_40 h, F_114 h, F_115 h, F_116 h, F_139 h, F_160 h, F_161 h, F_162 h, F_163 h, F_164 h]
