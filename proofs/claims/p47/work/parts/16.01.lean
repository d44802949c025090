/-! What a pure method reads. -/
theorem F_85 {s t : hm_St}  (h : ∀ c, Nat.blt c 59 = true → t c = s c) : T_85 t = T_85 s := by
  unfold T_85
  simp only [h 3 rfl]
theorem F_134 {s t : hm_St}  (h : ∀ c, Nat.blt c 59 = true → t c = s c) : T_134 t = T_134 s := by
  unfold T_134
  simp only [h 42 rfl]
theorem F_158 {s t : hm_St}  (h : ∀ c, Nat.blt c 59 = true → t c = s c) : T_158 t = T_158 s := by
  unfold T_158
  simp only [h 14 rfl]
theorem F_133 {s t : hm_St}  (h : ∀ c, Nat.blt c 59 = true → t c = s c) : T_133 t = T_133 s := by
  unfold T_133
  simp only [h 42 rfl]
theorem F_135 {s t : hm_St}  (h : ∀ c, Nat.blt c 59 = true → t c = s c) : T_135 t = T_135 s := by
  unfold T_135
  simp only [h 42 rfl]
theorem F_55 {s t : hm_St} {p1 : Int32} (h : ∀ c, Nat.blt c 59 = true → t c = s c) : T_55 t p1 = T_55 s p1 := by
  unfold T_55
  simp only [h 2 rfl, F_85 h, F_113 h, F_133 h, F_134 h, F_135 h, F_157 h, F_158 h]
theorem F_112 {s t : hm_St}  (h : ∀ c, Nat.blt c 59 = true → t c = s c) : T_112 t = T_112 s := by
  unfold T_112
  simp only [h 25 rfl]
theorem F_186 {s t : hm_St}  (h : ∀ c, Nat.blt c 59 = true → t c = s c) : T_186 t = T_186 s := by
  unfold T_186
  simp only [h 50 rfl]
theorem F_190_4 {s t : hm_St} (h : ∀ c, Nat.blt c 59 = true → t c = s c) : ∀ (n : Nat) (v0 : Int32) (v1 : Int32), T_190_4  n t v0 v1 = T_190_4  n s v0 v1 := by
  intro n
  induction n with
  | zero => intros; rfl
  | succ n ih =>
    intros
    unfold T_190_4
    simp only [ih, h 50 rfl, F_178 (h 58 rfl)]
theorem F_190 {s t : hm_St}  (h : ∀ c, Nat.blt c 59 = true → t c = s c) : T_190 t = T_190 s := by
  unfold T_190
  simp only [h 50 rfl, F_178 (h 58 rfl), F_190_4 h]
theorem F_136 {s t : hm_St}  (h : ∀ c, Nat.blt c 59 = true → t c = s c) : T_136 t = T_136 s := by
  unfold T_136
  simp only [h 42 rfl]
theorem F_56 {s t : hm_St} {p1 : Int32} (h : ∀ c, Nat.blt c 59 = true → t c = s c) : T_56 t p1 = T_56 s p1 := by
  unfold T_56
  simp only [h 2 rfl, F_112 h, F_136 h, F_186 h, F_190 h]
theorem F_106 {s t : hm_St} {p1 : Int32} (h : ∀ c, Nat.blt c 68 = true → t c = s c) : T_106 t p1 = T_106 s p1 := by
  unfold T_106
  simp only [F_178 (h 61 rfl), F_178 (h 63 rfl)]
theorem F_107_4 {s t : hm_St} (h : ∀ c, Nat.blt c 68 = true → t c = s c) : ∀ (n : Nat) (v0 : Int32) (v1 : Int32), T_107_4  n t v0 v1 = T_107_4  n s v0 v1 := by
  intro n
  induction n with
  | zero => intros; rfl
  | succ n ih =>
    intros
    unfold T_107_4
    simp only [ih, h 59 rfl, F_106 h]
theorem F_107 {s t : hm_St}  (h : ∀ c, Nat.blt c 68 = true → t c = s c) : T_107 t = T_107 s := by
  unfold T_107
  simp only [h 59 rfl, F_106 h, F_107_4 h]
theorem F_102 {s t : hm_St}  (h : ∀ c, Nat.blt c 68 = true → t c = s c) : T_102 t = T_102 s := by
  unfold T_102
  simp only [h 59 rfl]
theorem F_109_7 {s t : hm_St} (h : ∀ c, Nat.blt c 68 = true → t c = s c) : ∀ (n : Nat) (v0 : Int32) (v1 : Int32) (v2 : Int32), T_109_7  n t v0 v1 v2 = T_109_7  n s v0 v1 v2 := by
  intro n
  induction n with
  | zero => intros; rfl
  | succ n ih =>
    intros
    unfold T_109_7
    simp only [ih, h 59 rfl, F_139 (hm_59 h), F_178 (h 61 rfl), F_178 (h 63 rfl)]
theorem F_109 {s t : hm_St}  (h : ∀ c, Nat.blt c 68 = true → t c = s c) : T_109 t = T_109 s := by
  unfold T_109
  simp only [h 59 rfl, F_139 (hm_59 h), F_178 (h 61 rfl), F_178 (h 63 rfl), F_109_7 h]
theorem F_103 {s t : hm_St}  (h : ∀ c, Nat.blt c 68 = true → t c = s c) : T_103 t = T_103 s := by
  unfold T_103
  simp only [h 59 rfl, F_178 (h 61 rfl)]
theorem F_122_5 {s t : hm_St} {bx cx : Nat} (h : ∀ c, Nat.blt c 59 = true → t c = s c) (hb : ∀ j, t cx j = s bx j) : ∀ (n : Nat) (v0 : Int32) (v1 : Int32) (v2 : Int32), T_122_5 cx n t v0 v1 v2 = T_122_5 bx n s v0 v1 v2 := by
  intro n
  induction n with
  | zero => intros; rfl
  | succ n ih =>
    intros
    unfold T_122_5
    simp only [ih, h 25 rfl, hb, F_66 h hb, F_178 (h 29 rfl), F_178 (h 27 rfl), F_178 (h 33 rfl), F_178 (h 31 rfl)]
theorem F_122 {s t : hm_St} {bx cx : Nat} {p2 : Int32} (h : ∀ c, Nat.blt c 59 = true → t c = s c) (hb : ∀ j, t cx j = s bx j) : T_122 t cx p2 = T_122 s bx p2 := by
  unfold T_122
  simp only [h 25 rfl, hb, F_66 h hb, F_178 (h 29 rfl), F_178 (h 27 rfl), F_178 (h 33 rfl), F_178 (h 31 rfl), F_122_5 h hb]
theorem F_169 {s t : hm_St} {p1 : Int32} {p2 : Int32} {p3 : Int32} (h : ∀ c, Nat.blt c 59 = true → t c = s c) : T_169 t p1 p2 p3 = T_169 s p1 p2 p3 := by
  unfold T_169
  simp only [F_161 h, F_163 h]
theorem F_170 {s t : hm_St} {p1 : Int32} {p2 : Int32} {p3 : Int32} (h : ∀ c, Nat.blt c 59 = true → t c = s c) : T_170 t p1 p2 p3 = T_170 s p1 p2 p3 := by
  unfold T_170
  simp only [F_162 h, F_164 h]
theorem F_171_6 {s t : hm_St} {bx cx : Nat} (h : ∀ c, Nat.blt c 59 = true → t c = s c) (hb : ∀ j, t cx j = s bx j) : ∀ (n : Nat) (v0 : Int32) (v1 : Int32) (v2 : Int32) (v3 : Int32), T_171_6 cx n t v0 v1 v2 v3 = T_171_6 bx n s v0 v1 v2 v3 := by
  intro n
  induction n with
  | zero => intros; rfl
  | succ n ih =>
    intros
    unfold T_171_6
    simp only [ih, h 14 rfl, hb, F_66 h hb, F_160 h, F_169 h, F_170 h]
theorem F_171 {s t : hm_St} {bx cx : Nat} {p2 : Int32} {p3 : Int32} (h : ∀ c, Nat.blt c 59 = true → t c = s c) (hb : ∀ j, t cx j = s bx j) : T_171 t cx p2 p3 = T_171 s bx p2 p3 := by
  unfold T_171
  simp only [h 14 rfl, hb, F_66 h hb, F_160 h, F_169 h, F_170 h, F_171_6 h hb]
theorem F_172 {s t : hm_St} {p1 : Int32} {p2 : Int32} {p3 : Int32} (h : ∀ c, Nat.blt c 59 = true → t c = s c) : T_172 t p1 p2 p3 = T_172 s p1 p2 p3 := by
  unfold T_172
  simp only [F_161 h, F_162 h]
theorem F_174_15 {s t : hm_St} (h : ∀ c, Nat.blt c 59 = true → t c = s c) : ∀ (n : Nat) (v0 : Int32) (v1 : Int32) (v2 : Int32) (v3 : Int32) (v4 : Int32) (v5 : Int32), T_174_15  n t v0 v1 v2 v3 v4 v5 = T_174_15  n s v0 v1 v2 v3 v4 v5 := by
  intro n
  induction n with
  | zero => intros; rfl
  | succ n ih =>
    intros
    unfold T_174_15
    simp only [ih, h 14 rfl, F_160 h, F_172 h]
theorem F_174 {s t : hm_St} {p1 : Int32} {p2 : Int32} {p3 : Int32} (h : ∀ c, Nat.blt c 59 = true → t c = s c) : T_174 t p1 p2 p3 = T_174 s p1 p2 p3 := by
  unfold T_174
  simp only [h 14 rfl, F_160 h, F_172 h, F_174_15 h]
theorem F_173_3 {s t : hm_St} (h : ∀ c, Nat.blt c 59 = true → t c = s c) : ∀ (n : Nat) (v0 : Int32) (v1 : Int32) (v2 : Int32) (v3 : Int32), T_173_3  n t v0 v1 v2 v3 = T_173_3  n s v0 v1 v2 v3 := by
  intro n
  induction n with
  | zero => intros; rfl
  | succ n ih =>
    intros
    unfold T_173_3
    simp only [ih, h 14 rfl, F_160 h, F_174 h]
theorem F_173 {s t : hm_St} {p1 : Int32} {p2 : Int32} {p3 : Int32} (h : ∀ c, Nat.blt c 59 = true → t c = s c) : T_173 t p1 p2 p3 = T_173 s p1 p2 p3 := by
  unfold T_173
  simp only [h 14 rfl, F_160 h, F_174 h, F_173_3 h]
theorem F_52_4 {s t : hm_St} (h : ∀ c, Nat.blt c 59 = true → t c = s c) : ∀ (n : Nat) (v0 : Int32) (v1 : Int32) (v2 : Int32), T_52_4  n t v0 v1 v2 = T_52_4  n s v0 v1 v2 := by
  intro n
  induction n with
  | zero => intros; rfl
  | succ n ih =>
    intros
    unfold T_52_4
    simp only [ih, ite_true]
theorem F_52 {s t : hm_St} {p1 : Int32} (h : ∀ c, Nat.blt c 59 = true → t c = s c) : T_52 t p1 = T_52 s p1 := by
  unfold T_52
  simp only [ite_true, F_52_4 h]
theorem F_137 {s t : hm_St}  (h : ∀ c, Nat.blt c 59 = true → t c = s c) : T_137 t = T_137 s := by
  unfold T_137
  simp only [h 42 rfl]
theorem F_125_4 {s t : hm_St} (h : ∀ c, Nat.blt c 68 = true → t c = s c) : ∀ (n : Nat) (v0 : Int32) (v1 : Int32) (v2 : Int32), T_125_4  n t v0 v1 v2 = T_125_4  n s v0 v1 v2 := by
  intro n
  induction n with
  | zero => intros; rfl
  | succ n ih =>
    intros
    unfold T_125_4
    simp only [ih, h 64 rfl, F_178 (h 66 rfl)]
theorem F_125 {s t : hm_St} {p1 : Int32} (h : ∀ c, Nat.blt c 68 = true → t c = s c) : T_125 t p1 = T_125 s p1 := by
  unfold T_125
  simp only [h 64 rfl, F_178 (h 66 rfl), F_125_4 h]
theorem F_129 {s t : hm_St} {p1 : Int32} {p2 : Int32} {p3 : Int32} (h : ∀ c, Nat.blt c 68 = true → t c = s c) : T_129 t p1 p2 p3 = T_129 s p1 p2 p3 := by
  unfold T_129
  simp only [F_178 (h 66 rfl)]
theorem F_126 {s t : hm_St} {p1 : Int32} (h : ∀ c, Nat.blt c 68 = true → t c = s c) : T_126 t p1 = T_126 s p1 := by
  unfold T_126
  simp only [h 64 rfl, F_129 h, F_178 (h 66 rfl)]
theorem F_130_5 {s t : hm_St} (h : ∀ c, Nat.blt c 68 = true → t c = s c) : ∀ (n : Nat) (v0 : Int32) (v1 : Int32) (v2 : Int32) (v3 : Int32), T_130_5  n t v0 v1 v2 v3 = T_130_5  n s v0 v1 v2 v3 := by
  intro n
  induction n with
  | zero => intros; rfl
  | succ n ih =>
    intros
    unfold T_130_5
    simp only [ih, F_129 h, F_178 (h 66 rfl)]
theorem F_130 {s t : hm_St} {p1 : Int32} {p2 : Int32} (h : ∀ c, Nat.blt c 68 = true → t c = s c) : T_130 t p1 p2 = T_130 s p1 p2 := by
  unfold T_130
  simp only [F_129 h, F_178 (h 66 rfl), F_130_5 h]
theorem F_128_7 {s t : hm_St} (h : ∀ c, Nat.blt c 68 = true → t c = s c) : ∀ (n : Nat) (v0 : Int32) (v1 : Int32) (v2 : Int32) (v3 : Int32), T_128_7  n t v0 v1 v2 v3 = T_128_7  n s v0 v1 v2 v3 := by
  intro n
  induction n with
  | zero => intros; rfl
  | succ n ih =>
    intros
    unfold T_128_7
    simp only [ih, h 64 rfl, F_130 h]
theorem F_128 {s t : hm_St} {p1 : Int32} (h : ∀ c, Nat.blt c 68 = true → t c = s c) : T_128 t p1 = T_128 s p1 := by
  unfold T_128
  simp only [h 64 rfl, F_130 h, F_128_7 h]
theorem F_146 {s t : hm_St} {p1 : Int32} {p2 : Int32} (h : ∀ c, Nat.blt c 59 = true → t c = s c) : T_146 t p1 p2 = T_146 s p1 p2 := by
  unfold T_146
  simp only [h 42 rfl]
theorem F_142_23 {s t : hm_St} (h : ∀ c, Nat.blt c 59 = true → t c = s c) : ∀ (n : Nat) (v0 : Int32) (v1 : Int32) (v2 : Int32) (v3 : Int32), T_142_23  n t v0 v1 v2 v3 = T_142_23  n s v0 v1 v2 v3 := by
  intro n
  induction n with
  | zero => intros; rfl
  | succ n ih =>
    intros
    unfold T_142_23
    simp only [ih, F_178 (h 44 rfl), F_178 (h 46 rfl)]
theorem F_142 {s t : hm_St} {p1 : Int32} (h : ∀ c, Nat.blt c 59 = true → t c = s c) : T_142 t p1 = T_142 s p1 := by
  unfold T_142
  simp only [F_178 (h 44 rfl), F_178 (h 46 rfl), F_142_23 h]
theorem F_147_5 {s t : hm_St} (h : ∀ c, Nat.blt c 59 = true → t c = s c) : ∀ (n : Nat) (v0 : Int32) (v1 : Int32) (v2 : Int32) (v3 : Int32), T_147_5  n t v0 v1 v2 v3 = T_147_5  n s v0 v1 v2 v3 := by
  intro n
  induction n with
  | zero => intros; rfl
  | succ n ih =>
    intros
    unfold T_147_5
    simp only [ih, h 42 rfl, F_141 h, F_142 h, F_146 h]
theorem F_147 {s t : hm_St} {p1 : Int32} {p2 : Int32} (h : ∀ c, Nat.blt c 59 = true → t c = s c) : T_147 t p1 p2 = T_147 s p1 p2 := by
  unfold T_147
  simp only [h 42 rfl, F_141 h, F_142 h, F_146 h, F_147_5 h]
theorem F_148_5 {s t : hm_St} (h : ∀ c, Nat.blt c 59 = true → t c = s c) : ∀ (n : Nat) (v0 : Int32) (v1 : Int32) (v2 : Int32) (v3 : Int32), T_148_5  n t v0 v1 v2 v3 = T_148_5  n s v0 v1 v2 v3 := by
  intro n
  induction n with
  | zero => intros; rfl
  | succ n ih =>
    intros
    unfold T_148_5
    simp only [ih, h 42 rfl, F_146 h]
theorem F_148 {s t : hm_St} {p1 : Int32} {p2 : Int32} (h : ∀ c, Nat.blt c 59 = true → t c = s c) : T_148 t p1 p2 = T_148 s p1 p2 := by
  unfold T_148
  simp only [h 42 rfl, F_146 h, F_148_5 h]
theorem F_149_2 {s t : hm_St} (h : ∀ c, Nat.blt c 59 = true → t c = s c) : ∀ (n : Nat) (v0 : Int32) (v1 : Int32) (v2 : Int32), T_149_2  n t v0 v1 v2 = T_149_2  n s v0 v1 v2 := by
  intro n
  induction n with
  | zero => intros; rfl
  | succ n ih =>
    intros
    unfold T_149_2
    simp only [ih, h 42 rfl, F_146 h, F_178 (h 46 rfl)]
theorem F_149 {s t : hm_St} {p1 : Int32} {p2 : Int32} (h : ∀ c, Nat.blt c 59 = true → t c = s c) : T_149 t p1 p2 = T_149 s p1 p2 := by
  unfold T_149
  simp only [h 42 rfl, F_146 h, F_178 (h 46 rfl), F_149_2 h]
theorem F_57 {s t : hm_St} {p1 : Int32} {p2 : Int32} (h : ∀ c, Nat.blt c 59 = true → t c = s c) : T_57 t p1 p2 = T_57 s p1 p2 := by
  unfold T_57
  simp only [h 2 rfl, F_147 h, F_148 h, F_149 h]
theorem F_23_17 {s t : hm_St} (h : ∀ c, Nat.blt c 59 = true → t c = s c) : ∀ (n : Nat) (v0 : Int32) (v1 : Int32) (v2 : Int32), T_23_17  n t v0 v1 v2 = T_23_17  n s v0 v1 v2 := by
  intro n
  induction n with
  | zero => intros; rfl
  | succ n ih =>
    intros
    unfold T_23_17
    simp only [ih, h 2 rfl, F_147 h]
theorem F_23 {s t : hm_St}  (h : ∀ c, Nat.blt c 59 = true → t c = s c) : T_23 t = T_23 s := by
  unfold T_23
  simp only [h 2 rfl, F_147 h, F_23_17 h]
theorem F_70 {s t : hm_St} {p1 : Int32} (h : ∀ c, Nat.blt c 59 = true → t c = s c) : T_70 t p1 = T_70 s p1 := by
  unfold T_70
  simp only [h 47 rfl]
theorem F_71 {s t : hm_St} {p1 : Int32} {p2 : Int32} (h : ∀ c, Nat.blt c 59 = true → t c = s c) : T_71 t p1 p2 = T_71 s p1 p2 := by
  unfold T_71
  simp only [F_70 h, F_72 h]
theorem F_75 {s t : hm_St} {p1 : Int32} {p2 : Int32} (h : ∀ c, Nat.blt c 59 = true → t c = s c) : T_75 t p1 p2 = T_75 s p1 p2 := by
  unfold T_75
  simp only [F_73 h, F_178 (h 49 rfl)]
