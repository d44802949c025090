section
/-! ===== BEGIN words of one list among another's, by their places ===== -/
theorem goodIn_r {big : List Cond} (ws : List Cond) (ps : List Nat) (hp : ws = ps.filterMap (fun i => big[i]?)) (h : ws.all goodWord = true) : GoodIn big ws := by
  intro w hw
  have h1 := List.all_eq_true.mp h w hw
  rw [hp] at hw
  obtain ⟨i, -, hi⟩ := List.mem_filterMap.mp hw
  have hm : w ∈ big := by first | exact List.mem_of_getElem? hi | exact List.getElem?_mem hi
  exact ⟨hm, good_of_word h1⟩
theorem goodIn_app {big a b : List Cond} (ha : GoodIn big a) (hb : GoodIn big b) : GoodIn big (a ++ b) := fun w h => (List.mem_append.mp h).elim (ha w) (hb w)
theorem goodIn_ca {big a b : List Cond} {c : Cond} (ha : GoodIn big (c :: a)) (hb : GoodIn big b) : GoodIn big (c :: (a ++ b)) := fun w h => (List.mem_cons.mp h).elim (fun e => ha w (List.mem_cons.mpr (Or.inl e))) (fun h => (List.mem_append.mp h).elim (fun h => ha w (List.mem_cons.mpr (Or.inr h))) (hb w))
theorem goodIn_sub {big ws : List Cond} (hm : ∀ w ∈ ws, w ∈ big) (h : ws.all goodWord = true) : GoodIn big ws := fun w hw => ⟨hm w hw, good_of_word (List.all_eq_true.mp h w hw)⟩
/-! ===== END ===== -/
/-! ===== BEGIN exceptions that leave a method, and their catching by the caller (launches without stack traces) ===== -/
section VXA
/-! The laws vx_back, vx_callV, vx_callS, vx_callSW, vx_throw0, vx_throwS follow proofs of the library, with one case more: JvmDerived/Free/Laws.lean (Back.of_free), Shelf42/LK1.lean (callV, callS), Shelf/KitTraced.lean (throwNew0V, throwNewS). -/
/-- where a method has thrown q: the class by its name, the cell, what was written, the world -/
def vx_T (XC : String → State → State → Prop) (st : State) (q : Addr) (t : State) (mc ms : Nat) (free : Addr → Prop) : Prop :=
  ∃ (E : String) (ce : Cell) (L : List Loc), XC E st t ∧ t.heap[q]? = some ce ∧ ce.vm = .none ∧ st.vm.findClass E = some ce.cls ∧ st.WarmedH t.vm ∧ st.sameButNew ({ t with vm := st.vm } : State) L mc ms ∧ ∀ z ∈ L, free z.base
def vx_Q (Qc : Array Value → State → Outcome → State → Prop) (XC : String → State → State → Prop) (mc ms : Nat) (free : Addr → Prop) : Array Value → State → Outcome → State → Prop := fun a st o t =>
  (Qc a st o t ∧ ∃ L, FrameEnd st o t L mc ms ∧ ∀ q ∈ L, free q.base) ∨ ∃ q, o = .threw q ∧ vx_T XC st q t mc ms free
/-- a callee that returns or throws -/
def vx_Met (l : Launch) (y : MethodName) (ws : List Cond) (rm : Room) (Pc : Array Value → State → Prop) (Qc : Array Value → State → Outcome → State → Prop) (XC : String → State → State → Prop) (mc ms : Nat) (free : Addr → Prop) : Prop :=
  MetFree l y (headSpec ws rm) Pc (fun _ _ _ _ _ => True) (vx_Q Qc XC mc ms free)
def vx_Post (XC : String → State → State → Prop) (mc ms : Nat) (free : Addr → Prop) : Pt → Array Value → Addr → Pt → Prop := fun A a q B =>
  ∃ (g : JFrame) (mk : MethodId) (t : State) (L : List Loc) (E : String) (ce : Cell), B.U.heap = t.heap ∧ B.U.vm = t.vm ∧ XC E (A.U.calling g mk a) t ∧ t.heap[q]? = some ce ∧ ce.vm = .none ∧ A.U.vm.findClass E = some ce.cls ∧ B.locs = A.locs ++ L ∧ (∀ z ∈ L, free z.base) ∧ B.cells = A.cells + mc ∧ B.slots = A.slots + ms
def vx_Back (l : Launch) (R : Room) (p : Program) (e : Env) (below : List Frame) (s : State) (sargs : Array Value) (y : MethodName) (len W9 : Nat)
    (Pre : Pt → Array Value → Prop) (Post : Pt → Array Value → Option Value → Pt → Prop) (PostX : Pt → Array Value → Addr → Pt → Prop) : Prop :=
  ∀ (m : MethodId) (meth : Method) (c : Code) (A : Pt) (g : JFrame) (ig : Instr) (mk : MethodId) (a : Array Value),
    Stand p l e R s m sargs below meth c A.U A.locs A.cells A.slots → g.method = m → g.locals.size = c.maxLocals → decode c.code g.pc = .ok (ig, len) →
    2 * g.monitorRoom + (g.stack.map fun v => v.category).sum ≤ W9 → A.U.methodNamed? y = some mk → Pre A a →
    (∃ (v : Option Value) (B : Pt), Stand p l e R s m sargs below meth c B.U B.locs B.cells B.slots ∧ Post A a v B ∧
      Steps p.tables e below (doInvoke e (A.U.setTop g) [] mk a).1 (B.U.setTop { g with pc := g.pc + len, stack := v.toList ++ g.stack })) ∨
    (∃ (q : Addr) (B : Pt), Stand p l e R s m sargs below meth c B.U B.locs B.cells B.slots ∧ PostX A a q B ∧
      Steps p.tables e below (doInvoke e (A.U.setTop g) [] mk a).1 ((B.U.setTop g).pushFrame (.throwing q)))
section Payer
variable {l : Launch} {R : Room} {p : Program} {e : Env} {below : List Frame} {s : State} {sargs : Array Value} {y : MethodName} {len W9 : Nat}
theorem vx_back {ws : List Cond} {rm : Room} {Pc : Array Value → State → Prop} {Qc : Array Value → State → Outcome → State → Prop} {XC : String → State → State → Prop} {mc ms : Nat} {free : Addr → Prop} {bytes : ByteArray} {maxL : Nat} {ret : Option FieldType}
    (hM : vx_Met l y ws rm Pc Qc XC mc ms free) (hblind : FrameBlind Pc) (hrc : rm.cells = mc) (hrs : rm.slots = ms)
    (hframes : rm.frames + 1 ≤ R.frames) (hlocals : W9 + (maxL + 11) + rm.locals ≤ R.locals)
    (hws : ∀ w ∈ ws, ∀ a' U, s.WarmedH U.vm → w.before a' U = true) (hcode : Cond.code y bytes maxL ret ∈ ws) (hinit : ∀ a' U, s.WarmedH U.vm → (Cond.initialized y.cls).before a' U = true) :
    vx_Back l R p e below s sargs y len W9 (PreOf R mc ms Pc) (PostOf Qc mc ms free) (vx_Post XC mc ms free) := by
  intro m meth c A g ig mk a X hg hsize hdg hW hn hp
  have h1 : (headSpec ws rm).pre.before a A.U = true := atoms_intro fun w hw => hws w hw _ _ X.warmed
  have h2 : (Cond.code y bytes maxL ret).before a A.U = true := hws _ hcode _ _ X.warmed
  have h3 : (Cond.initialized y.cls).before a A.U = true := hinit _ _ X.warmed
  have h4 : A.cells + (headSpec ws rm).room.cells ≤ R.cells := by rw [show (headSpec ws rm).room.cells = mc from hrc]; exact hp.1
  have h5 : A.slots + (headSpec ws rm).room.slots ≤ R.slots := by rw [show (headSpec ws rm).room.slots = ms from hrs]; exact hp.2.1
  have hPc : Pc a (A.U.calling g mk a) := hblind _ _ _ _ hp.2.2
  obtain ⟨U, Ls, c0, s0⟩ := A
  dsimp only [Pt.U, Pt.locs, Pt.cells, Pt.slots] at h1 h2 h3 h4 h5 X hn hPc ⊢
  obtain ⟨methY, cY, hmY, hcY, -, hlY, -, -, -, -⟩ := Cond.code_spec hn h2
  obtain ⟨kY, hkY, -⟩ := className_of_methodNamed hn
  have hinitY : kY.init = .initialized := Cond.initialized_spec (findClass_of_methodNamed hn) hkY h3
  have h : At U g.method c below := by rw [hg]; exact X.here
  have hlocals9 : W9 + (maxL + 11) + (headSpec ws rm).room.locals ≤ R.locals := hlocals
  have happ : (headSpec ws rm).appliesLoose y e.platform (U.calling g mk a) = true :=
    Spec.appliesLoose_calling (g := g) h hdg hn hkY hinitY
      (X.room_calling (g := g) (R' := (headSpec ws rm).room) hsize hmY hcY hframes (by rw [hlY]; omega) h4 h5) h1
  obtain ⟨mid, hmid⟩ := h.above
  have hfr : (U.setTop g).frames = (.java g :: mid) ++ below := by rw [State.frames_setTop' g h.top, hmid]; rfl
  obtain ⟨o, s₂, hsteps, -, hend, hq⟩ := Steps.callFree hM p X.admits X.cas X.clock (acts := []) hfr happ hPc trivial
  have hq' : vx_Q Qc XC mc ms free a (U.calling g mk a) o s₂ := hq
  rw [State.frames_setTop' g h.top] at hend
  obtain ⟨g₀, hg0⟩ := Option.isSome_iff_exists.mp h.top
  obtain ⟨r, hr⟩ := State.topJava?_eq_some.mp hg0
  have hr' : (({ U with heap := s₂.heap, slotsUsed := s₂.slotsUsed } : State).setVm s₂.vm).frames = .java g₀ :: r := hr
  rcases hq' with ⟨hqc, L, hfe, hL⟩ | ⟨q, rfl, E, ce, L, hx, hce, hcv, hcl, hW₂, hsm, hL⟩
  · obtain ⟨⟨v, rfl⟩, hW₂, e2, q2, q3, q4, q5, q6⟩ := id hfe
    have e3 : s₂ = ({ (U.calling g mk a).setFrames s₂.frames with heap := s₂.heap, slotsUsed := s₂.slotsUsed } : State).setVm s₂.vm := by
      have : s₂ = ({ s₂ with vm := (U.calling g mk a).vm } : State).setVm s₂.vm := rfl
      rw [e2] at this
      exact this
    obtain ⟨c₂, i₂, len₂, hc₂, hd₂, hf₂⟩ := hend
    have hW' : U.WarmedH s₂.vm := hW₂
    have hcc : c₂ = c := by
      have h1 : s₂.code? g.method = U.code? g.method := by
        rw [State.code?_eq, State.code?_eq, hW'.alike.method?]
      exact Option.some.inj (hc₂.symm.trans (h1.trans h.code))
    subst hcc
    have hlen : len₂ = len := by rw [hdg] at hd₂; cases hd₂; rfl
    subst hlen
    have hs₂ : s₂ = (({ U with heap := s₂.heap, slotsUsed := s₂.slotsUsed } : State).setVm s₂.vm).setTop { g with pc := g.pc + len₂, stack := v.toList ++ g.stack } := by
      refine e3.trans ?_
      rw [hf₂, State.calling_eq h.top, State.setFrames_setFrames, State.setTop_of_frames _ hr', hr]
      rfl
    have hsame : U.sameButNew ({ U with heap := s₂.heap, slotsUsed := s₂.slotsUsed } : State) L mc ms := by
      refine ⟨?_, q2, q3, q4, q5, q6⟩
      obtain ⟨t, ht, -⟩ := State.frames_cons hr
      show ({ U with heap := s₂.heap, slotsUsed := s₂.slotsUsed } : State) = { U.setFrames U.frames with heap := s₂.heap, slotsUsed := s₂.slotsUsed }
      rw [State.setFrames_self ht]
    subst hg
    refine Or.inl ⟨v, ⟨(({ U with heap := s₂.heap, slotsUsed := s₂.slotsUsed } : State).setVm s₂.vm), Ls ++ L, c0 + mc, s0 + ms⟩,
      ⟨X.admits, X.cas, X.clock, X.frames, X.room, X.hears, X.method, X.code, (X.here.setHeapUsed s₂.heap s₂.slotsUsed).setVm hW'.alike, X.tail, State.WarmedH.trans X.warmed hW', X.limits, X.bytes, X.same.trans (hsame.setVm s.vm)⟩,
      ⟨g, mk, s₂, L, rfl, rfl, hqc, rfl, hL, rfl, rfl⟩, ?_⟩
    show Steps p.tables e below _ ((({ U with heap := s₂.heap, slotsUsed := s₂.slotsUsed } : State).setVm s₂.vm).setTop { g with pc := g.pc + len₂, stack := v.toList ++ g.stack })
    rw [← hs₂]
    exact hsteps
  · obtain ⟨e2, q2, q3, q4, q5, q6⟩ := id hsm
    have e3 : s₂ = ({ (U.calling g mk a).setFrames s₂.frames with heap := s₂.heap, slotsUsed := s₂.slotsUsed } : State).setVm s₂.vm := by
      have : s₂ = ({ s₂ with vm := (U.calling g mk a).vm } : State).setVm s₂.vm := rfl
      rw [e2] at this
      exact this
    have hf₂ : s₂.frames = .throwing q :: .java g :: U.frames.tail := hend
    have hW' : U.WarmedH s₂.vm := hW₂
    have hs₂ : s₂ = ((({ U with heap := s₂.heap, slotsUsed := s₂.slotsUsed } : State).setVm s₂.vm).setTop g).pushFrame (.throwing q) := by
      refine e3.trans ?_
      rw [hf₂, State.calling_eq h.top, State.setFrames_setFrames, State.pushFrame, State.frames_setTop _ hr', State.setTop_of_frames _ hr', State.setFrames_setFrames, hr]
      rfl
    have hsame : U.sameButNew ({ U with heap := s₂.heap, slotsUsed := s₂.slotsUsed } : State) L mc ms := by
      refine ⟨?_, q2, q3, q4, q5, q6⟩
      obtain ⟨t, ht, -⟩ := State.frames_cons hr
      show ({ U with heap := s₂.heap, slotsUsed := s₂.slotsUsed } : State) = { U.setFrames U.frames with heap := s₂.heap, slotsUsed := s₂.slotsUsed }
      rw [State.setFrames_self ht]
    subst hg
    refine Or.inr ⟨q, ⟨(({ U with heap := s₂.heap, slotsUsed := s₂.slotsUsed } : State).setVm s₂.vm), Ls ++ L, c0 + mc, s0 + ms⟩,
      ⟨X.admits, X.cas, X.clock, X.frames, X.room, X.hears, X.method, X.code, (X.here.setHeapUsed s₂.heap s₂.slotsUsed).setVm hW'.alike, X.tail, State.WarmedH.trans X.warmed hW', X.limits, X.bytes, X.same.trans (hsame.setVm s.vm)⟩,
      ⟨g, mk, s₂, L, E, ce, rfl, rfl, hx, hce, hcv, hcl, rfl, hL, rfl, rfl⟩, ?_⟩
    show Steps p.tables e below _ (((({ U with heap := s₂.heap, slotsUsed := s₂.slotsUsed } : State).setVm s₂.vm).setTop g).pushFrame (.throwing q))
    rw [← hs₂]
    exact hsteps
end Payer
section Calls
variable {p : Program} {l : Launch} {e : Env} {R : Room} {s : State} {m : MethodId} {args : Array Value} {below : List Frame} {meth : Method} {c : Code} {T : State} {locs : List Loc} {cells slots : Nat}
theorem vx_callV (X : Stand p l e R s m args below meth c T locs cells slots) (hexec : p.tables.exec = Jvm.exec) {own C : String} {index : Nat} {y : MethodName} {bytes : ByteArray} {maxL : Nat} {ret : Option FieldType}
    (hown : s.vm.findClass own = some m.cls) (hlink : (Cond.methodLink own index y).before args s = true) (hinst : (Cond.instanceMethod y).before args s = true) (hsel : (Cond.selects C y y).before args s = true)
    (hcode : (Cond.code y bytes maxL ret).before args s = true) (hy : y.cls ≠ "java/lang/invoke/MethodHandle" ∧ y.cls ≠ "java/lang/invoke/VarHandle")
    {W9 : Nat} {Pre : Pt → Array Value → Prop} {Post : Pt → Array Value → Option Value → Pt → Prop} {PostX : Pt → Array Value → Addr → Pt → Prop} (hK : vx_Back l R p e below s args y 3 W9 Pre Post PostX)
    {b : Addr} {cellB : Cell} (hcell : T.heap[b]? = some cellB) (hobj : cellB.vm.isStatics = false) (hcls : s.vm.findClass C = some cellB.cls)
    {g : JFrame} (hg : g.method = m) (hsize : g.locals.size = c.maxLocals) {argsL rest : List Value} (hlen : ∀ sig, parseMethodDescriptor y.desc = some sig → argsL.length = sig.parameters.length)
    (hstack : g.stack = argsL.reverse ++ .ref b :: rest) (hW : 2 * g.monitorRoom + (rest.map fun v => v.category).sum ≤ W9) (hdg : decode c.code g.pc = .ok (.invokevirtual index, 3))
    (hpre : ∀ vm₁, s.WarmedH vm₁ → Pre ⟨T.setVm vm₁, locs, cells, slots⟩ (Value.ref b :: argsL).toArray) :
    (∃ (v : Option Value) (vm₁ : Vm) (B : Pt), s.WarmedH vm₁ ∧ Stand p l e R s m args below meth c B.U B.locs B.cells B.slots ∧ Post ⟨T.setVm vm₁, locs, cells, slots⟩ (Value.ref b :: argsL).toArray v B ∧
      ∀ target, Steps p.tables e below (B.U.setTop { g with pc := g.pc + 3, stack := v.toList ++ rest }) target → Steps p.tables e below (T.setTop g) target) ∨
    (∃ (q : Addr) (vm₁ : Vm) (B : Pt), s.WarmedH vm₁ ∧ Stand p l e R s m args below meth c B.U B.locs B.cells B.slots ∧ PostX ⟨T.setVm vm₁, locs, cells, slots⟩ (Value.ref b :: argsL).toArray q B ∧
      Steps p.tables e below (T.setTop g) ((B.U.setTop { g with stack := rest }).pushFrame (.throwing q))) := by
  obtain ⟨mk, methM, hnamed, hmethM, hstM, habM⟩ := Cond.instanceMethod_spec hinst
  obtain ⟨methM', cM, hmethM', -, -, -, -, -, -, hsigM⟩ := Cond.code_spec hnamed hcode
  cases hmethM.symm.trans hmethM'
  obtain ⟨c2, r2, m2, q1, q2, q3, q4, kP, hkP, hkPi⟩ := Cond.selects_spec hsel
  cases hcls.symm.trans q1
  cases (State.methodFound?_of_named hnamed hy).symm.trans q2
  cases hnamed.symm.trans q3
  have hselP : selectMethod e.platform s.vm cellB.cls mk = .method mk := by rw [Launch.admits_selectMethod X.admits]; exact q4
  obtain ⟨vm₁, X₁, hstep₁⟩ := X.invokevirtual hexec hown hlink hnamed hmethM hstM hkP hkPi hy (a := b) (cell := cellB) hcell
    (fun z h => by rw [h] at hobj; cases hobj) hselP hmethM habM hkP hkPi (g := g) hg (argsL := argsL) (rest := rest) (hlen _ hsigM) hstack hdg
  rcases hK m meth c ⟨T.setVm vm₁, locs, cells, slots⟩ { g with stack := rest } (.invokevirtual index) mk (Value.ref b :: argsL).toArray X₁ hg hsize hdg hW (X₁.named hnamed) (hpre vm₁ X₁.warmed) with ⟨v, B, X', hpost, hsteps⟩ | ⟨q, B, X', hpost, hsteps⟩
  · exact Or.inl ⟨v, vm₁, B, X₁.warmed, X', hpost, fun target h => hstep₁ _ fun acts => by rw [doInvoke_state]; exact hsteps.trans h⟩
  · exact Or.inr ⟨q, vm₁, B, X₁.warmed, X', hpost, hstep₁ _ fun acts => by rw [doInvoke_state]; exact hsteps⟩
theorem vx_callS (X : Stand p l e R s m args below meth c T locs cells slots) (hexec : p.tables.exec = Jvm.exec) {own : String} {index : Nat} {y : MethodName} {bytes : ByteArray} {maxL : Nat} {ret : Option FieldType}
    (hown : s.vm.findClass own = some m.cls) (hlink : (Cond.methodLink own index y).before args s = true) (hstat : (Cond.static y).before args s = true) (hinit : (Cond.initialized y.cls).before args s = true)
    (hcode : (Cond.code y bytes maxL ret).before args s = true) (hy : y.cls ≠ "java/lang/invoke/MethodHandle" ∧ y.cls ≠ "java/lang/invoke/VarHandle")
    {W9 : Nat} {Pre : Pt → Array Value → Prop} {Post : Pt → Array Value → Option Value → Pt → Prop} {PostX : Pt → Array Value → Addr → Pt → Prop} (hK : vx_Back l R p e below s args y 3 W9 Pre Post PostX)
    {g : JFrame} (hg : g.method = m) (hsize : g.locals.size = c.maxLocals) {argsL rest : List Value} (hlen : ∀ sig, parseMethodDescriptor y.desc = some sig → argsL.length = sig.parameters.length)
    (hstack : g.stack = argsL.reverse ++ rest) (hW : 2 * g.monitorRoom + (rest.map fun v => v.category).sum ≤ W9) (hdg : decode c.code g.pc = .ok (.invokestatic index, 3))
    (hpre : ∀ vm₁, s.WarmedH vm₁ → Pre ⟨T.setVm vm₁, locs, cells, slots⟩ argsL.toArray) :
    (∃ (v : Option Value) (vm₁ : Vm) (B : Pt), s.WarmedH vm₁ ∧ Stand p l e R s m args below meth c B.U B.locs B.cells B.slots ∧ Post ⟨T.setVm vm₁, locs, cells, slots⟩ argsL.toArray v B ∧
      ∀ target, Steps p.tables e below (B.U.setTop { g with pc := g.pc + 3, stack := v.toList ++ rest }) target → Steps p.tables e below (T.setTop g) target) ∨
    (∃ (q : Addr) (vm₁ : Vm) (B : Pt), s.WarmedH vm₁ ∧ Stand p l e R s m args below meth c B.U B.locs B.cells B.slots ∧ PostX ⟨T.setVm vm₁, locs, cells, slots⟩ argsL.toArray q B ∧
      Steps p.tables e below (T.setTop g) ((B.U.setTop { g with stack := rest }).pushFrame (.throwing q))) := by
  obtain ⟨mk, hnamed⟩ := Cond.code_named hcode
  obtain ⟨methM, cM, hmethM, -, -, -, -, -, -, hsigM⟩ := Cond.code_spec hnamed hcode
  have hstatic : methM.isStatic = true := Cond.static_spec hnamed hmethM hstat
  obtain ⟨kP, hkP, -⟩ := className_of_methodNamed hnamed
  have hinitP : kP.init = .initialized := Cond.initialized_spec (findClass_of_methodNamed hnamed) hkP hinit
  obtain ⟨vm₁, X₁, hstep₁⟩ := X.invokestatic hexec hown hlink hnamed hmethM hstatic hkP hinitP hy (g := g) hg (argsL := argsL) (rest := rest) (hlen _ hsigM) hstack hdg
  rcases hK m meth c ⟨T.setVm vm₁, locs, cells, slots⟩ { g with stack := rest } (.invokestatic index) mk argsL.toArray X₁ hg hsize hdg hW (X₁.named hnamed) (hpre vm₁ X₁.warmed) with ⟨v, B, X', hpost, hsteps⟩ | ⟨q, B, X', hpost, hsteps⟩
  · exact Or.inl ⟨v, vm₁, B, X₁.warmed, X', hpost, fun target h => hstep₁ _ fun acts => by rw [doInvoke_state]; exact hsteps.trans h⟩
  · exact Or.inr ⟨q, vm₁, B, X₁.warmed, X', hpost, hstep₁ _ fun acts => by rw [doInvoke_state]; exact hsteps⟩
end Calls
theorem vx_cls {s : State} {T : State} {vm₁ : Vm} {E : String} {k : ClassId} (hW : s.WarmedH vm₁) (h : (T.setVm vm₁).vm.findClass E = some k) : s.vm.findClass E = some k := by
  have h1 : vm₁.findClass E = some k := h
  rw [hW.alike.findClass] at h1
  exact h1
/-- the method's frame g, with q thrown over it -/
def vx_W (p : Program) (l : Launch) (e : Env) (R : Room) (s : State) (m : MethodId) (args : Array Value) (below : List Frame) (meth : Method) (c : Code) (H : Heap) (locs : List Loc) (cells slots : Nat) (Q : State → Prop) (g : JFrame) (q : Addr) : Prop :=
  ∀ T : State, T.heap = H → Stand p l e R s m args below meth c T locs cells slots → ∃ t, Steps p.tables e below ((T.setTop g).pushFrame (.throwing q)) t ∧ Q t
def vx_Run (p : Program) (l : Launch) (e : Env) (R : Room) (s : State) (m : MethodId) (args : Array Value) (below : List Frame) (meth : Method) (c : Code) (H : Heap) (locs : List Loc) (cells slots mc ms : Nat) (g : JFrame) (rest : List Value) (Qa : State → Outcome → State → Prop) (XC : String → State → State → Prop) (free : Addr → Prop) : Prop :=
  ∀ T : State, T.heap = H → Stand p l e R s m args below meth c T locs cells slots →
    (∃ (v : Option Value) (st₀ t T' : State) (L : List Loc), st₀.heap = H ∧ Stand p l e R s m args below meth c T' (locs ++ L) (cells + mc) (slots + ms) ∧ (∀ q ∈ L, free q.base) ∧ T'.heap = t.heap ∧ T'.vm = t.vm ∧ Qa st₀ (.returned v) t ∧
      Goes p e below T g T' { g with pc := g.pc + 3, stack := v.toList ++ rest }) ∨
    (∃ (q : Addr) (st₀ t T' : State) (L : List Loc) (E : String) (ce : Cell), st₀.heap = H ∧ Stand p l e R s m args below meth c T' (locs ++ L) (cells + mc) (slots + ms) ∧ (∀ z ∈ L, free z.base) ∧ T'.heap = t.heap ∧ T'.vm = t.vm ∧ XC E st₀ t ∧ t.heap[q]? = some ce ∧ ce.vm = .none ∧ s.vm.findClass E = some ce.cls ∧
      Steps p.tables e below (T.setTop g) ((T'.setTop { g with stack := rest }).pushFrame (.throwing q)))
def vx_X {S : Type} (px : S → Prop) (B : String → S → State → Prop) (A : Nat → Prop) : String → State → State → Prop := fun E st t => ∃ u : S, px u ∧ B E u t ∧ va_F A st t
section Runs
variable {p : Program} {l : Launch} {e : Env} {R : Room} {s : State} {m : MethodId} {args : Array Value} {below : List Frame} {meth : Method} {c : Code} {H : Heap} {locs : List Loc} {cells slots : Nat}
variable {y : MethodName} {bytes cc : ByteArray} {maxL nL mc ms n index : Nat} {ret : Option FieldType} {ws : List Cond} {rm : Room} {Pc : Array Value → State → Prop} {Qc : Array Value → State → Outcome → State → Prop} {XC : String → State → State → Prop} {free : Addr → Prop} {Ts : List Cond} {own C : String} {b : Addr} {As rest : List Value} {g : JFrame}
theorem vx_callBack (cb : CallB R s args own index y bytes maxL ret ws rm mc ms n) (hM : vx_Met l y ws rm Pc Qc XC mc ms free) (hbl : FrameBlind Pc) : vx_Back l R p e below s args y 3 8 (PreOf R mc ms Pc) (PostOf Qc mc ms free) (vx_Post XC mc ms free) := by
  obtain ⟨hrc, hrs, hfr, hlo, hws, hcw, -, hini, -⟩ := cb
  exact vx_back (bytes := bytes) (maxL := maxL) (ret := ret) hM hbl hrc hrs hfr hlo hws hcw (fun a' U hW => word_at hW (Or.inl (by first | rfl | simp [Cond.onTables, Cond.keeps, Cond.steady])) hini)
theorem vx_runV (S : CallFix p m c cc nL s args Ts own) (hM : vx_Met l y ws rm Pc Qc XC mc ms free) (cw : CallW R s args own C index y bytes maxL ret ws rm mc ms n) (hp : PreV s H C b Pc As)
    (hg : g.method = m) (hn : As.length = n) (hsize : g.locals.size = nL) (hstack : g.stack = As.reverse ++ .ref b :: rest) (hW : 2 * g.monitorRoom + (rest.map fun v => v.category).sum ≤ 8) (hdg : decode cc g.pc = .ok (.invokevirtual index, 3)) (hf : cells + mc ≤ R.cells ∧ slots + ms ≤ R.slots) :
    vx_Run p l e R s m args below meth c H locs cells slots mc ms g rest (Qc (Value.ref b :: As).toArray) XC free := by
  have hK : vx_Back l R p e below s args y 3 8 (PreOf R mc ms Pc) (PostOf Qc mc ms free) (vx_Post XC mc ms free) := vx_callBack cw.1 hM hp.1
  obtain ⟨⟨-, -, -, -, -, -, hcode, -, hy, hlen, hl⟩, hin, hse⟩ := cw
  obtain ⟨hx, hb, hml, ho, -⟩ := S
  obtain ⟨-, ⟨cellB, hcB, hoB, hclB⟩, hPc⟩ := hp
  intro T hT X
  rcases vx_callV X hx (C := C) (bytes := bytes) (maxL := maxL) (ret := ret) ho hl hin hse hcode hy hK (by rw [hT]; exact hcB) hoB hclB hg (hsize.trans hml.symm) (argsL := As) (rest := rest) (fun sig h => hn.trans (hlen sig h)) hstack hW (by rw [hb]; exact hdg)
    (fun vm₁ hW₁ => ⟨hf.1, hf.2, hPc (T.setVm vm₁) hT hW₁⟩) with ⟨v, vm₁, ⟨U', l2, c2, s2⟩, hW₁, X', ⟨g', mk, t, L, e1, e2, hq, h1, hL, h2, h3⟩, st⟩ | ⟨q, vm₁, ⟨U', l2, c2, s2⟩, hW₁, X', ⟨g', mk, t, L, E, ce, e1, e2, hq, hce, hcv, hcl, h1, hL, h2, h3⟩, st⟩
  · dsimp only [Pt.U, Pt.locs, Pt.cells, Pt.slots] at X' e1 e2 h1 h2 h3 st
    subst h1; subst h2; subst h3
    exact Or.inl ⟨v, (T.setVm vm₁).calling g' mk (Value.ref b :: As).toArray, t, U', L, hT, X', hL, e1, e2, hq, st⟩
  · dsimp only [Pt.U, Pt.locs, Pt.cells, Pt.slots] at X' e1 e2 h1 h2 h3 st hcl
    subst h1; subst h2; subst h3
    exact Or.inr ⟨q, (T.setVm vm₁).calling g' mk (Value.ref b :: As).toArray, t, U', L, E, ce, hT, X', hL, e1, e2, hq, hce, hcv, vx_cls hW₁ hcl, st⟩
theorem vx_runS (S : CallFix p m c cc nL s args Ts own) (hM : vx_Met l y ws rm Pc Qc XC mc ms free) (cw : CallB R s args own index y bytes maxL ret ws rm mc ms n ∧ (Cond.static y).before args s = true) (hp : PreS s H Pc As)
    (hg : g.method = m) (hn : As.length = n) (hsize : g.locals.size = nL) (hstack : g.stack = As.reverse ++ rest) (hW : 2 * g.monitorRoom + (rest.map fun v => v.category).sum ≤ 8) (hdg : decode cc g.pc = .ok (.invokestatic index, 3)) (hf : cells + mc ≤ R.cells ∧ slots + ms ≤ R.slots) :
    vx_Run p l e R s m args below meth c H locs cells slots mc ms g rest (Qc As.toArray) XC free := by
  have hK : vx_Back l R p e below s args y 3 8 (PreOf R mc ms Pc) (PostOf Qc mc ms free) (vx_Post XC mc ms free) := vx_callBack cw.1 hM hp.1
  obtain ⟨⟨-, -, -, -, -, -, hcode, hini, hy, hlen, hl⟩, hstt⟩ := cw
  obtain ⟨hx, hb, hml, ho, -⟩ := S
  intro T hT X
  rcases vx_callS X hx (bytes := bytes) (maxL := maxL) (ret := ret) ho hl hstt hini hcode hy hK hg (hsize.trans hml.symm) (argsL := As) (rest := rest) (fun sig h => hn.trans (hlen sig h)) hstack hW (by rw [hb]; exact hdg)
    (fun vm₁ hW₁ => ⟨hf.1, hf.2, hp.2 (T.setVm vm₁) hT hW₁⟩) with ⟨v, vm₁, ⟨U', l2, c2, s2⟩, hW₁, X', ⟨g', mk, t, L, e1, e2, hq, h1, hL, h2, h3⟩, st⟩ | ⟨q, vm₁, ⟨U', l2, c2, s2⟩, hW₁, X', ⟨g', mk, t, L, E, ce, e1, e2, hq, hce, hcv, hcl, h1, hL, h2, h3⟩, st⟩
  · dsimp only [Pt.U, Pt.locs, Pt.cells, Pt.slots] at X' e1 e2 h1 h2 h3 st
    subst h1; subst h2; subst h3
    exact Or.inl ⟨v, (T.setVm vm₁).calling g' mk As.toArray, t, U', L, hT, X', hL, e1, e2, hq, st⟩
  · dsimp only [Pt.U, Pt.locs, Pt.cells, Pt.slots] at X' e1 e2 h1 h2 h3 st hcl
    subst h1; subst h2; subst h3
    exact Or.inr ⟨q, (T.setVm vm₁).calling g' mk As.toArray, t, U', L, E, ce, hT, X', hL, e1, e2, hq, hce, hcv, vx_cls hW₁ hcl, st⟩
end Runs
section Rows
variable {p : Program} {l : Launch} {e : Env} {R : Room} {s : State} {m : MethodId} {args : Array Value} {below : List Frame} {meth : Method} {c : Code} {H : Heap} {locs : List Loc} {cells slots : Nat} {Q : State → Prop}
variable {mc ms : Nat} {free : Addr → Prop} {A0 A1 : Nat → Prop} {H0 : Heap} {a : Array Value} {pc : Nat} {ls : Array Slot} {st0 rest : List Value}
theorem vx_keep {st₀ t T' : State} {L : List Loc} (h0 : st₀.heap = H) (e1 : T'.heap = t.heap) (hS : va_S A0 H0 H locs) (hA : ∀ q, q < H.size → A1 q → A0 q) (hf : ∀ q, free q → A0 q) (hL : ∀ q ∈ L, free q.base) (hF : va_F A1 st₀ t) :
    H.size ≤ T'.heap.size ∧ (∀ q : Nat, q < H.size → ¬ A1 q → T'.heap[q]? = H[q]?) ∧ va_S A0 H0 T'.heap (locs ++ L) := by
  obtain ⟨hz, hk⟩ := hF
  rw [h0] at hz hk
  exact ⟨by rw [e1]; exact hz, fun q h1 h2 => by rw [e1]; exact hk q h1 h2,
    ⟨Nat.le_trans hS.1 (by rw [e1]; exact hz), fun q h1 h2 => by rw [e1, hk q (Nat.lt_of_lt_of_le h1 hS.1) (fun z => h2 (hA q (Nat.lt_of_lt_of_le h1 hS.1) z))]; exact hS.2.1 q h1 h2, fun q hq => by
      rcases List.mem_append.mp hq with h | h
      · exact hS.2.2 q h
      · exact hf _ (hL q h)⟩⟩
theorem vx_calli {S SX : Type} {post : Int32 → S → Prop} {px : SX → Prop} {B : S → State → Prop} {BX : String → SX → State → Prop} {AX : Nat → Prop} (hr : vx_Run p l e R s m args below meth c H locs cells slots mc ms (F0 m pc ls st0) rest (va_Qi post B A1 a) (vx_X px BX AX) free) (hS : va_S A0 H0 H locs) (hA : ∀ q, q < H.size → A1 q → A0 q) (hf : ∀ q, free q → A0 q) (hAX : ∀ q, q < H.size → AX q → A0 q)
    (kx : ∀ (E : String) (ce : Cell) (q9 : Addr) (u : SX) (t : State) (H1 : Heap) (locs1 : List Loc), t.heap = H1 → s.vm.Alike t.vm → px u → BX E u t → H.size ≤ H1.size → (∀ q : Nat, q < H.size → ¬ AX q → H1[q]? = H[q]?) → va_S A0 H0 H1 locs1 → H1[q9]? = some ce → ce.vm = .none → s.vm.findClass E = some ce.cls → vx_W p l e R s m args below meth c H1 locs1 (cells + mc) (slots + ms) Q (F0 m pc ls rest) q9)
    (kk : ∀ (r : Int32) (u : S) (t : State) (H1 : Heap) (locs1 : List Loc), t.heap = H1 → s.vm.Alike t.vm → post r u → B u t → H.size ≤ H1.size → (∀ q : Nat, q < H.size → ¬ A1 q → H1[q]? = H[q]?) → va_S A0 H0 H1 locs1 → W p l e R s m args below meth c H1 locs1 (cells + mc) (slots + ms) Q (F0 m (pc + 3) ls (.int r :: rest))) : W p l e R s m args below meth c H locs cells slots Q (F0 m pc ls st0) := by
  intro T hT X
  rcases hr T hT X with ⟨v, st₀, t, T', L, h0, X', hL, e1, e2, ⟨⟨r, u, hv, hp, hb⟩, hF⟩, st⟩ | ⟨q, st₀, t, T', L, E, ce, h0, X', hL, e1, e2, ⟨u, hp, hb, hF⟩, hce, hcv, hcl, st⟩
  · cases hv
    obtain ⟨k1, k2, k3⟩ := vx_keep h0 e1 hS hA hf hL hF
    obtain ⟨t2, a1, b1⟩ := kk r u t T'.heap (locs ++ L) e1.symm (by rw [← e2]; exact X'.warmed.alike) hp hb k1 k2 k3 T' rfl X'
    exact ⟨t2, st t2 a1, b1⟩
  · obtain ⟨k1, k2, k3⟩ := vx_keep h0 e1 hS hAX hf hL hF
    obtain ⟨t2, a1, b1⟩ := kx E ce q u t T'.heap (locs ++ L) e1.symm (by rw [← e2]; exact X'.warmed.alike) hp hb k1 k2 k3 (by rw [e1]; exact hce) hcv hcl T' rfl X'
    exact ⟨t2, st.trans a1, b1⟩
theorem vx_calll {S SX : Type} {post : Int64 → S → Prop} {px : SX → Prop} {B : S → State → Prop} {BX : String → SX → State → Prop} {AX : Nat → Prop} (hr : vx_Run p l e R s m args below meth c H locs cells slots mc ms (F0 m pc ls st0) rest (va_Ql post B A1 a) (vx_X px BX AX) free) (hS : va_S A0 H0 H locs) (hA : ∀ q, q < H.size → A1 q → A0 q) (hf : ∀ q, free q → A0 q) (hAX : ∀ q, q < H.size → AX q → A0 q)
    (kx : ∀ (E : String) (ce : Cell) (q9 : Addr) (u : SX) (t : State) (H1 : Heap) (locs1 : List Loc), t.heap = H1 → s.vm.Alike t.vm → px u → BX E u t → H.size ≤ H1.size → (∀ q : Nat, q < H.size → ¬ AX q → H1[q]? = H[q]?) → va_S A0 H0 H1 locs1 → H1[q9]? = some ce → ce.vm = .none → s.vm.findClass E = some ce.cls → vx_W p l e R s m args below meth c H1 locs1 (cells + mc) (slots + ms) Q (F0 m pc ls rest) q9)
    (kk : ∀ (r : Int64) (u : S) (t : State) (H1 : Heap) (locs1 : List Loc), t.heap = H1 → s.vm.Alike t.vm → post r u → B u t → H.size ≤ H1.size → (∀ q : Nat, q < H.size → ¬ A1 q → H1[q]? = H[q]?) → va_S A0 H0 H1 locs1 → W p l e R s m args below meth c H1 locs1 (cells + mc) (slots + ms) Q (F0 m (pc + 3) ls (.long r :: rest))) : W p l e R s m args below meth c H locs cells slots Q (F0 m pc ls st0) := by
  intro T hT X
  rcases hr T hT X with ⟨v, st₀, t, T', L, h0, X', hL, e1, e2, ⟨⟨r, u, hv, hp, hb⟩, hF⟩, st⟩ | ⟨q, st₀, t, T', L, E, ce, h0, X', hL, e1, e2, ⟨u, hp, hb, hF⟩, hce, hcv, hcl, st⟩
  · cases hv
    obtain ⟨k1, k2, k3⟩ := vx_keep h0 e1 hS hA hf hL hF
    obtain ⟨t2, a1, b1⟩ := kk r u t T'.heap (locs ++ L) e1.symm (by rw [← e2]; exact X'.warmed.alike) hp hb k1 k2 k3 T' rfl X'
    exact ⟨t2, st t2 a1, b1⟩
  · obtain ⟨k1, k2, k3⟩ := vx_keep h0 e1 hS hAX hf hL hF
    obtain ⟨t2, a1, b1⟩ := kx E ce q u t T'.heap (locs ++ L) e1.symm (by rw [← e2]; exact X'.warmed.alike) hp hb k1 k2 k3 (by rw [e1]; exact hce) hcv hcl T' rfl X'
    exact ⟨t2, st.trans a1, b1⟩
theorem vx_callf {S SX : Type} {post : UInt32 → S → Prop} {px : SX → Prop} {B : S → State → Prop} {BX : String → SX → State → Prop} {AX : Nat → Prop} (hr : vx_Run p l e R s m args below meth c H locs cells slots mc ms (F0 m pc ls st0) rest (va_Qf post B A1 a) (vx_X px BX AX) free) (hS : va_S A0 H0 H locs) (hA : ∀ q, q < H.size → A1 q → A0 q) (hf : ∀ q, free q → A0 q) (hAX : ∀ q, q < H.size → AX q → A0 q)
    (kx : ∀ (E : String) (ce : Cell) (q9 : Addr) (u : SX) (t : State) (H1 : Heap) (locs1 : List Loc), t.heap = H1 → s.vm.Alike t.vm → px u → BX E u t → H.size ≤ H1.size → (∀ q : Nat, q < H.size → ¬ AX q → H1[q]? = H[q]?) → va_S A0 H0 H1 locs1 → H1[q9]? = some ce → ce.vm = .none → s.vm.findClass E = some ce.cls → vx_W p l e R s m args below meth c H1 locs1 (cells + mc) (slots + ms) Q (F0 m pc ls rest) q9)
    (kk : ∀ (r : UInt32) (u : S) (t : State) (H1 : Heap) (locs1 : List Loc), t.heap = H1 → s.vm.Alike t.vm → post r u → B u t → H.size ≤ H1.size → (∀ q : Nat, q < H.size → ¬ A1 q → H1[q]? = H[q]?) → va_S A0 H0 H1 locs1 → W p l e R s m args below meth c H1 locs1 (cells + mc) (slots + ms) Q (F0 m (pc + 3) ls (.float r :: rest))) : W p l e R s m args below meth c H locs cells slots Q (F0 m pc ls st0) := by
  intro T hT X
  rcases hr T hT X with ⟨v, st₀, t, T', L, h0, X', hL, e1, e2, ⟨⟨r, u, hv, hp, hb⟩, hF⟩, st⟩ | ⟨q, st₀, t, T', L, E, ce, h0, X', hL, e1, e2, ⟨u, hp, hb, hF⟩, hce, hcv, hcl, st⟩
  · cases hv
    obtain ⟨k1, k2, k3⟩ := vx_keep h0 e1 hS hA hf hL hF
    obtain ⟨t2, a1, b1⟩ := kk r u t T'.heap (locs ++ L) e1.symm (by rw [← e2]; exact X'.warmed.alike) hp hb k1 k2 k3 T' rfl X'
    exact ⟨t2, st t2 a1, b1⟩
  · obtain ⟨k1, k2, k3⟩ := vx_keep h0 e1 hS hAX hf hL hF
    obtain ⟨t2, a1, b1⟩ := kx E ce q u t T'.heap (locs ++ L) e1.symm (by rw [← e2]; exact X'.warmed.alike) hp hb k1 k2 k3 (by rw [e1]; exact hce) hcv hcl T' rfl X'
    exact ⟨t2, st.trans a1, b1⟩
theorem vx_calld {S SX : Type} {post : UInt64 → S → Prop} {px : SX → Prop} {B : S → State → Prop} {BX : String → SX → State → Prop} {AX : Nat → Prop} (hr : vx_Run p l e R s m args below meth c H locs cells slots mc ms (F0 m pc ls st0) rest (va_Qd post B A1 a) (vx_X px BX AX) free) (hS : va_S A0 H0 H locs) (hA : ∀ q, q < H.size → A1 q → A0 q) (hf : ∀ q, free q → A0 q) (hAX : ∀ q, q < H.size → AX q → A0 q)
    (kx : ∀ (E : String) (ce : Cell) (q9 : Addr) (u : SX) (t : State) (H1 : Heap) (locs1 : List Loc), t.heap = H1 → s.vm.Alike t.vm → px u → BX E u t → H.size ≤ H1.size → (∀ q : Nat, q < H.size → ¬ AX q → H1[q]? = H[q]?) → va_S A0 H0 H1 locs1 → H1[q9]? = some ce → ce.vm = .none → s.vm.findClass E = some ce.cls → vx_W p l e R s m args below meth c H1 locs1 (cells + mc) (slots + ms) Q (F0 m pc ls rest) q9)
    (kk : ∀ (r : UInt64) (u : S) (t : State) (H1 : Heap) (locs1 : List Loc), t.heap = H1 → s.vm.Alike t.vm → post r u → B u t → H.size ≤ H1.size → (∀ q : Nat, q < H.size → ¬ A1 q → H1[q]? = H[q]?) → va_S A0 H0 H1 locs1 → W p l e R s m args below meth c H1 locs1 (cells + mc) (slots + ms) Q (F0 m (pc + 3) ls (.double r :: rest))) : W p l e R s m args below meth c H locs cells slots Q (F0 m pc ls st0) := by
  intro T hT X
  rcases hr T hT X with ⟨v, st₀, t, T', L, h0, X', hL, e1, e2, ⟨⟨r, u, hv, hp, hb⟩, hF⟩, st⟩ | ⟨q, st₀, t, T', L, E, ce, h0, X', hL, e1, e2, ⟨u, hp, hb, hF⟩, hce, hcv, hcl, st⟩
  · cases hv
    obtain ⟨k1, k2, k3⟩ := vx_keep h0 e1 hS hA hf hL hF
    obtain ⟨t2, a1, b1⟩ := kk r u t T'.heap (locs ++ L) e1.symm (by rw [← e2]; exact X'.warmed.alike) hp hb k1 k2 k3 T' rfl X'
    exact ⟨t2, st t2 a1, b1⟩
  · obtain ⟨k1, k2, k3⟩ := vx_keep h0 e1 hS hAX hf hL hF
    obtain ⟨t2, a1, b1⟩ := kx E ce q u t T'.heap (locs ++ L) e1.symm (by rw [← e2]; exact X'.warmed.alike) hp hb k1 k2 k3 (by rw [e1]; exact hce) hcv hcl T' rfl X'
    exact ⟨t2, st.trans a1, b1⟩
theorem vx_callv {S SX : Type} {post : S → Prop} {px : SX → Prop} {B : S → State → Prop} {BX : String → SX → State → Prop} {AX : Nat → Prop} (hr : vx_Run p l e R s m args below meth c H locs cells slots mc ms (F0 m pc ls st0) rest (va_Qv post B A1 a) (vx_X px BX AX) free) (hS : va_S A0 H0 H locs) (hA : ∀ q, q < H.size → A1 q → A0 q) (hf : ∀ q, free q → A0 q) (hAX : ∀ q, q < H.size → AX q → A0 q)
    (kx : ∀ (E : String) (ce : Cell) (q9 : Addr) (u : SX) (t : State) (H1 : Heap) (locs1 : List Loc), t.heap = H1 → s.vm.Alike t.vm → px u → BX E u t → H.size ≤ H1.size → (∀ q : Nat, q < H.size → ¬ AX q → H1[q]? = H[q]?) → va_S A0 H0 H1 locs1 → H1[q9]? = some ce → ce.vm = .none → s.vm.findClass E = some ce.cls → vx_W p l e R s m args below meth c H1 locs1 (cells + mc) (slots + ms) Q (F0 m pc ls rest) q9)
    (kk : ∀ (u : S) (t : State) (H1 : Heap) (locs1 : List Loc), t.heap = H1 → s.vm.Alike t.vm → post u → B u t → H.size ≤ H1.size → (∀ q : Nat, q < H.size → ¬ A1 q → H1[q]? = H[q]?) → va_S A0 H0 H1 locs1 → W p l e R s m args below meth c H1 locs1 (cells + mc) (slots + ms) Q (F0 m (pc + 3) ls (rest))) : W p l e R s m args below meth c H locs cells slots Q (F0 m pc ls st0) := by
  intro T hT X
  rcases hr T hT X with ⟨v, st₀, t, T', L, h0, X', hL, e1, e2, ⟨⟨u, hv, hp, hb⟩, hF⟩, st⟩ | ⟨q, st₀, t, T', L, E, ce, h0, X', hL, e1, e2, ⟨u, hp, hb, hF⟩, hce, hcv, hcl, st⟩
  · cases hv
    obtain ⟨k1, k2, k3⟩ := vx_keep h0 e1 hS hA hf hL hF
    obtain ⟨t2, a1, b1⟩ := kk u t T'.heap (locs ++ L) e1.symm (by rw [← e2]; exact X'.warmed.alike) hp hb k1 k2 k3 T' rfl X'
    exact ⟨t2, st t2 a1, b1⟩
  · obtain ⟨k1, k2, k3⟩ := vx_keep h0 e1 hS hAX hf hL hF
    obtain ⟨t2, a1, b1⟩ := kx E ce q u t T'.heap (locs ++ L) e1.symm (by rw [← e2]; exact X'.warmed.alike) hp hb k1 k2 k3 (by rw [e1]; exact hce) hcv hcl T' rfl X'
    exact ⟨t2, st.trans a1, b1⟩
/-- caught by the row x of this method's table; the rows ahead don't take it -/
theorem vx_catch {own name : String} {E : String} {ce : Cell} {q : Addr} (hown : s.vm.findClass own = some m.cls) (pre : List ExceptionTableEntry) (x : ExceptionTableEntry) (suf : List ExceptionTableEntry) (hsplit : c.exceptionTable.toList = pre ++ x :: suf)
    (hpass : ∀ z ∈ pre, covers z pc = false ∨ (z.catchType ≠ 0 ∧ ∃ nm : String, (Cond.classLink own z.catchType nm).before args s = true ∧ va_Nc E nm s)) (hx : covers x pc = true) (h0 : x.catchType ≠ 0)
    (hlink : (Cond.classLink own x.catchType name).before args s = true) (hcast : (Cond.castable E name).before args s = true) (hcell : H[q]? = some ce) (hv : ce.vm = .none) (hcl : s.vm.findClass E = some ce.cls)
    (kk : W p l e R s m args below meth c H locs cells slots Q (F0 m x.handlerPc ls [.ref q])) : vx_W p l e R s m args below meth c H locs cells slots Q (F0 m pc ls rest) q := by
  intro T hT X
  have hpl : e.platform.magicAccessors = ({} : Platform).magicAccessors := by rw [X.admits.platform]
  obtain ⟨c3, c4, hc3, hc4, hasg⟩ := Cond.castable_spec hcast
  cases Option.some.inj (hc3.symm.trans hcl)
  obtain ⟨c5, hc5, hcl5⟩ := Cond.classLink_spec hown hlink e.platform hpl
  cases Option.some.inj (hc4.symm.trans hc5)
  obtain ⟨vm', X', st⟩ := X.thenCaughtThrough q (g := F0 m pc ls rest) rfl (Steps.refl _) (by rw [hT]; exact hcell) (by rw [hv]; rfl) (by obtain ⟨k9, h9, -⟩ := Vm.findClass_spec hcl; exact ⟨k9, h9⟩) pre x suf hsplit
    (fun z hz => by
      rcases hpass z hz with h | ⟨hz0, nm, hl1, hn1⟩
      · exact Or.inl h
      · obtain ⟨c6, hc6, hcl6⟩ := Cond.classLink_spec hown hl1 e.platform hpl
        obtain ⟨a8, b8, h1, h2, h3⟩ := hn1
        cases Option.some.inj (h1.symm.trans hcl)
        cases Option.some.inj (h2.symm.trans hc6)
        exact Or.inr ⟨hz0, _, hcl6, h3⟩) hx (Or.inr ⟨h0, c4, hcl5, hasg⟩)
  obtain ⟨t, a1, b1⟩ := kk (T.setVm vm') hT X'
  exact ⟨t, st.trans a1, b1⟩
end Rows
section Ends
variable {p : Program} {l : Launch} {e : Env} {R : Room} {s : State} {m : MethodId} {args : Array Value} {below : List Frame} {meth : Method} {c : Code} {H : Heap} {locs : List Loc} {cells slots : Nat} {Q : State → Prop}
variable {mc ms : Nat} {free : Addr → Prop} {A0 A1 : Nat → Prop} {H0 : Heap} {a : Array Value} {ls : Array Slot} {st0 rest : List Value}
variable {Qc : Array Value → State → Outcome → State → Prop} {XC : String → State → State → Prop}
/-- what a body that may throw owes at its end -/
def vx_MQ (below : List Frame) (Qc : Array Value → State → Outcome → State → Prop) (XC : String → State → State → Prop) (a : Array Value) (s : State) (mc ms : Nat) (free : Addr → Prop) : State → Prop := fun t =>
  ∃ o, t.status = .running ∧ Ended t below o ∧ vx_Q Qc XC mc ms free a s o t
theorem vx_ret {g : JFrame} {mc ms : Nat} (k : W p l e R s m args below meth c H locs cells slots (MQ below Qc args s mc ms free) g) : W p l e R s m args below meth c H locs cells slots (vx_MQ below Qc XC args s mc ms free) g := by
  intro T hT X
  obtain ⟨t, a1, o, b1, b2, b3, b4⟩ := k T hT X
  exact ⟨t, a1, o, b1, b2, Or.inl ⟨b3, b4⟩⟩
/-- not caught here: it goes on to the caller -/
theorem vx_widen {g : JFrame} {q : Addr} {k n : Nat} (h1 : cells ≤ k) (h2 : slots ≤ n) (kk : vx_W p l e R s m args below meth c H locs k n Q g q) : vx_W p l e R s m args below meth c H locs cells slots Q g q := fun T hT X => kk T hT (stand_widen X h1 h2)
theorem vx_out {pc : Nat} {E : String} {ce : Cell} {q : Addr} {mc ms : Nat} (hout : ∀ x ∈ c.exceptionTable.toList, covers x pc = false) (hlocks : meth.locks = false) (hcell : H[q]? = some ce) (hv : ce.vm = .none) (hcl : s.vm.findClass E = some ce.cls)
    (hx : ∀ t : State, t.heap = H → s.vm.Alike t.vm → XC E s t) (hf : ∀ z ∈ locs, free z.base) (hc : cells ≤ mc) (hs : slots ≤ ms) :
    vx_W p l e R s m args below meth c H locs cells slots (vx_MQ below Qc XC args s mc ms free) (F0 m pc ls rest) q := by
  intro T hT X
  obtain ⟨st1, hrun, hend, hW, hsm⟩ := X.leaveThrown q (g := F0 m pc ls rest) rfl rfl rfl hout hlocks
  have hcell9 : (T.setFrames (.throwing q :: below)).heap[q]? = some ce := by
    show T.heap[q]? = some ce
    rw [hT]; exact hcell
  exact ⟨_, st1, .threw q, hrun, hend, Or.inr ⟨q, rfl, E, ce, locs, hx _ hT hW.alike, hcell9, hv, hcl, hW, hsm.mono hc hs, hf⟩⟩
theorem vx_frame {U : State} {k n : Nat} (h : s.sameButNew ({ U with vm := s.vm } : State) locs k n) : s.heap.size ≤ U.heap.size ∧ ∀ q : Nat, q < s.heap.size → (∀ z ∈ locs, z.base ≠ q) → U.heap[q]? = s.heap[q]? := by
  obtain ⟨-, h2, -, -, -, h6⟩ := h
  refine ⟨h2, fun q hq hz => ?_⟩
  obtain ⟨c9, e1, e2, e3, e4⟩ := h6 q _ (Array.getElem?_eq_getElem hq)
  have hs : c9.slots = (s.heap[q]).slots := Array.ext_getElem? fun i => e4 i fun hm => hz _ hm rfl
  have h9 : c9 = s.heap[q] := by
    rw [hs] at e2
    exact e2
  have e5 : U.heap[q]? = some c9 := e1
  rw [e5, h9, Array.getElem?_eq_getElem hq]
/-- the words of a throw but the four that speak of the heap -/
def vx_no (w : Cond) : Bool := decide (w ≠ .isRef (.static Bundle.tN "UNASSIGNED_STACK" Bundle.steD)) && decide (w ≠ .isRef (.static Bundle.tN "SUPPRESSED_SENTINEL" Bundle.listD)) && decide (w ≠ .laysStatic Bundle.tN "UNASSIGNED_STACK" Bundle.steD) && decide (w ≠ .laysStatic Bundle.tN "SUPPRESSED_SENTINEL" Bundle.listD)
def vx_at0 (own : String) (ic : Nat) (X : String) (names : List String) : List Cond := (Bundle.ownAtoms0 own ic X names).filter vx_no
def vx_atS (own : String) (ic : Nat) (X : String) (names : List String) : List Cond := (Bundle.ownAtoms own ic X names).filter vx_no
/-- a word that the tables alone decide, or a good one -/
def vx_ot (w : Cond) : Bool := w.onTables || goodWord w
theorem vx_ot_at {args a' : Array Value} {s U : State} {w : Cond} (hW : s.WarmedH U.vm) (hvm : s.vm = U.vm) (hg : vx_ot w = true) (h : w.before args s = true) : w.before a' U = true := by
  simp only [vx_ot, Bool.or_eq_true] at hg
  rcases hg with hg | hg
  · exact va_tabs hg hvm h
  · exact word_at hW (good_of_word hg) h
/-- a list's words: the good ones out of the method's own list, the others by premises of their own -/
theorem vx_hat {args : Array Value} {s : State} {L B : List Cond} (h1 : ∀ w ∈ L.filter goodWord, w.before args s = true) (h2 : ∀ w ∈ L.filter (fun w => !goodWord w), w ∈ B) (h3 : ∀ w ∈ B, w.before args s = true) : ∀ w ∈ L, w.before args s = true := by
  intro w hw
  by_cases g : goodWord w = true
  · exact h1 w (List.mem_filter.mpr ⟨hw, g⟩)
  · refine h3 w (h2 w (List.mem_filter.mpr ⟨hw, ?_⟩))
    show (!goodWord w) = true
    cases hgw : goodWord w
    · rfl
    · exact absurd hgw g
theorem vx_c {args : Array Value} {s : State} {w : Cond} {B : List Cond} (h : w.before args s = true) (t : ∀ w ∈ B, w.before args s = true) : ∀ w' ∈ w :: B, w'.before args s = true := fun w' h' => (List.mem_cons.mp h').elim (fun e => by rw [e]; exact h) (t w')
theorem vx_n {args : Array Value} {s : State} : ∀ w ∈ ([] : List Cond), w.before args s = true := fun _ h => nomatch h
theorem vx_own {args : Array Value} {s : State} {L : List Cond} (h1 : ∀ w ∈ L.filter vx_no, w.before args s = true)
    (hU : (Cond.isRef (.static Bundle.tN "UNASSIGNED_STACK" Bundle.steD)).before args s = true) (hN : (Cond.isRef (.static Bundle.tN "SUPPRESSED_SENTINEL" Bundle.listD)).before args s = true)
    (lU : (Cond.laysStatic Bundle.tN "UNASSIGNED_STACK" Bundle.steD).before args s = true) (lN : (Cond.laysStatic Bundle.tN "SUPPRESSED_SENTINEL" Bundle.listD).before args s = true) : ∀ w ∈ L, w.before args s = true := by
  intro w hw
  by_cases e1 : w = .isRef (.static Bundle.tN "UNASSIGNED_STACK" Bundle.steD)
  · rw [e1]; exact hU
  · by_cases e2 : w = .isRef (.static Bundle.tN "SUPPRESSED_SENTINEL" Bundle.listD)
    · rw [e2]; exact hN
    · by_cases e3 : w = .laysStatic Bundle.tN "UNASSIGNED_STACK" Bundle.steD
      · rw [e3]; exact lU
      · by_cases e4 : w = .laysStatic Bundle.tN "SUPPRESSED_SENTINEL" Bundle.listD
        · rw [e4]; exact lN
        · exact h1 w (List.mem_filter.mpr ⟨hw, by unfold vx_no; rw [decide_eq_true e1, decide_eq_true e2, decide_eq_true e3, decide_eq_true e4]; rfl⟩)
/-- where a static field lies, its class's statics cell in H -/
def vx_L (C n d : String) (A : Nat → Prop) (U : State) (H : Heap) : Prop := ∃ (c : ClassId) (k : Class) (i : Nat) (f : Field) (a : Nat) (cell : Cell), U.vm.findClass C = some c ∧ U.fieldFound? C n d = some (c, k, i, f) ∧ f.isStatic = true ∧ k.statics = some a ∧ H[a]? = some cell ∧ cell.vm.isStatics = true ∧ cell.cls = c ∧ f.slot < cell.slots.size ∧ k.staticTypes[f.slot]? = some f.type ∧ ¬ A a
theorem vx_L.moved {C n d : String} {A : Nat → Prop} {u U : State} {H : Heap} (hvm : u.vm.Alike U.vm) (h : vx_L C n d A u H) : vx_L C n d A U H := by
  obtain ⟨c, k, i, f, a, cell, h1, h2, h3, h4, h5, h6, h7, h8, h9, h10⟩ := h
  obtain ⟨k', hi', he⟩ := State.fieldFound?_setVm hvm h2
  exact ⟨c, k', i, f, a, cell, by rw [hvm.findClass]; exact h1, hi', h3, by rw [he]; exact h4, h5, h6, h7, h8, by rw [he]; exact h9, h10⟩
theorem vx_L.kept {C n d : String} {A : Nat → Prop} {U : State} {H H1 : Heap} (h : vx_L C n d A U H) (hq : ∀ a : Nat, a < H.size → ¬ A a → H1[a]? = H[a]?) : vx_L C n d A U H1 := by
  obtain ⟨c, k, i, f, a, cell, h1, h2, h3, h4, h5, h6, h7, h8, h9, h10⟩ := h
  exact ⟨c, k, i, f, a, cell, h1, h2, h3, h4, by rw [hq a (Array.getElem?_eq_some_iff.mp h5).1 h10]; exact h5, h6, h7, h8, h9, h10⟩
theorem vx_L.narrow {C n d : String} {A B : Nat → Prop} {U : State} {H : Heap} (h : vx_L C n d A U H) (hAB : ∀ q, B q → A q) : vx_L C n d B U H := by
  obtain ⟨c, k, i, f, a, cell, h1, h2, h3, h4, h5, h6, h7, h8, h9, h10⟩ := h
  exact ⟨c, k, i, f, a, cell, h1, h2, h3, h4, h5, h6, h7, h8, h9, fun z => h10 (hAB _ z)⟩
theorem vx_L.word {C n d : String} {A : Nat → Prop} {s : State} {args : Array Value} (h : vx_L C n d A s s.heap) : (Cond.laysStatic C n d).before args s = true := by
  obtain ⟨c, k, i, f, a, cell, h1, h2, h3, h4, h5, h6, h7, h8, h9, -⟩ := h
  show (Cond.laysStatic C n d).holds args s none s [] = true
  exact Cond.laysStatic_of h1 h2 h3 h4 h5 h6 h7 h8 h9
/-- .. and what it holds: null or some reference -/
def vx_Zq (C n d : String) (A : Nat → Prop) (U : State) (H : Heap) : Prop := va_Zq C n d A U H ∧ vx_L C n d A U H
theorem vx_Zq.moved {C n d : String} {A : Nat → Prop} {u U : State} {H : Heap} (hvm : u.vm.Alike U.vm) (h : vx_Zq C n d A u H) : vx_Zq C n d A U H := ⟨va_Zq.moved hvm h.1, vx_L.moved hvm h.2⟩
theorem vx_Zq.kept {C n d : String} {A : Nat → Prop} {U : State} {H H1 : Heap} (h : vx_Zq C n d A U H) (hq : ∀ a : Nat, a < H.size → ¬ A a → H1[a]? = H[a]?) : vx_Zq C n d A U H1 := ⟨va_Zq.kept h.1 hq, vx_L.kept h.2 hq⟩
theorem vx_Zq.narrow {C n d : String} {A B : Nat → Prop} {U : State} {H : Heap} (h : vx_Zq C n d A U H) (hAB : ∀ q, B q → A q) : vx_Zq C n d B U H := ⟨va_Zq.narrow h.1 hAB, vx_L.narrow h.2 hAB⟩
theorem vx_Zqof {args : Array Value} {s : State} {C n d : String} {A : Nat → Prop} (hl : (Cond.laysStatic C n d).before args s = true) (hini : (Cond.initialized C).before args s = true) (h : (Cond.isRef (.static C n d)).before args s = true) (hA : ∀ a : Nat, a < s.heap.size → ¬ A a) : vx_Zq C n d A s s.heap := by
  refine ⟨va_Zqof hl hini h hA, ?_⟩
  obtain ⟨c, k, i, f, a, cell, h1, h2, h3, h4, h5, h6, h7, h8, h9⟩ := Cond.laysStatic_spec hl
  exact ⟨c, k, i, f, a, cell, h1, h2, h3, h4, h5, h6, h7, h8, h9, hA a (Array.getElem?_eq_some_iff.mp h5).1⟩
theorem vx_isRef {C n d : String} {v : Value} {A : Nat → Prop} {s : State} {args : Array Value} (h : va_Z C n d v A s s.heap) (hv : v.isRef = true) : (Cond.isRef (.static C n d)).before args s = true := by
  obtain ⟨cf, kf, fi, f, a, cell, h1, h2, h3, h4, h5, h6, h7, -⟩ := h
  have he : (Term.static C n d).eval args s none [] s = some v := by
    simp [Term.eval, State.fieldNamed?, h1, h2, h4, h5, h6, h7]
  simp only [Cond.before, Cond.holds, Cond.value, he]
  cases v <;> simp_all [Value.isRef]
theorem vx_isRefq {C n d : String} {A : Nat → Prop} {s : State} {args : Array Value} (h : va_Zq C n d A s s.heap) : (Cond.isRef (.static C n d)).before args s = true := by
  rcases h with h | ⟨t, h⟩
  · exact vx_isRef h rfl
  · exact vx_isRef h rfl
/-- the same frame, seen from here: as if the method were called anew in this heap -/
theorem vx_rebase {T : State} (X : Stand p l e R s m args below meth c T locs cells slots) {R' : Room} (hf : R'.frames ≤ R.frames) (hl : R'.locals ≤ R.locals) (hc : cells + R'.cells ≤ R.cells) (hs : slots + R'.slots ≤ R.slots) :
    Stand p l e R' ((T.setVm s.vm).setFrames (.invoking m args :: below)) m args below meth c T [] 0 0 := by
  have htop : (T.setVm s.vm).topJava?.isSome := X.here.top
  have hF : ((T.setVm s.vm).setFrames (.invoking m args :: below)).frames = .invoking m args :: below := State.frames_setFrames _ (State.cur_lt_of_top htop)
  obtain ⟨g₀, hg0⟩ := Option.isSome_iff_exists.mp htop
  obtain ⟨r, hr⟩ := State.topJava?_eq_some.mp hg0
  have hl9 : e.platform.stackLimits (T.setVm s.vm).me = e.platform.stackLimits s.me := X.limits
  have hb9 : (T.setVm s.vm).me.stackBytes = s.me.stackBytes := X.bytes
  refine ⟨X.admits, X.cas, X.clock, hF, ?_, X.hears, X.method, X.code, X.here, X.tail, X.warmed, ?_, ?_, ?_⟩
  · have h := X.room
    have hU : ((T.setVm s.vm).setFrames (.invoking m args :: below)).localsInUse = s.localsInUse := by
      rw [State.localsInUse_invoking hF (meth := meth) (c := c) X.method X.code, State.localsInUse_invoking X.frames X.method X.code]
    simp only [State.hasRoom, Bool.and_eq_true, decide_eq_true_eq] at h ⊢
    obtain ⟨⟨⟨⟨h1, h2, h3, h4, h5, h6⟩, h7⟩, h8⟩, h9⟩ := h
    rw [X.frames, List.length_cons] at h2 h3
    have q1 := X.heapSize
    have q2 := X.used
    simp only [hF, hU, List.length_cons, State.stackLimits_setFrames, State.stackBytes_setFrames, hl9, hb9]
    refine ⟨⟨⟨⟨by omega, by omega, by omega, by omega, by omega, h6⟩, ?_⟩, ?_⟩, X.book⟩
    · show T.heap.size + R'.cells ≤ e.platform.maxCells
      omega
    · show T.slotsUsed + R'.slots ≤ e.platform.maxSlots
      omega
  · rw [State.stackLimits_setFrames]; rfl
  · rw [State.stackBytes_setFrames]; rfl
  · refine ⟨?_, Nat.le_refl _, Nat.le_refl _, ?_, ?_, fun a c9 h9 => ⟨c9, h9, rfl, rfl, fun _ _ => rfl⟩⟩
    · obtain ⟨t, ht, -⟩ := State.frames_cons hr
      show T.setVm s.vm = { ((T.setVm s.vm).setFrames (.invoking m args :: below)).setFrames (T.setVm s.vm).frames with heap := T.heap, slotsUsed := T.slotsUsed }
      rw [State.setFrames_setFrames, State.setFrames_self ht]
      rfl
    · show T.slotsUsed = T.slotsUsed + ((T.heap.toList.drop T.heap.size).map (·.slots.size)).sum
      rw [List.drop_eq_nil_of_le (Nat.le_of_eq Array.length_toList)]
      rfl
    · show ((T.heap.toList.drop T.heap.size).map (·.slots.size)).sum ≤ 0
      rw [List.drop_eq_nil_of_le (Nat.le_of_eq Array.length_toList)]
      exact Nat.le_refl _
/-- 'throw new E()': new; dup; invokespecial; athrow -/
theorem vx_throw0 {cc : ByteArray} {pc : Nat} (hexec : p.tables.exec = Jvm.exec) (hb : c.code = cc) (hl : l.stackTraces = false) {own cls : String} {names : List String} {ik ic mc ms : Nat} {A : Nat → Prop}
    (hown : s.vm.findClass own = some m.cls) (hcls : Bundle.fit cls = true) (hnames : ∀ n ∈ names, Bundle.fit n = true)
    (hk : (Cond.classLink own ik cls).before args s = true) (hini : (Cond.initialized cls).before args s = true) (hat : ∀ w ∈ vx_at0 own ic cls names, w.before args s = true)
    (hgood : ∀ w ∈ Cond.classLink own ik cls :: Cond.initialized cls :: vx_at0 own ic cls names, vx_ot w = true)
    (hU : vx_Zq Bundle.tN "UNASSIGNED_STACK" Bundle.steD A s s.heap) (hN : vx_Zq Bundle.tN "SUPPRESSED_SENTINEL" Bundle.listD A s s.heap) (hS : va_S A s.heap H locs) (hsize : ls.size = c.maxLocals)
    (d0 : decode cc pc = .ok (.new ik, 3)) (d3 : decode cc (pc + 3) = .ok (.dup, 1)) (d4 : decode cc (pc + 4) = .ok (.invokespecial ic, 3)) (d7 : decode cc (pc + 7) = .ok (.athrow, 1))
    (hout : ∀ x ∈ c.exceptionTable.toList, covers x (pc + 7) = false)
    (hRframes : names.length + 3 < R.frames) (hRlocals : (rest.map fun v => v.category).sum + (13 * (names.length + 1) + 42) ≤ R.locals) (hRcells : cells + 1 ≤ R.cells) (hRslots : slots + 6 ≤ R.slots) (hlocks : meth.locks = false)
    (hx : ∀ t : State, s.vm.Alike t.vm → H.size ≤ t.heap.size → (∀ q : Nat, q < H.size → t.heap[q]? = H[q]?) → XC cls s t)
    (hf : ∀ z ∈ locs, free z.base) (hc : cells + 1 ≤ mc) (hs : slots + 6 ≤ ms) :
    W p l e R s m args below meth c H locs cells slots (vx_MQ below Qc XC args s mc ms free) (F0 m pc ls rest) := by
  intro T hT X
  have htr : e.platform.stackTraces = false := (show e.platform.stackTraces = l.stackTraces by rw [X.admits.platform]).trans hl
  have Y := vx_rebase X (R' := { frames := R.frames, locals := R.locals, cells := 1, slots := 6 }) (Nat.le_refl _) (Nat.le_refl _) hRcells hRslots
  obtain ⟨s', hA⟩ : ∃ z, z = (T.setVm s.vm).setFrames (.invoking m args :: below) := ⟨_, rfl⟩
  rw [← hA] at Y
  have hvm : s'.vm = s.vm := by rw [hA]; rfl
  have hhp : s'.heap = H := by rw [hA]; exact hT
  have hW0 : s.WarmedH s'.vm := by rw [hvm]; exact State.WarmedH.refl s
  have hat' : ∀ w ∈ vx_at0 own ic cls names, w.before args s' = true := fun w hw => vx_ot_at hW0 hvm.symm (hgood w (List.mem_cons_of_mem _ (List.mem_cons_of_mem _ hw))) (hat w hw)
  have hk' : (Cond.classLink own ik cls).before args s' = true := vx_ot_at hW0 hvm.symm (hgood _ List.mem_cons_self) hk
  have hini' : (Cond.initialized cls).before args s' = true := vx_ot_at hW0 hvm.symm (hgood _ (List.mem_cons_of_mem _ List.mem_cons_self)) hini
  have hU' : vx_Zq Bundle.tN "UNASSIGNED_STACK" Bundle.steD A s' s'.heap := by rw [hhp]; exact vx_Zq.moved hW0.alike (hU.kept hS.2.1)
  have hN' : vx_Zq Bundle.tN "SUPPRESSED_SENTINEL" Bundle.listD A s' s'.heap := by rw [hhp]; exact vx_Zq.moved hW0.alike (hN.kept hS.2.1)
  have h : ∀ w ∈ Bundle.ownAtoms0 own ic cls names, w.before args s' = true := vx_own hat' (vx_isRefq hU'.1) (vx_isRefq hN'.1) hU'.2.word hN'.2.word
  have hown' : s'.vm.findClass own = some m.cls := by rw [hvm]; exact hown
  have hins : (Cond.instantiable cls 6).before args s' = true := h _ (by simp [Bundle.ownAtoms0])
  obtain ⟨vm₁, cX, kX, hfX, hkX, -, -, X₁, st1⟩ := Y.newCold hexec (own := own) (C := cls) (index := ik) (n := 6) hown' hk' hins hini'
    (g := F0 m pc ls rest) rfl (by rw [hb]; exact d0) (Nat.le_refl _) (Nat.le_refl _)
  generalize hT1 : (T.setVm vm₁).pushCell { cls := cX, slots := kX.instanceTypes.map defaultValue, vm := .none } = T1 at X₁ st1
  have hcat : (Value.ref T.heap.size).category = 1 := rfl
  have hcellA : T1.heap[T.heap.size]? = some (freshCell cX kX) := by rw [← hT1]; exact State.heap_pushCell_size _ _
  have d3' : decode c.code (pc + 3) = .ok (.dup, 1) := by rw [hb]; exact d3
  obtain ⟨U, hsteps, hrun, hend, hW, hsame, ce, hce, hO⟩ := X₁.ctorThrow0 hexec htr (own := own) (cls := cls) (names := names) (ic := ic) hown' hcls hnames h (fun x hx => nomatch hx) hfX hkX hcellA (by rw [hhp, hT]; exact Nat.le_refl _)
    (g := { method := m, pc := pc + 4, locals := ls, stack := .ref T.heap.size :: .ref T.heap.size :: rest, locked := none }) rfl hsize rfl rfl (rest := rest) rfl
    (by rw [hb]; exact d4) (by rw [hb]; exact d7) hout hRframes (by simp only [List.map_cons, List.sum_cons, hcat]; omega) hlocks
  obtain ⟨f1, f2⟩ := vx_frame hsame
  rw [hhp] at f1 f2
  have hWs : s.WarmedH U.vm := State.WarmedH.trans hW0 hW
  have hcl : s.vm.findClass cls = some ce.cls := by
    have h9 := hO.cls
    rw [hvm] at h9
    exact h9
  have hall : s.sameButNew ({ U with vm := s.vm } : State) locs mc ms := by
    subst hA
    obtain ⟨e1, e2⟩ := hsame
    rw [State.setFrames_setFrames] at e1
    have h2 : (T.setVm s.vm).sameButNew ({ U with vm := s.vm } : State) [] (0 + 1) (0 + 6) := ⟨e1, e2⟩
    have h3 := X.same.trans h2
    rw [List.append_nil] at h3
    exact h3.mono hc hs
  refine ⟨U, ?_, .threw T.heap.size, hrun, hend, Or.inr ⟨T.heap.size, rfl, cls, ce, locs, hx U hWs.alike f1 (fun q hq => f2 q hq (fun z hz => nomatch hz)), hce, hO.vm, hcl, hWs, hall, hf⟩⟩
  refine st1 _ ?_
  show Steps p.tables e below (T1.setTop { method := m, pc := pc + 3, locals := ls, stack := .ref T.heap.size :: rest, locked := none }) _
  jvm_step X₁.here [X₁.here.top, hexec, d3', Value.category]
  exact hsteps
/-- 'throw new E("text")': new; dup; ldc; invokespecial; athrow -/
theorem vx_throwS {cc : ByteArray} {pc : Nat} (hexec : p.tables.exec = Jvm.exec) (hb : c.code = cc) (hl : l.stackTraces = false) {own cls text : String} {names : List String} {ik is ic mc ms sa : Nat} {A : Nat → Prop}
    (hown : s.vm.findClass own = some m.cls) (hcls : Bundle.fit cls = true) (hnames : ∀ n ∈ names, Bundle.fit n = true)
    (hk : (Cond.classLink own ik cls).before args s = true) (hini : (Cond.initialized cls).before args s = true) (hstr : vk_R own is text sa s) (hat : ∀ w ∈ vx_atS own ic cls names, w.before args s = true)
    (hgood : ∀ w ∈ Cond.classLink own ik cls :: Cond.initialized cls :: vx_atS own ic cls names, vx_ot w = true)
    (hU : vx_Zq Bundle.tN "UNASSIGNED_STACK" Bundle.steD A s s.heap) (hN : vx_Zq Bundle.tN "SUPPRESSED_SENTINEL" Bundle.listD A s s.heap) (hS : va_S A s.heap H locs) (hsize : ls.size = c.maxLocals)
    (d0 : decode cc pc = .ok (.new ik, 3)) (d3 : decode cc (pc + 3) = .ok (.dup, 1)) (d4 : decode cc (pc + 4) = .ok (.ldc is, 2)) (d6 : decode cc (pc + 6) = .ok (.invokespecial ic, 3)) (d9 : decode cc (pc + 9) = .ok (.athrow, 1))
    (hout : ∀ x ∈ c.exceptionTable.toList, covers x (pc + 9) = false)
    (hRframes : names.length + 3 < R.frames) (hRlocals : (rest.map fun v => v.category).sum + (13 * (names.length + 1) + 43) ≤ R.locals) (hRcells : cells + 1 ≤ R.cells) (hRslots : slots + 6 ≤ R.slots) (hlocks : meth.locks = false)
    (hx : ∀ t : State, s.vm.Alike t.vm → H.size ≤ t.heap.size → (∀ q : Nat, q < H.size → t.heap[q]? = H[q]?) → XC cls s t)
    (hf : ∀ z ∈ locs, free z.base) (hc : cells + 1 ≤ mc) (hs : slots + 6 ≤ ms) :
    W p l e R s m args below meth c H locs cells slots (vx_MQ below Qc XC args s mc ms free) (F0 m pc ls rest) := by
  intro T hT X
  have htr : e.platform.stackTraces = false := (show e.platform.stackTraces = l.stackTraces by rw [X.admits.platform]).trans hl
  have Y := vx_rebase X (R' := { frames := R.frames, locals := R.locals, cells := 1, slots := 6 }) (Nat.le_refl _) (Nat.le_refl _) hRcells hRslots
  obtain ⟨s', hA⟩ : ∃ z, z = (T.setVm s.vm).setFrames (.invoking m args :: below) := ⟨_, rfl⟩
  rw [← hA] at Y
  have hvm : s'.vm = s.vm := by rw [hA]; rfl
  have hhp : s'.heap = H := by rw [hA]; exact hT
  have hW0 : s.WarmedH s'.vm := by rw [hvm]; exact State.WarmedH.refl s
  have hat' : ∀ w ∈ vx_atS own ic cls names, w.before args s' = true := fun w hw => vx_ot_at hW0 hvm.symm (hgood w (List.mem_cons_of_mem _ (List.mem_cons_of_mem _ hw))) (hat w hw)
  have hk' : (Cond.classLink own ik cls).before args s' = true := vx_ot_at hW0 hvm.symm (hgood _ List.mem_cons_self) hk
  have hini' : (Cond.initialized cls).before args s' = true := vx_ot_at hW0 hvm.symm (hgood _ (List.mem_cons_of_mem _ List.mem_cons_self)) hini
  have hU' : vx_Zq Bundle.tN "UNASSIGNED_STACK" Bundle.steD A s' s'.heap := by rw [hhp]; exact vx_Zq.moved hW0.alike (hU.kept hS.2.1)
  have hN' : vx_Zq Bundle.tN "SUPPRESSED_SENTINEL" Bundle.listD A s' s'.heap := by rw [hhp]; exact vx_Zq.moved hW0.alike (hN.kept hS.2.1)
  have h : ∀ w ∈ Bundle.ownAtoms own ic cls names, w.before args s' = true := vx_own hat' (vx_isRefq hU'.1) (vx_isRefq hN'.1) hU'.2.word hN'.2.word
  have hown' : s'.vm.findClass own = some m.cls := by rw [hvm]; exact hown
  have hins : (Cond.instantiable cls 6).before args s' = true := h _ (by simp [Bundle.ownAtoms])
  obtain ⟨vm₁, cX, kX, hfX, hkX, -, -, X₁, st1⟩ := Y.newCold hexec (own := own) (C := cls) (index := ik) (n := 6) hown' hk' hins hini'
    (g := F0 m pc ls rest) rfl (by rw [hb]; exact d0) (Nat.le_refl _) (Nat.le_refl _)
  generalize hT1 : (T.setVm vm₁).pushCell { cls := cX, slots := kX.instanceTypes.map defaultValue, vm := .none } = T1 at X₁ st1
  have hcat : (Value.ref T.heap.size).category = 1 := rfl
  have hcellA : T1.heap[T.heap.size]? = some (freshCell cX kX) := by rw [← hT1]; exact State.heap_pushCell_size _ _
  have d3' : decode c.code (pc + 3) = .ok (.dup, 1) := by rw [hb]; exact d3
  have d4' : decode c.code (pc + 4) = .ok (.ldc is, 2) := by rw [hb]; exact d4
  have hstr' : vk_R own is text sa s' := vk_R.warm hW0 hstr
  obtain ⟨U, hsteps, hrun, hend, hW, hsame, ce, hce, hO⟩ := X₁.ctorThrowS hexec htr (own := own) (cls := cls) (names := names) (ic := ic) hown' hcls hnames h (fun x hx => nomatch hx) hfX hkX hcellA (by rw [hhp, hT]; exact Nat.le_refl _) (msg := .ref sa) rfl
    (g := { method := m, pc := pc + 6, locals := ls, stack := .ref sa :: .ref T.heap.size :: .ref T.heap.size :: rest, locked := none }) rfl hsize rfl rfl (rest := rest) rfl
    (by rw [hb]; exact d6) (by rw [hb]; exact d9) hout hRframes (by simp only [List.map_cons, List.sum_cons, hcat]; omega) hlocks
  obtain ⟨f1, f2⟩ := vx_frame hsame
  rw [hhp] at f1 f2
  have hWs : s.WarmedH U.vm := State.WarmedH.trans hW0 hW
  have hcl : s.vm.findClass cls = some ce.cls := by
    have h9 := hO.cls
    rw [hvm] at h9
    exact h9
  have hall : s.sameButNew ({ U with vm := s.vm } : State) locs mc ms := by
    subst hA
    obtain ⟨e1, e2⟩ := hsame
    rw [State.setFrames_setFrames] at e1
    have h2 : (T.setVm s.vm).sameButNew ({ U with vm := s.vm } : State) [] (0 + 1) (0 + 6) := ⟨e1, e2⟩
    have h3 := X.same.trans h2
    rw [List.append_nil] at h3
    exact h3.mono hc hs
  refine ⟨U, ?_, .threw T.heap.size, hrun, hend, Or.inr ⟨T.heap.size, rfl, cls, ce, locs, hx U hWs.alike f1 (fun q hq => f2 q hq (fun z hz => nomatch hz)), hce, hO.vm, hcl, hWs, hall, hf⟩⟩
  refine st1 _ ?_
  show Steps p.tables e below (T1.setTop { method := m, pc := pc + 3, locals := ls, stack := .ref T.heap.size :: rest, locked := none }) _
  jvm_step X₁.here [X₁.here.top, hexec, d3', Value.category]
  exact X₁.ldcString hexec (own := own) (text := text) (index := is) (a := sa) hown' hstr'.1 hstr'.2
    (g := { method := m, pc := pc + 4, locals := ls, stack := .ref T.heap.size :: .ref T.heap.size :: rest, locked := none }) rfl d4' _ hsteps
/-- 'throw new E("text")', the text by a wide index -/
theorem vx_throwSW {cc : ByteArray} {pc : Nat} (hexec : p.tables.exec = Jvm.exec) (hb : c.code = cc) (hl : l.stackTraces = false) {own cls text : String} {names : List String} {ik is ic mc ms sa : Nat} {A : Nat → Prop}
    (hown : s.vm.findClass own = some m.cls) (hcls : Bundle.fit cls = true) (hnames : ∀ n ∈ names, Bundle.fit n = true)
    (hk : (Cond.classLink own ik cls).before args s = true) (hini : (Cond.initialized cls).before args s = true) (hstr : vk_R own is text sa s) (hat : ∀ w ∈ vx_atS own ic cls names, w.before args s = true)
    (hgood : ∀ w ∈ Cond.classLink own ik cls :: Cond.initialized cls :: vx_atS own ic cls names, vx_ot w = true)
    (hU : vx_Zq Bundle.tN "UNASSIGNED_STACK" Bundle.steD A s s.heap) (hN : vx_Zq Bundle.tN "SUPPRESSED_SENTINEL" Bundle.listD A s s.heap) (hS : va_S A s.heap H locs) (hsize : ls.size = c.maxLocals)
    (d0 : decode cc pc = .ok (.new ik, 3)) (d3 : decode cc (pc + 3) = .ok (.dup, 1)) (d4 : decode cc (pc + 4) = .ok (.ldc_w is, 3)) (d7 : decode cc (pc + 7) = .ok (.invokespecial ic, 3)) (d10 : decode cc (pc + 10) = .ok (.athrow, 1))
    (hout : ∀ x ∈ c.exceptionTable.toList, covers x (pc + 10) = false)
    (hRframes : names.length + 3 < R.frames) (hRlocals : (rest.map fun v => v.category).sum + (13 * (names.length + 1) + 43) ≤ R.locals) (hRcells : cells + 1 ≤ R.cells) (hRslots : slots + 6 ≤ R.slots) (hlocks : meth.locks = false)
    (hx : ∀ t : State, s.vm.Alike t.vm → H.size ≤ t.heap.size → (∀ q : Nat, q < H.size → t.heap[q]? = H[q]?) → XC cls s t)
    (hf : ∀ z ∈ locs, free z.base) (hc : cells + 1 ≤ mc) (hs : slots + 6 ≤ ms) :
    W p l e R s m args below meth c H locs cells slots (vx_MQ below Qc XC args s mc ms free) (F0 m pc ls rest) := by
  intro T hT X
  have htr : e.platform.stackTraces = false := (show e.platform.stackTraces = l.stackTraces by rw [X.admits.platform]).trans hl
  have Y := vx_rebase X (R' := { frames := R.frames, locals := R.locals, cells := 1, slots := 6 }) (Nat.le_refl _) (Nat.le_refl _) hRcells hRslots
  obtain ⟨s', hA⟩ : ∃ z, z = (T.setVm s.vm).setFrames (.invoking m args :: below) := ⟨_, rfl⟩
  rw [← hA] at Y
  have hvm : s'.vm = s.vm := by rw [hA]; rfl
  have hhp : s'.heap = H := by rw [hA]; exact hT
  have hW0 : s.WarmedH s'.vm := by rw [hvm]; exact State.WarmedH.refl s
  have hat' : ∀ w ∈ vx_atS own ic cls names, w.before args s' = true := fun w hw => vx_ot_at hW0 hvm.symm (hgood w (List.mem_cons_of_mem _ (List.mem_cons_of_mem _ hw))) (hat w hw)
  have hk' : (Cond.classLink own ik cls).before args s' = true := vx_ot_at hW0 hvm.symm (hgood _ List.mem_cons_self) hk
  have hini' : (Cond.initialized cls).before args s' = true := vx_ot_at hW0 hvm.symm (hgood _ (List.mem_cons_of_mem _ List.mem_cons_self)) hini
  have hU' : vx_Zq Bundle.tN "UNASSIGNED_STACK" Bundle.steD A s' s'.heap := by rw [hhp]; exact vx_Zq.moved hW0.alike (hU.kept hS.2.1)
  have hN' : vx_Zq Bundle.tN "SUPPRESSED_SENTINEL" Bundle.listD A s' s'.heap := by rw [hhp]; exact vx_Zq.moved hW0.alike (hN.kept hS.2.1)
  have h : ∀ w ∈ Bundle.ownAtoms own ic cls names, w.before args s' = true := vx_own hat' (vx_isRefq hU'.1) (vx_isRefq hN'.1) hU'.2.word hN'.2.word
  have hown' : s'.vm.findClass own = some m.cls := by rw [hvm]; exact hown
  have hins : (Cond.instantiable cls 6).before args s' = true := h _ (by simp [Bundle.ownAtoms])
  obtain ⟨vm₁, cX, kX, hfX, hkX, -, -, X₁, st1⟩ := Y.newCold hexec (own := own) (C := cls) (index := ik) (n := 6) hown' hk' hins hini'
    (g := F0 m pc ls rest) rfl (by rw [hb]; exact d0) (Nat.le_refl _) (Nat.le_refl _)
  generalize hT1 : (T.setVm vm₁).pushCell { cls := cX, slots := kX.instanceTypes.map defaultValue, vm := .none } = T1 at X₁ st1
  have hcat : (Value.ref T.heap.size).category = 1 := rfl
  have hcellA : T1.heap[T.heap.size]? = some (freshCell cX kX) := by rw [← hT1]; exact State.heap_pushCell_size _ _
  have d3' : decode c.code (pc + 3) = .ok (.dup, 1) := by rw [hb]; exact d3
  have d4' : decode c.code (pc + 4) = .ok (.ldc_w is, 3) := by rw [hb]; exact d4
  have hstr' : vk_R own is text sa s' := vk_R.warm hW0 hstr
  obtain ⟨U, hsteps, hrun, hend, hW, hsame, ce, hce, hO⟩ := X₁.ctorThrowS hexec htr (own := own) (cls := cls) (names := names) (ic := ic) hown' hcls hnames h (fun x hx => nomatch hx) hfX hkX hcellA (by rw [hhp, hT]; exact Nat.le_refl _) (msg := .ref sa) rfl
    (g := { method := m, pc := pc + 7, locals := ls, stack := .ref sa :: .ref T.heap.size :: .ref T.heap.size :: rest, locked := none }) rfl hsize rfl rfl (rest := rest) rfl
    (by rw [hb]; exact d7) (by rw [hb]; exact d10) hout hRframes (by simp only [List.map_cons, List.sum_cons, hcat]; omega) hlocks
  obtain ⟨f1, f2⟩ := vx_frame hsame
  rw [hhp] at f1 f2
  have hWs : s.WarmedH U.vm := State.WarmedH.trans hW0 hW
  have hcl : s.vm.findClass cls = some ce.cls := by
    have h9 := hO.cls
    rw [hvm] at h9
    exact h9
  have hall : s.sameButNew ({ U with vm := s.vm } : State) locs mc ms := by
    subst hA
    obtain ⟨e1, e2⟩ := hsame
    rw [State.setFrames_setFrames] at e1
    have h2 : (T.setVm s.vm).sameButNew ({ U with vm := s.vm } : State) [] (0 + 1) (0 + 6) := ⟨e1, e2⟩
    have h3 := X.same.trans h2
    rw [List.append_nil] at h3
    exact h3.mono hc hs
  refine ⟨U, ?_, .threw T.heap.size, hrun, hend, Or.inr ⟨T.heap.size, rfl, cls, ce, locs, hx U hWs.alike f1 (fun q hq => f2 q hq (fun z hz => nomatch hz)), hce, hO.vm, hcl, hWs, hall, hf⟩⟩
  refine st1 _ ?_
  show Steps p.tables e below (T1.setTop { method := m, pc := pc + 3, locals := ls, stack := .ref T.heap.size :: rest, locked := none }) _
  jvm_step X₁.here [X₁.here.top, hexec, d3', Value.category]
  exact X₁.ldcStringW hexec (own := own) (text := text) (index := is) (a := sa) hown' hstr'.1 hstr'.2
    (g := { method := m, pc := pc + 4, locals := ls, stack := .ref T.heap.size :: .ref T.heap.size :: rest, locked := none }) rfl d4' _ hsteps
end Ends
section Bodies
variable {l : Launch}
theorem vx_ofW {y : MethodName} {ws ws' : List Cond} {rm : Room} {Pc : Array Value → State → Prop} {Qc : Array Value → State → Outcome → State → Prop} {XC : String → State → State → Prop} {mc ms : Nat} {free : Addr → Prop} {cc : ByteArray} {maxL : Nat} {ret : Option FieldType}
    (hy : plainName y.cls = true) (hw : ws = Cond.code y cc maxL ret :: ws')
    (body : ∀ p e s m args below meth c s₁, BodyLoose p l y (headSpec ws rm) cc maxL ret e s m args below meth c s₁ → c.maxLocals = maxL → (∀ x ∈ c.exceptionTable.toList, False) → Pc args s →
      W p l e (headSpec ws rm).room s m args below meth c s.heap [] 0 0 (vx_MQ below Qc XC args s mc ms free) (entryFrame m args maxL)) : vx_Met l y ws rm Pc Qc XC mc ms free := by
  refine MetFree.of_bodyS (code := cc) (maxLocals := maxL) (ret := ret) hy ?_ ?_
  · intro args s m h hn
    obtain ⟨meth, c, h1, h2, h3, h4, h5, h6, -, -⟩ := Cond.code_spec hn (atoms_spec (ws := ws) h _ (by rw [hw]; exact List.mem_cons_self))
    exact ⟨meth, c, h1, h2, h3, h4, h5, h6⟩
  · intro p e s m args below meth c s₁ B hml hP _
    have hh0 : s₁.heap = s.heap := by rw [B.state]; rfl
    have ht : ∀ x ∈ c.exceptionTable.toList, False := by
      obtain ⟨meth9, c9, h1, h2, -, -, -, -, h7, -⟩ := Cond.code_spec B.named (atoms_spec (ws := ws) B.pre _ (by rw [hw]; exact List.mem_cons_self))
      cases Option.some.inj (h1.symm.trans B.method)
      cases Option.some.inj (h2.symm.trans (Stand.of_body B).code)
      intro x hx
      rw [Array.isEmpty_iff.mp h7] at hx
      cases hx
    obtain ⟨t, a1, o, b1, b2, b3⟩ := body p e s m args below meth c s₁ B hml ht hP s₁ hh0 (Stand.of_body B)
    exact ⟨t, o, a1, b1, b2, b3⟩
/-- the table of a body with handlers -/
theorem vx_table {p : Program} {x y : MethodName} {S : Spec} {cc bytes : ByteArray} {maxL maxL' : Nat} {ret ret' : Option FieldType} {e : Env} {s s₁ : State} {m : MethodId} {args : Array Value} {below : List Frame} {meth : Method} {c : Code} {hh : List (Nat × Nat × Nat × Nat)}
    (B : BodyLoose p l y S cc maxL ret e s m args below meth c s₁) (h : (Cond.codeWith y bytes maxL' ret' hh).before args s = true) : c.exceptionTable.toList = tableOf hh := by
  obtain ⟨m9, meth9, c9, hn9, h1, h2, -, -, h6, -⟩ := Cond.codeWith_spec h
  cases Option.some.inj (hn9.symm.trans B.named)
  cases Option.some.inj (h1.symm.trans B.method)
  cases Option.some.inj (h2.symm.trans (Stand.of_body B).code)
  rw [← h6, table_eq]
end Bodies
end VXA
/-! ===== END ===== -/
/-! ===== BEGIN a static call of a method with an exception table ===== -/
section VXS
variable {p : Program} {l : Launch} {e : Env} {R : Room} {s : State} {m : MethodId} {args : Array Value} {below : List Frame} {meth : Method} {c : Code} {T : State} {H : Heap} {locs : List Loc} {cells slots : Nat}
abbrev vx_CSW (R : Room) (s : State) (args : Array Value) (own : String) (index : Nat) (y : MethodName) (bytes : ByteArray) (maxL : Nat) (ret : Option FieldType) (hh : List (Nat × Nat × Nat × Nat)) (ws : List Cond) (rm : Room) (mc ms n : Nat) : Prop :=
  (rm.cells = mc ∧ rm.slots = ms ∧ rm.frames + 1 ≤ R.frames ∧ 8 + (maxL + 11) + rm.locals ≤ R.locals ∧ (∀ w ∈ ws, ∀ (a' : Array Value) (U : State), s.WarmedH U.vm → w.before a' U = true) ∧ Cond.codeWith y bytes maxL ret hh ∈ ws) ∧
  (Cond.codeWith y bytes maxL ret hh).before args s = true ∧ (Cond.initialized y.cls).before args s = true ∧ (y.cls ≠ "java/lang/invoke/MethodHandle" ∧ y.cls ≠ "java/lang/invoke/VarHandle") ∧
  (∀ sig, parseMethodDescriptor y.desc = some sig → n = sig.parameters.length) ∧ (Cond.methodLink own index y).before args s = true ∧ (Cond.static y).before args s = true
theorem vx_cwSW {own : String} {index maxL mc ms : Nat} {y : MethodName} {bytes : ByteArray} {ret : Option FieldType} {hh : List (Nat × Nat × Nat × Nat)} {Ts ws ws' : List Cond} {rm : Room} (n : Nat) (ht : ∀ w ∈ Ts, w.before args s = true) (hT : GoodIn Ts (va_wsS own index y ws)) (hw : ws = Cond.codeWith y bytes maxL ret hh :: ws') (hrc : rm.cells = mc) (hrs : rm.slots = ms)
    (hd : y.cls ≠ "java/lang/invoke/MethodHandle" ∧ y.cls ≠ "java/lang/invoke/VarHandle" ∧ (parseMethodDescriptor y.desc).map (fun d => d.parameters.length) = some n) (hR : rm.frames + 1 ≤ R.frames ∧ 8 + (maxL + 11) + rm.locals ≤ R.locals) :
    vx_CSW R s args own index y bytes maxL ret hh ws rm mc ms n := by
  have ok : ∀ w ∈ va_wsS own index y ws, w.before args s = true := fun w h => ht w (hT w h).1
  have hG : GoodIn Ts ws := fun w h => hT w (by unfold va_wsS; exact List.mem_append_right _ h)
  have hc : Cond.codeWith y bytes maxL ret hh ∈ ws := by rw [hw]; exact List.mem_cons_self
  refine ⟨⟨hrc, hrs, hR.1, hR.2, pay_in ht hG, hc⟩, ht _ (hG _ hc).1, ok _ (by simp [va_wsS]), ⟨hd.1, hd.2.1⟩, fun sig h => ?_, ok _ (by simp [va_wsS]), ok _ (by simp [va_wsS])⟩
  have h2 := hd.2.2
  rw [h] at h2
  exact (Option.some.inj h2).symm
theorem vx_callSW (X : Stand p l e R s m args below meth c T locs cells slots) (hexec : p.tables.exec = Jvm.exec) {own : String} {index : Nat} {y : MethodName} {bytes : ByteArray} {maxL : Nat} {ret : Option FieldType} {hh : List (Nat × Nat × Nat × Nat)}
    (hown : s.vm.findClass own = some m.cls) (hlink : (Cond.methodLink own index y).before args s = true) (hstat : (Cond.static y).before args s = true) (hinit : (Cond.initialized y.cls).before args s = true)
    (hcode : (Cond.codeWith y bytes maxL ret hh).before args s = true) (hy : y.cls ≠ "java/lang/invoke/MethodHandle" ∧ y.cls ≠ "java/lang/invoke/VarHandle")
    {W9 : Nat} {Pre : Pt → Array Value → Prop} {Post : Pt → Array Value → Option Value → Pt → Prop} (hK : Back l R p e below s args y 3 W9 Pre Post)
    {g : JFrame} (hg : g.method = m) (hsize : g.locals.size = c.maxLocals) {argsL rest : List Value} (hlen : ∀ sig, parseMethodDescriptor y.desc = some sig → argsL.length = sig.parameters.length)
    (hstack : g.stack = argsL.reverse ++ rest) (hW : 2 * g.monitorRoom + (rest.map fun v => v.category).sum ≤ W9) (hdg : decode c.code g.pc = .ok (.invokestatic index, 3))
    (hpre : ∀ vm₁, s.WarmedH vm₁ → Pre ⟨T.setVm vm₁, locs, cells, slots⟩ argsL.toArray) :
    ∃ (v : Option Value) (vm₁ : Vm) (B : Pt), s.WarmedH vm₁ ∧ Stand p l e R s m args below meth c B.U B.locs B.cells B.slots ∧ Post ⟨T.setVm vm₁, locs, cells, slots⟩ argsL.toArray v B ∧
      ∀ target, Steps p.tables e below (B.U.setTop { g with pc := g.pc + 3, stack := v.toList ++ rest }) target → Steps p.tables e below (T.setTop g) target := by
  obtain ⟨mk, methM, cM, hnamed, hmethM, -, -, -, -, -, -, hsigM⟩ := Cond.codeWith_spec hcode
  have hstatic : methM.isStatic = true := Cond.static_spec hnamed hmethM hstat
  obtain ⟨kP, hkP, -⟩ := className_of_methodNamed hnamed
  have hinitP : kP.init = .initialized := Cond.initialized_spec (findClass_of_methodNamed hnamed) hkP hinit
  obtain ⟨vm₁, X₁, hstep₁⟩ := X.invokestatic hexec hown hlink hnamed hmethM hstatic hkP hinitP hy (g := g) hg (argsL := argsL) (rest := rest) (hlen _ hsigM) hstack hdg
  obtain ⟨v, B, X', hpost, hsteps⟩ := hK m meth c ⟨T.setVm vm₁, locs, cells, slots⟩ { g with stack := rest } (.invokestatic index) mk argsL.toArray X₁ hg hsize hdg hW (X₁.named hnamed) (hpre vm₁ X₁.warmed)
  exact ⟨v, vm₁, B, X₁.warmed, X', hpost, fun target h => hstep₁ _ fun acts => by rw [doInvoke_state]; exact hsteps.trans h⟩
theorem vx_runSW {y : MethodName} {bytes cc : ByteArray} {maxL nL mc ms n index : Nat} {ret : Option FieldType} {hh : List (Nat × Nat × Nat × Nat)} {ws : List Cond} {rm : Room} {Pc : Array Value → State → Prop} {Qc : Array Value → State → Outcome → State → Prop} {free : Addr → Prop} {Ts : List Cond} {own : String} {As rest : List Value} {g : JFrame}
    (S : CallFix p m c cc nL s args Ts own) (hM : Met l y ws rm Pc Qc mc ms free) (cw : vx_CSW R s args own index y bytes maxL ret hh ws rm mc ms n) (hp : PreS s H Pc As)
    (hg : g.method = m) (hn : As.length = n) (hsize : g.locals.size = nL) (hstack : g.stack = As.reverse ++ rest) (hW : 2 * g.monitorRoom + (rest.map fun v => v.category).sum ≤ 8) (hdg : decode cc g.pc = .ok (.invokestatic index, 3)) (hf : cells + mc ≤ R.cells ∧ slots + ms ≤ R.slots) :
    va_Run p l e R s m args below meth c H locs cells slots mc ms g rest (Qc As.toArray) (free) := by
  obtain ⟨⟨hrc, hrs, hfr, hlo, hws, hcw⟩, hcode, hini, hy, hlen, hl, hstt⟩ := cw
  have hK : Back l R p e below s args y 3 8 (PreOf R mc ms Pc) (PostOf Qc mc ms free) := va_backW (hh := hh) (bytes := bytes) (maxL := maxL) (ret := ret) hM hp.1 hrc hrs hfr hlo hws hcw (fun a' U hW => word_at hW (Or.inl (by first | rfl | simp [Cond.onTables, Cond.keeps, Cond.steady])) hini)
  obtain ⟨hx, hb, hml, ho, -⟩ := S
  intro T hT X
  obtain ⟨v, vm₁, ⟨U', l2, c2, s2⟩, hW₁, X', ⟨g', mk, t, L, e1, e2, hq, h1, hL, h2, h3⟩, st⟩ := vx_callSW X hx (hh := hh) (bytes := bytes) (maxL := maxL) (ret := ret) ho hl hstt hini hcode hy hK hg (hsize.trans hml.symm) (argsL := As) (rest := rest) (fun sig h => hn.trans (hlen sig h)) hstack hW (by rw [hb]; exact hdg)
    (fun vm₁ hW₁ => ⟨hf.1, hf.2, hp.2 (T.setVm vm₁) hT hW₁⟩)
  dsimp only [Pt.U, Pt.locs, Pt.cells, Pt.slots] at X' e1 e2 h1 h2 h3 st
  subst h1; subst h2; subst h3
  exact ⟨v, (T.setVm vm₁).calling g' mk As.toArray, t, U', L, hT, X', hL, e1, e2, hq, st⟩
/-- not caught here, past rows that name other classes: it goes on to the caller -/
theorem vx_outP {p : Program} {l : Launch} {e : Env} {R : Room} {s : State} {m : MethodId} {args : Array Value} {below : List Frame} {meth : Method} {c : Code} {H : Heap} {locs : List Loc} {cells slots : Nat} {free : Addr → Prop} {ls : Array Slot} {rest : List Value} {Qc : Array Value → State → Outcome → State → Prop} {XC : String → State → State → Prop}
    {pc : Nat} {own E : String} {ce : Cell} {q : Addr} {mc ms : Nat} (hown : s.vm.findClass own = some m.cls) (hlocks : meth.locks = false)
    (hpass : ∀ z ∈ c.exceptionTable.toList, covers z pc = false ∨ (z.catchType ≠ 0 ∧ ∃ nm : String, (Cond.classLink own z.catchType nm).before args s = true ∧ va_Nc E nm s)) (hcell : H[q]? = some ce) (hv : ce.vm = .none) (hcl : s.vm.findClass E = some ce.cls)
    (hx : ∀ t : State, t.heap = H → s.vm.Alike t.vm → XC E s t) (hf : ∀ z ∈ locs, free z.base) (hc : cells ≤ mc) (hs : slots ≤ ms) :
    vx_W p l e R s m args below meth c H locs cells slots (vx_MQ below Qc XC args s mc ms free) (F0 m pc ls rest) q := by
  intro T hT X
  have hpl : e.platform.magicAccessors = ({} : Platform).magicAccessors := by rw [X.admits.platform]
  obtain ⟨vm', hW', X', st⟩ := X.outThrough hlocks q (g := F0 m pc ls rest) rfl rfl rfl (cell := ce) (by rw [hT]; exact hcell) (by rw [hv]; rfl)
    (by obtain ⟨k9, h9, -⟩ := Vm.findClass_spec hcl; exact ⟨k9, h9⟩) (fun z hz => by
      rcases hpass z hz with h | ⟨hz0, nm, hl1, hn1⟩
      · exact Or.inl h
      · obtain ⟨c6, hc6, hcl6⟩ := Cond.classLink_spec hown hl1 e.platform hpl
        obtain ⟨a8, b8, h1, h2, h3⟩ := hn1
        cases Option.some.inj (h1.symm.trans hcl)
        cases Option.some.inj (h2.symm.trans hc6)
        exact Or.inr ⟨hz0, _, hcl6, h3⟩)
  obtain ⟨g₀, hfr⟩ := X'.frames_eq
  have hcell9 : ((T.setVm vm').setFrames (.throwing q :: below)).heap[q]? = some ce := by
    show T.heap[q]? = some ce
    rw [hT]; exact hcell
  have hend : Ended ((T.setVm vm').setFrames (.throwing q :: below)) below (.threw q) := State.frames_setFrames _ (State.cur_lt_of_frames hfr)
  refine ⟨(T.setVm vm').setFrames (.throwing q :: below), ?_, .threw q, X'.here.running, hend, Or.inr ⟨q, rfl, E, ce, locs, hx _ hT (X'.ends _).1.alike, hcell9, hv, hcl, (X'.ends _).1, (X'.ends _).2.mono hc hs, hf⟩⟩
  rw [X.pushThrowing_eq]
  exact st
/-- a thing of a world lies in the heap -/
theorem vx_lt {D : va_G} {cl : List vw_C} {ws : va_W} {H1 : Heap} (h : va_P D cl ws H1) {k : Nat} {q : Nat × va_E} (hk : ws[k]? = some q) : q.1 < H1.size := (h k q hk).lt
end VXS
/-! ===== END ===== -/
/-! ===== BEGIN methods with a table of their own: called by a name, returning or throwing ===== -/
section VXH
/-! vx_backW, vx_callVX, vx_callSX, vx_callVW, vx_runVW, vx_runVX, vx_runSX, vx_ofWH follow the same proofs as their sisters above (Free/Laws.lean, Shelf42/LK1.lean); vx_outP calls Shelf42/NT130.lean (outThrough). -/
section
variable {l : Launch} {R : Room} {p : Program} {e : Env} {below : List Frame} {s : State} {sargs : Array Value} {y : MethodName} {len W9 : Nat}
theorem vx_backW {ws : List Cond} {rm : Room} {Pc : Array Value → State → Prop} {Qc : Array Value → State → Outcome → State → Prop} {XC : String → State → State → Prop} {mc ms : Nat} {free : Addr → Prop} {bytes : ByteArray} {maxL : Nat} {ret : Option FieldType} {hh : List (Nat × Nat × Nat × Nat)}
    (hM : vx_Met l y ws rm Pc Qc XC mc ms free) (hblind : FrameBlind Pc) (hrc : rm.cells = mc) (hrs : rm.slots = ms)
    (hframes : rm.frames + 1 ≤ R.frames) (hlocals : W9 + (maxL + 11) + rm.locals ≤ R.locals)
    (hws : ∀ w ∈ ws, ∀ a' U, s.WarmedH U.vm → w.before a' U = true) (hcode : Cond.codeWith y bytes maxL ret hh ∈ ws) (hinit : ∀ a' U, s.WarmedH U.vm → (Cond.initialized y.cls).before a' U = true) :
    vx_Back l R p e below s sargs y len W9 (PreOf R mc ms Pc) (PostOf Qc mc ms free) (vx_Post XC mc ms free) := by
  intro m meth c A g ig mk a X hg hsize hdg hW hn hp
  have h1 : (headSpec ws rm).pre.before a A.U = true := atoms_intro fun w hw => hws w hw _ _ X.warmed
  have h2 : (Cond.codeWith y bytes maxL ret hh).before a A.U = true := hws _ hcode _ _ X.warmed
  have h3 : (Cond.initialized y.cls).before a A.U = true := hinit _ _ X.warmed
  have h4 : A.cells + (headSpec ws rm).room.cells ≤ R.cells := by rw [show (headSpec ws rm).room.cells = mc from hrc]; exact hp.1
  have h5 : A.slots + (headSpec ws rm).room.slots ≤ R.slots := by rw [show (headSpec ws rm).room.slots = ms from hrs]; exact hp.2.1
  have hPc : Pc a (A.U.calling g mk a) := hblind _ _ _ _ hp.2.2
  obtain ⟨U, Ls, c0, s0⟩ := A
  dsimp only [Pt.U, Pt.locs, Pt.cells, Pt.slots] at h1 h2 h3 h4 h5 X hn hPc ⊢
  obtain ⟨m9, methY, cY, hn9, hmY, hcY, -, hlY, -⟩ := Cond.codeWith_spec h2
  cases Option.some.inj (hn9.symm.trans hn)
  obtain ⟨kY, hkY, -⟩ := className_of_methodNamed hn
  have hinitY : kY.init = .initialized := Cond.initialized_spec (findClass_of_methodNamed hn) hkY h3
  have h : At U g.method c below := by rw [hg]; exact X.here
  have hlocals9 : W9 + (maxL + 11) + (headSpec ws rm).room.locals ≤ R.locals := hlocals
  have happ : (headSpec ws rm).appliesLoose y e.platform (U.calling g mk a) = true :=
    Spec.appliesLoose_calling (g := g) h hdg hn hkY hinitY
      (X.room_calling (g := g) (R' := (headSpec ws rm).room) hsize hmY hcY hframes (by rw [hlY]; omega) h4 h5) h1
  obtain ⟨mid, hmid⟩ := h.above
  have hfr : (U.setTop g).frames = (.java g :: mid) ++ below := by rw [State.frames_setTop' g h.top, hmid]; rfl
  obtain ⟨o, s₂, hsteps, -, hend, hq⟩ := Steps.callFree hM p X.admits X.cas X.clock (acts := []) hfr happ hPc trivial
  have hq' : vx_Q Qc XC mc ms free a (U.calling g mk a) o s₂ := hq
  rw [State.frames_setTop' g h.top] at hend
  obtain ⟨g₀, hg0⟩ := Option.isSome_iff_exists.mp h.top
  obtain ⟨r, hr⟩ := State.topJava?_eq_some.mp hg0
  have hr' : (({ U with heap := s₂.heap, slotsUsed := s₂.slotsUsed } : State).setVm s₂.vm).frames = .java g₀ :: r := hr
  rcases hq' with ⟨hqc, L, hfe, hL⟩ | ⟨q, rfl, E, ce, L, hx, hce, hcv, hcl, hW₂, hsm, hL⟩
  · obtain ⟨⟨v, rfl⟩, hW₂, e2, q2, q3, q4, q5, q6⟩ := id hfe
    have e3 : s₂ = ({ (U.calling g mk a).setFrames s₂.frames with heap := s₂.heap, slotsUsed := s₂.slotsUsed } : State).setVm s₂.vm := by
      have : s₂ = ({ s₂ with vm := (U.calling g mk a).vm } : State).setVm s₂.vm := rfl
      rw [e2] at this
      exact this
    obtain ⟨c₂, i₂, len₂, hc₂, hd₂, hf₂⟩ := hend
    have hW' : U.WarmedH s₂.vm := hW₂
    have hcc : c₂ = c := by
      have h1 : s₂.code? g.method = U.code? g.method := by
        rw [State.code?_eq, State.code?_eq, hW'.alike.method?]
      exact Option.some.inj (hc₂.symm.trans (h1.trans h.code))
    subst hcc
    have hlen : len₂ = len := by rw [hdg] at hd₂; cases hd₂; rfl
    subst hlen
    have hs₂ : s₂ = (({ U with heap := s₂.heap, slotsUsed := s₂.slotsUsed } : State).setVm s₂.vm).setTop { g with pc := g.pc + len₂, stack := v.toList ++ g.stack } := by
      refine e3.trans ?_
      rw [hf₂, State.calling_eq h.top, State.setFrames_setFrames, State.setTop_of_frames _ hr', hr]
      rfl
    have hsame : U.sameButNew ({ U with heap := s₂.heap, slotsUsed := s₂.slotsUsed } : State) L mc ms := by
      refine ⟨?_, q2, q3, q4, q5, q6⟩
      obtain ⟨t, ht, -⟩ := State.frames_cons hr
      show ({ U with heap := s₂.heap, slotsUsed := s₂.slotsUsed } : State) = { U.setFrames U.frames with heap := s₂.heap, slotsUsed := s₂.slotsUsed }
      rw [State.setFrames_self ht]
    subst hg
    refine Or.inl ⟨v, ⟨(({ U with heap := s₂.heap, slotsUsed := s₂.slotsUsed } : State).setVm s₂.vm), Ls ++ L, c0 + mc, s0 + ms⟩,
      ⟨X.admits, X.cas, X.clock, X.frames, X.room, X.hears, X.method, X.code, (X.here.setHeapUsed s₂.heap s₂.slotsUsed).setVm hW'.alike, X.tail, State.WarmedH.trans X.warmed hW', X.limits, X.bytes, X.same.trans (hsame.setVm s.vm)⟩,
      ⟨g, mk, s₂, L, rfl, rfl, hqc, rfl, hL, rfl, rfl⟩, ?_⟩
    show Steps p.tables e below _ ((({ U with heap := s₂.heap, slotsUsed := s₂.slotsUsed } : State).setVm s₂.vm).setTop { g with pc := g.pc + len₂, stack := v.toList ++ g.stack })
    rw [← hs₂]
    exact hsteps
  · obtain ⟨e2, q2, q3, q4, q5, q6⟩ := id hsm
    have e3 : s₂ = ({ (U.calling g mk a).setFrames s₂.frames with heap := s₂.heap, slotsUsed := s₂.slotsUsed } : State).setVm s₂.vm := by
      have : s₂ = ({ s₂ with vm := (U.calling g mk a).vm } : State).setVm s₂.vm := rfl
      rw [e2] at this
      exact this
    have hf₂ : s₂.frames = .throwing q :: .java g :: U.frames.tail := hend
    have hW' : U.WarmedH s₂.vm := hW₂
    have hs₂ : s₂ = ((({ U with heap := s₂.heap, slotsUsed := s₂.slotsUsed } : State).setVm s₂.vm).setTop g).pushFrame (.throwing q) := by
      refine e3.trans ?_
      rw [hf₂, State.calling_eq h.top, State.setFrames_setFrames, State.pushFrame, State.frames_setTop _ hr', State.setTop_of_frames _ hr', State.setFrames_setFrames, hr]
      rfl
    have hsame : U.sameButNew ({ U with heap := s₂.heap, slotsUsed := s₂.slotsUsed } : State) L mc ms := by
      refine ⟨?_, q2, q3, q4, q5, q6⟩
      obtain ⟨t, ht, -⟩ := State.frames_cons hr
      show ({ U with heap := s₂.heap, slotsUsed := s₂.slotsUsed } : State) = { U.setFrames U.frames with heap := s₂.heap, slotsUsed := s₂.slotsUsed }
      rw [State.setFrames_self ht]
    subst hg
    refine Or.inr ⟨q, ⟨(({ U with heap := s₂.heap, slotsUsed := s₂.slotsUsed } : State).setVm s₂.vm), Ls ++ L, c0 + mc, s0 + ms⟩,
      ⟨X.admits, X.cas, X.clock, X.frames, X.room, X.hears, X.method, X.code, (X.here.setHeapUsed s₂.heap s₂.slotsUsed).setVm hW'.alike, X.tail, State.WarmedH.trans X.warmed hW', X.limits, X.bytes, X.same.trans (hsame.setVm s.vm)⟩,
      ⟨g, mk, s₂, L, E, ce, rfl, rfl, hx, hce, hcv, hcl, rfl, hL, rfl, rfl⟩, ?_⟩
    show Steps p.tables e below _ (((({ U with heap := s₂.heap, slotsUsed := s₂.slotsUsed } : State).setVm s₂.vm).setTop g).pushFrame (.throwing q))
    rw [← hs₂]
    exact hsteps
end
variable {p : Program} {l : Launch} {e : Env} {R : Room} {s : State} {m : MethodId} {args : Array Value} {below : List Frame} {meth : Method} {c : Code} {T : State} {H : Heap} {locs : List Loc} {cells slots : Nat}
theorem vx_callVX (X : Stand p l e R s m args below meth c T locs cells slots) (hexec : p.tables.exec = Jvm.exec) {own C : String} {index : Nat} {y : MethodName} {bytes : ByteArray} {maxL : Nat} {ret : Option FieldType} {hh : List (Nat × Nat × Nat × Nat)}
    (hown : s.vm.findClass own = some m.cls) (hlink : (Cond.methodLink own index y).before args s = true) (hinst : (Cond.instanceMethod y).before args s = true) (hsel : (Cond.selects C y y).before args s = true)
    (hcode : (Cond.codeWith y bytes maxL ret hh).before args s = true) (hy : y.cls ≠ "java/lang/invoke/MethodHandle" ∧ y.cls ≠ "java/lang/invoke/VarHandle")
    {W9 : Nat} {Pre : Pt → Array Value → Prop} {Post : Pt → Array Value → Option Value → Pt → Prop} {PostX : Pt → Array Value → Addr → Pt → Prop} (hK : vx_Back l R p e below s args y 3 W9 Pre Post PostX)
    {b : Addr} {cellB : Cell} (hcell : T.heap[b]? = some cellB) (hobj : cellB.vm.isStatics = false) (hcls : s.vm.findClass C = some cellB.cls)
    {g : JFrame} (hg : g.method = m) (hsize : g.locals.size = c.maxLocals) {argsL rest : List Value} (hlen : ∀ sig, parseMethodDescriptor y.desc = some sig → argsL.length = sig.parameters.length)
    (hstack : g.stack = argsL.reverse ++ .ref b :: rest) (hW : 2 * g.monitorRoom + (rest.map fun v => v.category).sum ≤ W9) (hdg : decode c.code g.pc = .ok (.invokevirtual index, 3))
    (hpre : ∀ vm₁, s.WarmedH vm₁ → Pre ⟨T.setVm vm₁, locs, cells, slots⟩ (Value.ref b :: argsL).toArray) :
    (∃ (v : Option Value) (vm₁ : Vm) (B : Pt), s.WarmedH vm₁ ∧ Stand p l e R s m args below meth c B.U B.locs B.cells B.slots ∧ Post ⟨T.setVm vm₁, locs, cells, slots⟩ (Value.ref b :: argsL).toArray v B ∧
      ∀ target, Steps p.tables e below (B.U.setTop { g with pc := g.pc + 3, stack := v.toList ++ rest }) target → Steps p.tables e below (T.setTop g) target) ∨
    (∃ (q : Addr) (vm₁ : Vm) (B : Pt), s.WarmedH vm₁ ∧ Stand p l e R s m args below meth c B.U B.locs B.cells B.slots ∧ PostX ⟨T.setVm vm₁, locs, cells, slots⟩ (Value.ref b :: argsL).toArray q B ∧
      Steps p.tables e below (T.setTop g) ((B.U.setTop { g with stack := rest }).pushFrame (.throwing q))) := by
  obtain ⟨mk, methM, hnamed, hmethM, hstM, habM⟩ := Cond.instanceMethod_spec hinst
  obtain ⟨m8, methM', cM, hn8, hmethM', -, -, -, -, -, -, hsigM⟩ := Cond.codeWith_spec hcode
  cases Option.some.inj (hn8.symm.trans hnamed)
  cases hmethM.symm.trans hmethM'
  obtain ⟨c2, r2, m2, q1, q2, q3, q4, kP, hkP, hkPi⟩ := Cond.selects_spec hsel
  cases hcls.symm.trans q1
  cases (State.methodFound?_of_named hnamed hy).symm.trans q2
  cases hnamed.symm.trans q3
  have hselP : selectMethod e.platform s.vm cellB.cls mk = .method mk := by rw [Launch.admits_selectMethod X.admits]; exact q4
  obtain ⟨vm₁, X₁, hstep₁⟩ := X.invokevirtual hexec hown hlink hnamed hmethM hstM hkP hkPi hy (a := b) (cell := cellB) hcell
    (fun z h => by rw [h] at hobj; cases hobj) hselP hmethM habM hkP hkPi (g := g) hg (argsL := argsL) (rest := rest) (hlen _ hsigM) hstack hdg
  rcases hK m meth c ⟨T.setVm vm₁, locs, cells, slots⟩ { g with stack := rest } (.invokevirtual index) mk (Value.ref b :: argsL).toArray X₁ hg hsize hdg hW (X₁.named hnamed) (hpre vm₁ X₁.warmed) with ⟨v, B, X', hpost, hsteps⟩ | ⟨q, B, X', hpost, hsteps⟩
  · exact Or.inl ⟨v, vm₁, B, X₁.warmed, X', hpost, fun target h => hstep₁ _ fun acts => by rw [doInvoke_state]; exact hsteps.trans h⟩
  · exact Or.inr ⟨q, vm₁, B, X₁.warmed, X', hpost, hstep₁ _ fun acts => by rw [doInvoke_state]; exact hsteps⟩
theorem vx_callSX (X : Stand p l e R s m args below meth c T locs cells slots) (hexec : p.tables.exec = Jvm.exec) {own : String} {index : Nat} {y : MethodName} {bytes : ByteArray} {maxL : Nat} {ret : Option FieldType} {hh : List (Nat × Nat × Nat × Nat)}
    (hown : s.vm.findClass own = some m.cls) (hlink : (Cond.methodLink own index y).before args s = true) (hstat : (Cond.static y).before args s = true) (hinit : (Cond.initialized y.cls).before args s = true)
    (hcode : (Cond.codeWith y bytes maxL ret hh).before args s = true) (hy : y.cls ≠ "java/lang/invoke/MethodHandle" ∧ y.cls ≠ "java/lang/invoke/VarHandle")
    {W9 : Nat} {Pre : Pt → Array Value → Prop} {Post : Pt → Array Value → Option Value → Pt → Prop} {PostX : Pt → Array Value → Addr → Pt → Prop} (hK : vx_Back l R p e below s args y 3 W9 Pre Post PostX)
    {g : JFrame} (hg : g.method = m) (hsize : g.locals.size = c.maxLocals) {argsL rest : List Value} (hlen : ∀ sig, parseMethodDescriptor y.desc = some sig → argsL.length = sig.parameters.length)
    (hstack : g.stack = argsL.reverse ++ rest) (hW : 2 * g.monitorRoom + (rest.map fun v => v.category).sum ≤ W9) (hdg : decode c.code g.pc = .ok (.invokestatic index, 3))
    (hpre : ∀ vm₁, s.WarmedH vm₁ → Pre ⟨T.setVm vm₁, locs, cells, slots⟩ argsL.toArray) :
    (∃ (v : Option Value) (vm₁ : Vm) (B : Pt), s.WarmedH vm₁ ∧ Stand p l e R s m args below meth c B.U B.locs B.cells B.slots ∧ Post ⟨T.setVm vm₁, locs, cells, slots⟩ argsL.toArray v B ∧
      ∀ target, Steps p.tables e below (B.U.setTop { g with pc := g.pc + 3, stack := v.toList ++ rest }) target → Steps p.tables e below (T.setTop g) target) ∨
    (∃ (q : Addr) (vm₁ : Vm) (B : Pt), s.WarmedH vm₁ ∧ Stand p l e R s m args below meth c B.U B.locs B.cells B.slots ∧ PostX ⟨T.setVm vm₁, locs, cells, slots⟩ argsL.toArray q B ∧
      Steps p.tables e below (T.setTop g) ((B.U.setTop { g with stack := rest }).pushFrame (.throwing q))) := by
  obtain ⟨mk, methM, cM, hnamed, hmethM, -, -, -, -, -, -, hsigM⟩ := Cond.codeWith_spec hcode
  have hstatic : methM.isStatic = true := Cond.static_spec hnamed hmethM hstat
  obtain ⟨kP, hkP, -⟩ := className_of_methodNamed hnamed
  have hinitP : kP.init = .initialized := Cond.initialized_spec (findClass_of_methodNamed hnamed) hkP hinit
  obtain ⟨vm₁, X₁, hstep₁⟩ := X.invokestatic hexec hown hlink hnamed hmethM hstatic hkP hinitP hy (g := g) hg (argsL := argsL) (rest := rest) (hlen _ hsigM) hstack hdg
  rcases hK m meth c ⟨T.setVm vm₁, locs, cells, slots⟩ { g with stack := rest } (.invokestatic index) mk argsL.toArray X₁ hg hsize hdg hW (X₁.named hnamed) (hpre vm₁ X₁.warmed) with ⟨v, B, X', hpost, hsteps⟩ | ⟨q, B, X', hpost, hsteps⟩
  · exact Or.inl ⟨v, vm₁, B, X₁.warmed, X', hpost, fun target h => hstep₁ _ fun acts => by rw [doInvoke_state]; exact hsteps.trans h⟩
  · exact Or.inr ⟨q, vm₁, B, X₁.warmed, X', hpost, hstep₁ _ fun acts => by rw [doInvoke_state]; exact hsteps⟩
theorem vx_callVW (X : Stand p l e R s m args below meth c T locs cells slots) (hexec : p.tables.exec = Jvm.exec) {own C : String} {index : Nat} {y : MethodName} {bytes : ByteArray} {maxL : Nat} {ret : Option FieldType} {hh : List (Nat × Nat × Nat × Nat)}
    (hown : s.vm.findClass own = some m.cls) (hlink : (Cond.methodLink own index y).before args s = true) (hinst : (Cond.instanceMethod y).before args s = true) (hsel : (Cond.selects C y y).before args s = true)
    (hcode : (Cond.codeWith y bytes maxL ret hh).before args s = true) (hy : y.cls ≠ "java/lang/invoke/MethodHandle" ∧ y.cls ≠ "java/lang/invoke/VarHandle")
    {W9 : Nat} {Pre : Pt → Array Value → Prop} {Post : Pt → Array Value → Option Value → Pt → Prop} (hK : Back l R p e below s args y 3 W9 Pre Post)
    {b : Addr} {cellB : Cell} (hcell : T.heap[b]? = some cellB) (hobj : cellB.vm.isStatics = false) (hcls : s.vm.findClass C = some cellB.cls)
    {g : JFrame} (hg : g.method = m) (hsize : g.locals.size = c.maxLocals) {argsL rest : List Value} (hlen : ∀ sig, parseMethodDescriptor y.desc = some sig → argsL.length = sig.parameters.length)
    (hstack : g.stack = argsL.reverse ++ .ref b :: rest) (hW : 2 * g.monitorRoom + (rest.map fun v => v.category).sum ≤ W9) (hdg : decode c.code g.pc = .ok (.invokevirtual index, 3))
    (hpre : ∀ vm₁, s.WarmedH vm₁ → Pre ⟨T.setVm vm₁, locs, cells, slots⟩ (Value.ref b :: argsL).toArray) :
    ∃ (v : Option Value) (vm₁ : Vm) (B : Pt), s.WarmedH vm₁ ∧ Stand p l e R s m args below meth c B.U B.locs B.cells B.slots ∧ Post ⟨T.setVm vm₁, locs, cells, slots⟩ (Value.ref b :: argsL).toArray v B ∧
      ∀ target, Steps p.tables e below (B.U.setTop { g with pc := g.pc + 3, stack := v.toList ++ rest }) target → Steps p.tables e below (T.setTop g) target := by
  obtain ⟨mk, methM, hnamed, hmethM, hstM, habM⟩ := Cond.instanceMethod_spec hinst
  obtain ⟨m8, methM', cM, hn8, hmethM', -, -, -, -, -, -, hsigM⟩ := Cond.codeWith_spec hcode
  cases Option.some.inj (hn8.symm.trans hnamed)
  cases hmethM.symm.trans hmethM'
  obtain ⟨c2, r2, m2, q1, q2, q3, q4, kP, hkP, hkPi⟩ := Cond.selects_spec hsel
  cases hcls.symm.trans q1
  cases (State.methodFound?_of_named hnamed hy).symm.trans q2
  cases hnamed.symm.trans q3
  have hselP : selectMethod e.platform s.vm cellB.cls mk = .method mk := by rw [Launch.admits_selectMethod X.admits]; exact q4
  obtain ⟨vm₁, X₁, hstep₁⟩ := X.invokevirtual hexec hown hlink hnamed hmethM hstM hkP hkPi hy (a := b) (cell := cellB) hcell
    (fun z h => by rw [h] at hobj; cases hobj) hselP hmethM habM hkP hkPi (g := g) hg (argsL := argsL) (rest := rest) (hlen _ hsigM) hstack hdg
  obtain ⟨v, B, X', hpost, hsteps⟩ := hK m meth c ⟨T.setVm vm₁, locs, cells, slots⟩ { g with stack := rest } (.invokevirtual index) mk (Value.ref b :: argsL).toArray X₁ hg hsize hdg hW (X₁.named hnamed) (hpre vm₁ X₁.warmed)
  exact ⟨v, vm₁, B, X₁.warmed, X', hpost, fun target h => hstep₁ _ fun acts => by rw [doInvoke_state]; exact hsteps.trans h⟩
abbrev vx_CVW (R : Room) (s : State) (args : Array Value) (own C : String) (index : Nat) (y : MethodName) (bytes : ByteArray) (maxL : Nat) (ret : Option FieldType) (hh : List (Nat × Nat × Nat × Nat)) (ws : List Cond) (rm : Room) (mc ms n : Nat) : Prop :=
  (rm.cells = mc ∧ rm.slots = ms ∧ rm.frames + 1 ≤ R.frames ∧ 8 + (maxL + 11) + rm.locals ≤ R.locals ∧ (∀ w ∈ ws, ∀ (a' : Array Value) (U : State), s.WarmedH U.vm → w.before a' U = true) ∧ Cond.codeWith y bytes maxL ret hh ∈ ws) ∧
  (Cond.codeWith y bytes maxL ret hh).before args s = true ∧ (Cond.initialized y.cls).before args s = true ∧ (y.cls ≠ "java/lang/invoke/MethodHandle" ∧ y.cls ≠ "java/lang/invoke/VarHandle") ∧
  (∀ sig, parseMethodDescriptor y.desc = some sig → n = sig.parameters.length) ∧ (Cond.methodLink own index y).before args s = true ∧ (Cond.instanceMethod y).before args s = true ∧ (Cond.selects C y y).before args s = true
theorem vx_cwVW {own C : String} {index maxL mc ms : Nat} {y : MethodName} {bytes : ByteArray} {ret : Option FieldType} {hh : List (Nat × Nat × Nat × Nat)} {Ts ws ws' : List Cond} {rm : Room} (n : Nat) (ht : ∀ w ∈ Ts, w.before args s = true) (hT : GoodIn Ts (wsV own index C y ws)) (hw : ws = Cond.codeWith y bytes maxL ret hh :: ws') (hrc : rm.cells = mc) (hrs : rm.slots = ms)
    (hd : y.cls = C ∧ y.cls ≠ "java/lang/invoke/MethodHandle" ∧ y.cls ≠ "java/lang/invoke/VarHandle" ∧ (parseMethodDescriptor y.desc).map (fun d => d.parameters.length) = some n) (hR : rm.frames + 1 ≤ R.frames ∧ 8 + (maxL + 11) + rm.locals ≤ R.locals) :
    vx_CVW R s args own C index y bytes maxL ret hh ws rm mc ms n := by
  obtain ⟨hC, hd⟩ := hd
  subst hC
  have ok : ∀ w ∈ wsV own index y.cls y ws, w.before args s = true := fun w h => ht w (hT w h).1
  have hG : GoodIn Ts ws := fun w h => hT w (by unfold wsV; exact List.mem_append_right _ h)
  have hc : Cond.codeWith y bytes maxL ret hh ∈ ws := by rw [hw]; exact List.mem_cons_self
  refine ⟨⟨hrc, hrs, hR.1, hR.2, pay_in ht hG, hc⟩, ht _ (hG _ hc).1, ok _ (by simp [wsV]), ⟨hd.1, hd.2.1⟩, fun sig h => ?_, ok _ (by simp [wsV]), ok _ (by simp [wsV]), ok _ (by simp [wsV])⟩
  have h2 := hd.2.2
  rw [h] at h2
  exact (Option.some.inj h2).symm
theorem vx_runVW {y : MethodName} {bytes cc : ByteArray} {maxL nL mc ms n index : Nat} {ret : Option FieldType} {hh : List (Nat × Nat × Nat × Nat)} {ws : List Cond} {rm : Room} {Pc : Array Value → State → Prop} {Qc : Array Value → State → Outcome → State → Prop} {free : Addr → Prop} {Ts : List Cond} {own C : String} {b : Addr} {As rest : List Value} {g : JFrame}
    (S : CallFix p m c cc nL s args Ts own) (hM : Met l y ws rm Pc Qc mc ms free) (cw : vx_CVW R s args own C index y bytes maxL ret hh ws rm mc ms n) (hp : PreV s H C b Pc As)
    (hg : g.method = m) (hn : As.length = n) (hsize : g.locals.size = nL) (hstack : g.stack = As.reverse ++ .ref b :: rest) (hW : 2 * g.monitorRoom + (rest.map fun v => v.category).sum ≤ 8) (hdg : decode cc g.pc = .ok (.invokevirtual index, 3)) (hf : cells + mc ≤ R.cells ∧ slots + ms ≤ R.slots) :
    va_Run p l e R s m args below meth c H locs cells slots mc ms g rest (Qc (Value.ref b :: As).toArray) free := by
  obtain ⟨⟨hrc, hrs, hfr, hlo, hws, hcw⟩, hcode, hini, hy, hlen, hl, hin, hse⟩ := cw
  have hK : Back l R p e below s args y 3 8 (PreOf R mc ms Pc) (PostOf Qc mc ms free) := va_backW (hh := hh) (bytes := bytes) (maxL := maxL) (ret := ret) hM hp.1 hrc hrs hfr hlo hws hcw (fun a' U hW => word_at hW (Or.inl (by first | rfl | simp [Cond.onTables, Cond.keeps, Cond.steady])) hini)
  obtain ⟨hx, hb, hml, ho, -⟩ := S
  obtain ⟨-, ⟨cellB, hcB, hoB, hclB⟩, hPc⟩ := hp
  intro T hT X
  obtain ⟨v, vm₁, ⟨U', l2, c2, s2⟩, hW₁, X', ⟨g', mk, t, L, e1, e2, hq, h1, hL, h2, h3⟩, st⟩ := vx_callVW X hx (C := C) (hh := hh) (bytes := bytes) (maxL := maxL) (ret := ret) ho hl hin hse hcode hy hK (by rw [hT]; exact hcB) hoB hclB hg (hsize.trans hml.symm) (argsL := As) (rest := rest) (fun sig h => hn.trans (hlen sig h)) hstack hW (by rw [hb]; exact hdg)
    (fun vm₁ hW₁ => ⟨hf.1, hf.2, hPc (T.setVm vm₁) hT hW₁⟩)
  dsimp only [Pt.U, Pt.locs, Pt.cells, Pt.slots] at X' e1 e2 h1 h2 h3 st
  subst h1; subst h2; subst h3
  exact ⟨v, (T.setVm vm₁).calling g' mk (Value.ref b :: As).toArray, t, U', L, hT, X', hL, e1, e2, hq, st⟩
section
variable {y : MethodName} {bytes cc : ByteArray} {maxL nL mc ms n index : Nat} {ret : Option FieldType} {ws : List Cond} {rm : Room} {Pc : Array Value → State → Prop} {Qc : Array Value → State → Outcome → State → Prop} {XC : String → State → State → Prop} {free : Addr → Prop} {Ts : List Cond} {own C : String} {b : Addr} {As rest : List Value} {g : JFrame}
theorem vx_runVX {hh : List (Nat × Nat × Nat × Nat)} (S : CallFix p m c cc nL s args Ts own) (hM : vx_Met l y ws rm Pc Qc XC mc ms free) (cw : vx_CVW R s args own C index y bytes maxL ret hh ws rm mc ms n) (hp : PreV s H C b Pc As)
    (hg : g.method = m) (hn : As.length = n) (hsize : g.locals.size = nL) (hstack : g.stack = As.reverse ++ .ref b :: rest) (hW : 2 * g.monitorRoom + (rest.map fun v => v.category).sum ≤ 8) (hdg : decode cc g.pc = .ok (.invokevirtual index, 3)) (hf : cells + mc ≤ R.cells ∧ slots + ms ≤ R.slots) :
    vx_Run p l e R s m args below meth c H locs cells slots mc ms g rest (Qc (Value.ref b :: As).toArray) XC free := by
  obtain ⟨⟨hrc, hrs, hfr, hlo, hws, hcw⟩, hcode, hini, hy, hlen, hl, hin, hse⟩ := cw
  have hK : vx_Back l R p e below s args y 3 8 (PreOf R mc ms Pc) (PostOf Qc mc ms free) (vx_Post XC mc ms free) := vx_backW (hh := hh) (bytes := bytes) (maxL := maxL) (ret := ret) hM hp.1 hrc hrs hfr hlo hws hcw (fun a' U hW => word_at hW (Or.inl (by first | rfl | simp [Cond.onTables, Cond.keeps, Cond.steady])) hini)
  obtain ⟨hx, hb, hml, ho, -⟩ := S
  obtain ⟨-, ⟨cellB, hcB, hoB, hclB⟩, hPc⟩ := hp
  intro T hT X
  rcases vx_callVX X hx (C := C) (hh := hh) (bytes := bytes) (maxL := maxL) (ret := ret) ho hl hin hse hcode hy hK (by rw [hT]; exact hcB) hoB hclB hg (hsize.trans hml.symm) (argsL := As) (rest := rest) (fun sig h => hn.trans (hlen sig h)) hstack hW (by rw [hb]; exact hdg)
    (fun vm₁ hW₁ => ⟨hf.1, hf.2, hPc (T.setVm vm₁) hT hW₁⟩) with ⟨v, vm₁, ⟨U', l2, c2, s2⟩, hW₁, X', ⟨g', mk, t, L, e1, e2, hq, h1, hL, h2, h3⟩, st⟩ | ⟨q, vm₁, ⟨U', l2, c2, s2⟩, hW₁, X', ⟨g', mk, t, L, E, ce, e1, e2, hq, hce, hcv, hcl, h1, hL, h2, h3⟩, st⟩
  · dsimp only [Pt.U, Pt.locs, Pt.cells, Pt.slots] at X' e1 e2 h1 h2 h3 st
    subst h1; subst h2; subst h3
    exact Or.inl ⟨v, (T.setVm vm₁).calling g' mk (Value.ref b :: As).toArray, t, U', L, hT, X', hL, e1, e2, hq, st⟩
  · dsimp only [Pt.U, Pt.locs, Pt.cells, Pt.slots] at X' e1 e2 h1 h2 h3 st hcl
    subst h1; subst h2; subst h3
    exact Or.inr ⟨q, (T.setVm vm₁).calling g' mk (Value.ref b :: As).toArray, t, U', L, E, ce, hT, X', hL, e1, e2, hq, hce, hcv, vx_cls hW₁ hcl, st⟩
theorem vx_runSX {hh : List (Nat × Nat × Nat × Nat)} (S : CallFix p m c cc nL s args Ts own) (hM : vx_Met l y ws rm Pc Qc XC mc ms free) (cw : vx_CSW R s args own index y bytes maxL ret hh ws rm mc ms n) (hp : PreS s H Pc As)
    (hg : g.method = m) (hn : As.length = n) (hsize : g.locals.size = nL) (hstack : g.stack = As.reverse ++ rest) (hW : 2 * g.monitorRoom + (rest.map fun v => v.category).sum ≤ 8) (hdg : decode cc g.pc = .ok (.invokestatic index, 3)) (hf : cells + mc ≤ R.cells ∧ slots + ms ≤ R.slots) :
    vx_Run p l e R s m args below meth c H locs cells slots mc ms g rest (Qc As.toArray) XC free := by
  obtain ⟨⟨hrc, hrs, hfr, hlo, hws, hcw⟩, hcode, hini, hy, hlen, hl, hstt⟩ := cw
  have hK : vx_Back l R p e below s args y 3 8 (PreOf R mc ms Pc) (PostOf Qc mc ms free) (vx_Post XC mc ms free) := vx_backW (hh := hh) (bytes := bytes) (maxL := maxL) (ret := ret) hM hp.1 hrc hrs hfr hlo hws hcw (fun a' U hW => word_at hW (Or.inl (by first | rfl | simp [Cond.onTables, Cond.keeps, Cond.steady])) hini)
  obtain ⟨hx, hb, hml, ho, -⟩ := S
  intro T hT X
  rcases vx_callSX X hx (hh := hh) (bytes := bytes) (maxL := maxL) (ret := ret) ho hl hstt hini hcode hy hK hg (hsize.trans hml.symm) (argsL := As) (rest := rest) (fun sig h => hn.trans (hlen sig h)) hstack hW (by rw [hb]; exact hdg)
    (fun vm₁ hW₁ => ⟨hf.1, hf.2, hp.2 (T.setVm vm₁) hT hW₁⟩) with ⟨v, vm₁, ⟨U', l2, c2, s2⟩, hW₁, X', ⟨g', mk, t, L, e1, e2, hq, h1, hL, h2, h3⟩, st⟩ | ⟨q, vm₁, ⟨U', l2, c2, s2⟩, hW₁, X', ⟨g', mk, t, L, E, ce, e1, e2, hq, hce, hcv, hcl, h1, hL, h2, h3⟩, st⟩
  · dsimp only [Pt.U, Pt.locs, Pt.cells, Pt.slots] at X' e1 e2 h1 h2 h3 st
    subst h1; subst h2; subst h3
    exact Or.inl ⟨v, (T.setVm vm₁).calling g' mk As.toArray, t, U', L, hT, X', hL, e1, e2, hq, st⟩
  · dsimp only [Pt.U, Pt.locs, Pt.cells, Pt.slots] at X' e1 e2 h1 h2 h3 st hcl
    subst h1; subst h2; subst h3
    exact Or.inr ⟨q, (T.setVm vm₁).calling g' mk As.toArray, t, U', L, E, ce, hT, X', hL, e1, e2, hq, hce, hcv, vx_cls hW₁ hcl, st⟩
end
end VXH
theorem vx_ofWH {l : Launch} {y : MethodName} {ws ws' : List Cond} {rm : Room} {Pc : Array Value → State → Prop} {Qc : Array Value → State → Outcome → State → Prop} {XC : String → State → State → Prop} {mc ms : Nat} {free : Addr → Prop} {cc : ByteArray} {maxL : Nat} {ret : Option FieldType} {hh : List (Nat × Nat × Nat × Nat)}
    (hy : plainName y.cls = true) (hw : ws = Cond.codeWith y cc maxL ret hh :: ws')
    (body : ∀ p e s m args below meth c s₁, BodyLoose p l y (headSpec ws rm) cc maxL ret e s m args below meth c s₁ → c.maxLocals = maxL → Pc args s →
      W p l e (headSpec ws rm).room s m args below meth c s.heap [] 0 0 (vx_MQ below Qc XC args s mc ms free) (entryFrame m args maxL)) : vx_Met l y ws rm Pc Qc XC mc ms free := by
  refine MetFree.of_bodyS (code := cc) (maxLocals := maxL) (ret := ret) hy ?_ ?_
  · intro args s m h hn
    obtain ⟨m9, meth, c, hn9, h1, h2, h3, h4, -, h5, h6, -⟩ := Cond.codeWith_spec (atoms_spec (ws := ws) h _ (by rw [hw]; exact List.mem_cons_self))
    cases hn.symm.trans hn9
    exact ⟨meth, c, h1, h2, h3, h4, h5, h6⟩
  · intro p e s m args below meth c s₁ B hml hP _
    have hh0 : s₁.heap = s.heap := by rw [B.state]; rfl
    obtain ⟨t, a1, o, b1, b2, b3⟩ := body p e s m args below meth c s₁ B hml hP s₁ hh0 (Stand.of_body B)
    exact ⟨t, o, a1, b1, b2, b3⟩
/-! ===== END ===== -/
end
section
-- ===== PART A: goes FIRST, ahead of the names: the tables' words, and 'selects' of the private methods out of them =====
/-- a private method of a class that the tables say can be made, by its rows of tables_1 -/
def lw_okq (q : MethodName × Nat) : Prop := (q.1.cls ≠ "java/lang/invoke/MethodHandle" ∧ q.1.cls ≠ "java/lang/invoke/VarHandle") ∧ Cond.instantiable q.1.cls q.2 ∈ tables_1 ∧ Cond.privateMethod q.1 ∈ tables_1 ∧ Cond.instanceMethod q.1 ∈ tables_1
theorem lw_p0 : lw_okq (⟨"CurvekeyHouse$Curves", "enterStep", "(III)V"⟩, 7) := ⟨⟨by decide +kernel, by decide +kernel⟩, List.mem_of_getElem? (i := 28) (by decide +kernel), List.mem_of_getElem? (i := 47) (by decide +kernel), List.mem_of_getElem? (i := 48) (by decide +kernel)⟩
theorem lw_p1 : lw_okq (⟨"CurvekeyHouse$Curves", "walk", "(I)V"⟩, 7) := ⟨⟨by decide +kernel, by decide +kernel⟩, List.mem_of_getElem? (i := 28) (by decide +kernel), List.mem_of_getElem? (i := 59) (by decide +kernel), List.mem_of_getElem? (i := 60) (by decide +kernel)⟩
theorem lw_p2 : lw_okq (⟨"CurvekeyHouse$Curves", "reckon", "(III)I"⟩, 7) := ⟨⟨by decide +kernel, by decide +kernel⟩, List.mem_of_getElem? (i := 28) (by decide +kernel), List.mem_of_getElem? (i := 63) (by decide +kernel), List.mem_of_getElem? (i := 64) (by decide +kernel)⟩
theorem lw_p3 : lw_okq (⟨"CurvekeyHouse$Curves", "fold", "(III)I"⟩, 7) := ⟨⟨by decide +kernel, by decide +kernel⟩, List.mem_of_getElem? (i := 28) (by decide +kernel), List.mem_of_getElem? (i := 67) (by decide +kernel), List.mem_of_getElem? (i := 68) (by decide +kernel)⟩
theorem lw_p4 : lw_okq (⟨"CurvekeyHouse$Curves", "jumps", "(I)I"⟩, 7) := ⟨⟨by decide +kernel, by decide +kernel⟩, List.mem_of_getElem? (i := 28) (by decide +kernel), List.mem_of_getElem? (i := 75) (by decide +kernel), List.mem_of_getElem? (i := 76) (by decide +kernel)⟩
theorem lw_p5 : lw_okq (⟨"CurvekeyHouse$Curves", "isBeside", "(III)Z"⟩, 7) := ⟨⟨by decide +kernel, by decide +kernel⟩, List.mem_of_getElem? (i := 28) (by decide +kernel), List.mem_of_getElem? (i := 83) (by decide +kernel), List.mem_of_getElem? (i := 84) (by decide +kernel)⟩
theorem lw_p6 : lw_okq (⟨"CurvekeyHouse$Curves", "weighNeighbours", "(I)V"⟩, 7) := ⟨⟨by decide +kernel, by decide +kernel⟩, List.mem_of_getElem? (i := 28) (by decide +kernel), List.mem_of_getElem? (i := 98) (by decide +kernel), List.mem_of_getElem? (i := 99) (by decide +kernel)⟩
theorem lw_p7 : lw_okq (⟨"java/lang/Throwable", "fillInStackTrace", "(I)Ljava/lang/Throwable;"⟩, 6) := ⟨⟨by decide +kernel, by decide +kernel⟩, List.mem_of_getElem? (i := 412) (by decide +kernel), List.mem_of_getElem? (i := 410) (by decide +kernel), List.mem_of_getElem? (i := 411) (by decide +kernel)⟩
theorem lw_p8 : lw_okq (⟨"CurvekeyHouse", "storeFact", "(I)I"⟩, 14) := ⟨⟨by decide +kernel, by decide +kernel⟩, List.mem_of_getElem? (i := 20) (by decide +kernel), List.mem_of_getElem? (i := 462) (by decide +kernel), List.mem_of_getElem? (i := 463) (by decide +kernel)⟩
theorem lw_p9 : lw_okq (⟨"CurvekeyHouse", "countFact", "(I)I"⟩, 14) := ⟨⟨by decide +kernel, by decide +kernel⟩, List.mem_of_getElem? (i := 20) (by decide +kernel), List.mem_of_getElem? (i := 494) (by decide +kernel), List.mem_of_getElem? (i := 495) (by decide +kernel)⟩
theorem lw_p10 : lw_okq (⟨"CurvekeyHouse", "isBox", "(IIII)Z"⟩, 14) := ⟨⟨by decide +kernel, by decide +kernel⟩, List.mem_of_getElem? (i := 20) (by decide +kernel), List.mem_of_getElem? (i := 519) (by decide +kernel), List.mem_of_getElem? (i := 520) (by decide +kernel)⟩
theorem lw_p11 : lw_okq (⟨"CurvekeyHouse", "isPlace", "(II)Z"⟩, 14) := ⟨⟨by decide +kernel, by decide +kernel⟩, List.mem_of_getElem? (i := 20) (by decide +kernel), List.mem_of_getElem? (i := 523) (by decide +kernel), List.mem_of_getElem? (i := 524) (by decide +kernel)⟩
theorem lw_p12 : lw_okq (⟨"CurvekeyHouse", "holderAt", "(II)I"⟩, 14) := ⟨⟨by decide +kernel, by decide +kernel⟩, List.mem_of_getElem? (i := 20) (by decide +kernel), List.mem_of_getElem? (i := 576) (by decide +kernel), List.mem_of_getElem? (i := 577) (by decide +kernel)⟩
theorem lw_p13 : lw_okq (⟨"CurvekeyHouse", "keyAt", "(II)I"⟩, 14) := ⟨⟨by decide +kernel, by decide +kernel⟩, List.mem_of_getElem? (i := 20) (by decide +kernel), List.mem_of_getElem? (i := 580) (by decide +kernel), List.mem_of_getElem? (i := 581) (by decide +kernel)⟩
theorem lw_p14 : lw_okq (⟨"CurvekeyHouse", "putNew", "(II)I"⟩, 14) := ⟨⟨by decide +kernel, by decide +kernel⟩, List.mem_of_getElem? (i := 20) (by decide +kernel), List.mem_of_getElem? (i := 610) (by decide +kernel), List.mem_of_getElem? (i := 611) (by decide +kernel)⟩
theorem lw_p15 : lw_okq (⟨"CurvekeyHouse", "arrive", "(III)V"⟩, 14) := ⟨⟨by decide +kernel, by decide +kernel⟩, List.mem_of_getElem? (i := 20) (by decide +kernel), List.mem_of_getElem? (i := 632) (by decide +kernel), List.mem_of_getElem? (i := 633) (by decide +kernel)⟩
def lw_privs_1 : List (MethodName × Nat) := [(⟨"CurvekeyHouse$Curves", "enterStep", "(III)V"⟩, 7), (⟨"CurvekeyHouse$Curves", "walk", "(I)V"⟩, 7), (⟨"CurvekeyHouse$Curves", "reckon", "(III)I"⟩, 7), (⟨"CurvekeyHouse$Curves", "fold", "(III)I"⟩, 7), (⟨"CurvekeyHouse$Curves", "jumps", "(I)I"⟩, 7), (⟨"CurvekeyHouse$Curves", "isBeside", "(III)Z"⟩, 7), (⟨"CurvekeyHouse$Curves", "weighNeighbours", "(I)V"⟩, 7), (⟨"java/lang/Throwable", "fillInStackTrace", "(I)Ljava/lang/Throwable;"⟩, 6), (⟨"CurvekeyHouse", "storeFact", "(I)I"⟩, 14), (⟨"CurvekeyHouse", "countFact", "(I)I"⟩, 14), (⟨"CurvekeyHouse", "isBox", "(IIII)Z"⟩, 14), (⟨"CurvekeyHouse", "isPlace", "(II)Z"⟩, 14), (⟨"CurvekeyHouse", "holderAt", "(II)I"⟩, 14), (⟨"CurvekeyHouse", "keyAt", "(II)I"⟩, 14), (⟨"CurvekeyHouse", "putNew", "(II)I"⟩, 14), (⟨"CurvekeyHouse", "arrive", "(III)V"⟩, 14)]
theorem lw_r1 : ∀ q ∈ lw_privs_1, lw_okq q := List.forall_mem_cons.mpr ⟨lw_p0, List.forall_mem_cons.mpr ⟨lw_p1, List.forall_mem_cons.mpr ⟨lw_p2, List.forall_mem_cons.mpr ⟨lw_p3, List.forall_mem_cons.mpr ⟨lw_p4, List.forall_mem_cons.mpr ⟨lw_p5, List.forall_mem_cons.mpr ⟨lw_p6, List.forall_mem_cons.mpr ⟨lw_p7, List.forall_mem_cons.mpr ⟨lw_p8, List.forall_mem_cons.mpr ⟨lw_p9, List.forall_mem_cons.mpr ⟨lw_p10, List.forall_mem_cons.mpr ⟨lw_p11, List.forall_mem_cons.mpr ⟨lw_p12, List.forall_mem_cons.mpr ⟨lw_p13, List.forall_mem_cons.mpr ⟨lw_p14, List.forall_mem_cons.mpr ⟨lw_p15, fun _ h => absurd h List.not_mem_nil⟩⟩⟩⟩⟩⟩⟩⟩⟩⟩⟩⟩⟩⟩⟩⟩
theorem lw_p16 : lw_okq (⟨"CurvekeyHouse$Pages", "entryIn", "(II)I"⟩, 7) := ⟨⟨by decide +kernel, by decide +kernel⟩, List.mem_of_getElem? (i := 200) (by decide +kernel), List.mem_of_getElem? (i := 663) (by decide +kernel), List.mem_of_getElem? (i := 664) (by decide +kernel)⟩
theorem lw_p17 : lw_okq (⟨"CurvekeyHouse", "relocate", "(III)V"⟩, 14) := ⟨⟨by decide +kernel, by decide +kernel⟩, List.mem_of_getElem? (i := 20) (by decide +kernel), List.mem_of_getElem? (i := 732) (by decide +kernel), List.mem_of_getElem? (i := 733) (by decide +kernel)⟩
theorem lw_p18 : lw_okq (⟨"CurvekeyHouse", "leave", "(I)V"⟩, 14) := ⟨⟨by decide +kernel, by decide +kernel⟩, List.mem_of_getElem? (i := 20) (by decide +kernel), List.mem_of_getElem? (i := 736) (by decide +kernel), List.mem_of_getElem? (i := 737) (by decide +kernel)⟩
theorem lw_p19 : lw_okq (⟨"CurvekeyHouse$Pages", "joinSmall", "()V"⟩, 7) := ⟨⟨by decide +kernel, by decide +kernel⟩, List.mem_of_getElem? (i := 200) (by decide +kernel), List.mem_of_getElem? (i := 776) (by decide +kernel), List.mem_of_getElem? (i := 777) (by decide +kernel)⟩
theorem lw_p20 : lw_okq (⟨"CurvekeyHouse", "isDriven", "(I)Z"⟩, 14) := ⟨⟨by decide +kernel, by decide +kernel⟩, List.mem_of_getElem? (i := 20) (by decide +kernel), List.mem_of_getElem? (i := 806) (by decide +kernel), List.mem_of_getElem? (i := 807) (by decide +kernel)⟩
theorem lw_p21 : lw_okq (⟨"CurvekeyHouse$Tiles", "find", "(II)I"⟩, 5) := ⟨⟨by decide +kernel, by decide +kernel⟩, List.mem_of_getElem? (i := 259) (by decide +kernel), List.mem_of_getElem? (i := 835) (by decide +kernel), List.mem_of_getElem? (i := 836) (by decide +kernel)⟩
theorem lw_p22 : lw_okq (⟨"CurvekeyHouse", "mixStore", "(J)J"⟩, 14) := ⟨⟨by decide +kernel, by decide +kernel⟩, List.mem_of_getElem? (i := 20) (by decide +kernel), List.mem_of_getElem? (i := 864) (by decide +kernel), List.mem_of_getElem? (i := 865) (by decide +kernel)⟩
theorem lw_p23 : lw_okq (⟨"CurvekeyHouse", "mixPoints", "(J)J"⟩, 14) := ⟨⟨by decide +kernel, by decide +kernel⟩, List.mem_of_getElem? (i := 20) (by decide +kernel), List.mem_of_getElem? (i := 876) (by decide +kernel), List.mem_of_getElem? (i := 877) (by decide +kernel)⟩
theorem lw_p24 : lw_okq (⟨"CurvekeyHouse", "pointFact", "(II)I"⟩, 14) := ⟨⟨by decide +kernel, by decide +kernel⟩, List.mem_of_getElem? (i := 20) (by decide +kernel), List.mem_of_getElem? (i := 880) (by decide +kernel), List.mem_of_getElem? (i := 881) (by decide +kernel)⟩
theorem lw_p25 : lw_okq (⟨"CurvekeyHouse", "keyOfPoint", "(I)I"⟩, 14) := ⟨⟨by decide +kernel, by decide +kernel⟩, List.mem_of_getElem? (i := 20) (by decide +kernel), List.mem_of_getElem? (i := 884) (by decide +kernel), List.mem_of_getElem? (i := 885) (by decide +kernel)⟩
theorem lw_p26 : lw_okq (⟨"CurvekeyHouse", "mixPages", "(J)J"⟩, 14) := ⟨⟨by decide +kernel, by decide +kernel⟩, List.mem_of_getElem? (i := 20) (by decide +kernel), List.mem_of_getElem? (i := 903) (by decide +kernel), List.mem_of_getElem? (i := 904) (by decide +kernel)⟩
theorem lw_p27 : lw_okq (⟨"CurvekeyHouse", "pageFact", "(II)I"⟩, 14) := ⟨⟨by decide +kernel, by decide +kernel⟩, List.mem_of_getElem? (i := 20) (by decide +kernel), List.mem_of_getElem? (i := 907) (by decide +kernel), List.mem_of_getElem? (i := 908) (by decide +kernel)⟩
theorem lw_p28 : lw_okq (⟨"CurvekeyHouse$Points", "isPair", "(II)Z"⟩, 7) := ⟨⟨by decide +kernel, by decide +kernel⟩, List.mem_of_getElem? (i := 131) (by decide +kernel), List.mem_of_getElem? (i := 936) (by decide +kernel), List.mem_of_getElem? (i := 937) (by decide +kernel)⟩
theorem lw_p29 : lw_okq (⟨"CurvekeyHouse$Line", "errorOn", "(II)I"⟩, 2) := ⟨⟨by decide +kernel, by decide +kernel⟩, List.mem_of_getElem? (i := 304) (by decide +kernel), List.mem_of_getElem? (i := 955) (by decide +kernel), List.mem_of_getElem? (i := 956) (by decide +kernel)⟩
theorem lw_p30 : lw_okq (⟨"CurvekeyHouse$Line", "guessOn", "(III)I"⟩, 2) := ⟨⟨by decide +kernel, by decide +kernel⟩, List.mem_of_getElem? (i := 304) (by decide +kernel), List.mem_of_getElem? (i := 960) (by decide +kernel), List.mem_of_getElem? (i := 961) (by decide +kernel)⟩
theorem lw_p31 : lw_okq (⟨"CurvekeyHouse", "mixMachines", "(J)J"⟩, 14) := ⟨⟨by decide +kernel, by decide +kernel⟩, List.mem_of_getElem? (i := 20) (by decide +kernel), List.mem_of_getElem? (i := 970) (by decide +kernel), List.mem_of_getElem? (i := 971) (by decide +kernel)⟩
def lw_privs_2 : List (MethodName × Nat) := [(⟨"CurvekeyHouse$Pages", "entryIn", "(II)I"⟩, 7), (⟨"CurvekeyHouse", "relocate", "(III)V"⟩, 14), (⟨"CurvekeyHouse", "leave", "(I)V"⟩, 14), (⟨"CurvekeyHouse$Pages", "joinSmall", "()V"⟩, 7), (⟨"CurvekeyHouse", "isDriven", "(I)Z"⟩, 14), (⟨"CurvekeyHouse$Tiles", "find", "(II)I"⟩, 5), (⟨"CurvekeyHouse", "mixStore", "(J)J"⟩, 14), (⟨"CurvekeyHouse", "mixPoints", "(J)J"⟩, 14), (⟨"CurvekeyHouse", "pointFact", "(II)I"⟩, 14), (⟨"CurvekeyHouse", "keyOfPoint", "(I)I"⟩, 14), (⟨"CurvekeyHouse", "mixPages", "(J)J"⟩, 14), (⟨"CurvekeyHouse", "pageFact", "(II)I"⟩, 14), (⟨"CurvekeyHouse$Points", "isPair", "(II)Z"⟩, 7), (⟨"CurvekeyHouse$Line", "errorOn", "(II)I"⟩, 2), (⟨"CurvekeyHouse$Line", "guessOn", "(III)I"⟩, 2), (⟨"CurvekeyHouse", "mixMachines", "(J)J"⟩, 14)]
theorem lw_r2 : ∀ q ∈ lw_privs_2, lw_okq q := List.forall_mem_cons.mpr ⟨lw_p16, List.forall_mem_cons.mpr ⟨lw_p17, List.forall_mem_cons.mpr ⟨lw_p18, List.forall_mem_cons.mpr ⟨lw_p19, List.forall_mem_cons.mpr ⟨lw_p20, List.forall_mem_cons.mpr ⟨lw_p21, List.forall_mem_cons.mpr ⟨lw_p22, List.forall_mem_cons.mpr ⟨lw_p23, List.forall_mem_cons.mpr ⟨lw_p24, List.forall_mem_cons.mpr ⟨lw_p25, List.forall_mem_cons.mpr ⟨lw_p26, List.forall_mem_cons.mpr ⟨lw_p27, List.forall_mem_cons.mpr ⟨lw_p28, List.forall_mem_cons.mpr ⟨lw_p29, List.forall_mem_cons.mpr ⟨lw_p30, List.forall_mem_cons.mpr ⟨lw_p31, fun _ h => absurd h List.not_mem_nil⟩⟩⟩⟩⟩⟩⟩⟩⟩⟩⟩⟩⟩⟩⟩⟩
theorem lw_p32 : lw_okq (⟨"CurvekeyHouse", "machineFact", "(II)I"⟩, 14) := ⟨⟨by decide +kernel, by decide +kernel⟩, List.mem_of_getElem? (i := 20) (by decide +kernel), List.mem_of_getElem? (i := 974) (by decide +kernel), List.mem_of_getElem? (i := 975) (by decide +kernel)⟩
theorem lw_p33 : lw_okq (⟨"CurvekeyHouse", "rivalFact", "(I)I"⟩, 14) := ⟨⟨by decide +kernel, by decide +kernel⟩, List.mem_of_getElem? (i := 20) (by decide +kernel), List.mem_of_getElem? (i := 998) (by decide +kernel), List.mem_of_getElem? (i := 999) (by decide +kernel)⟩
theorem lw_p34 : lw_okq (⟨"CurvekeyHouse", "wholePlane", "()LCurvekeyHouse$Box;"⟩, 14) := ⟨⟨by decide +kernel, by decide +kernel⟩, List.mem_of_getElem? (i := 20) (by decide +kernel), List.mem_of_getElem? (i := 1002) (by decide +kernel), List.mem_of_getElem? (i := 1003) (by decide +kernel)⟩
theorem lw_p35 : lw_okq (⟨"CurvekeyHouse$Cells", "isLeaf", "(III)Z"⟩, 2) := ⟨⟨by decide +kernel, by decide +kernel⟩, List.mem_of_getElem? (i := 239) (by decide +kernel), List.mem_of_getElem? (i := 1013) (by decide +kernel), List.mem_of_getElem? (i := 1014) (by decide +kernel)⟩
theorem lw_p36 : lw_okq (⟨"CurvekeyHouse", "arePointsEntered", "()Z"⟩, 14) := ⟨⟨by decide +kernel, by decide +kernel⟩, List.mem_of_getElem? (i := 20) (by decide +kernel), List.mem_of_getElem? (i := 1041) (by decide +kernel), List.mem_of_getElem? (i := 1042) (by decide +kernel)⟩
theorem lw_p37 : lw_okq (⟨"CurvekeyHouse", "isKey", "(I)Z"⟩, 14) := ⟨⟨by decide +kernel, by decide +kernel⟩, List.mem_of_getElem? (i := 20) (by decide +kernel), List.mem_of_getElem? (i := 1050) (by decide +kernel), List.mem_of_getElem? (i := 1051) (by decide +kernel)⟩
theorem lw_p38 : lw_okq (⟨"CurvekeyHouse", "cutTo", "(LCurvekeyHouse$Box;I)V"⟩, 14) := ⟨⟨by decide +kernel, by decide +kernel⟩, List.mem_of_getElem? (i := 20) (by decide +kernel), List.mem_of_getElem? (i := 1064) (by decide +kernel), List.mem_of_getElem? (i := 1065) (by decide +kernel)⟩
theorem lw_p39 : lw_okq (⟨"CurvekeyHouse$Cut", "closest", "()I"⟩, 4) := ⟨⟨by decide +kernel, by decide +kernel⟩, List.mem_of_getElem? (i := 283) (by decide +kernel), List.mem_of_getElem? (i := 1081) (by decide +kernel), List.mem_of_getElem? (i := 1082) (by decide +kernel)⟩
theorem lw_p40 : lw_okq (⟨"CurvekeyHouse$Cut", "gapBehind", "(I)I"⟩, 4) := ⟨⟨by decide +kernel, by decide +kernel⟩, List.mem_of_getElem? (i := 283) (by decide +kernel), List.mem_of_getElem? (i := 1085) (by decide +kernel), List.mem_of_getElem? (i := 1086) (by decide +kernel)⟩
theorem lw_p41 : lw_okq (⟨"CurvekeyHouse$Cut", "joinBehind", "(I)V"⟩, 4) := ⟨⟨by decide +kernel, by decide +kernel⟩, List.mem_of_getElem? (i := 283) (by decide +kernel), List.mem_of_getElem? (i := 1090) (by decide +kernel), List.mem_of_getElem? (i := 1091) (by decide +kernel)⟩
theorem lw_p42 : lw_okq (⟨"CurvekeyHouse", "runsOf", "(ILCurvekeyHouse$Box;)I"⟩, 14) := ⟨⟨by decide +kernel, by decide +kernel⟩, List.mem_of_getElem? (i := 20) (by decide +kernel), List.mem_of_getElem? (i := 1117) (by decide +kernel), List.mem_of_getElem? (i := 1118) (by decide +kernel)⟩
theorem lw_p43 : lw_okq (⟨"CurvekeyHouse$Points", "nearerThan", "(III)I"⟩, 7) := ⟨⟨by decide +kernel, by decide +kernel⟩, List.mem_of_getElem? (i := 131) (by decide +kernel), List.mem_of_getElem? (i := 1137) (by decide +kernel), List.mem_of_getElem? (i := 1138) (by decide +kernel)⟩
theorem lw_p44 : lw_okq (⟨"CurvekeyHouse", "boxAround", "(III)LCurvekeyHouse$Box;"⟩, 14) := ⟨⟨by decide +kernel, by decide +kernel⟩, List.mem_of_getElem? (i := 20) (by decide +kernel), List.mem_of_getElem? (i := 1153) (by decide +kernel), List.mem_of_getElem? (i := 1154) (by decide +kernel)⟩
def lw_privs_3 : List (MethodName × Nat) := [(⟨"CurvekeyHouse", "machineFact", "(II)I"⟩, 14), (⟨"CurvekeyHouse", "rivalFact", "(I)I"⟩, 14), (⟨"CurvekeyHouse", "wholePlane", "()LCurvekeyHouse$Box;"⟩, 14), (⟨"CurvekeyHouse$Cells", "isLeaf", "(III)Z"⟩, 2), (⟨"CurvekeyHouse", "arePointsEntered", "()Z"⟩, 14), (⟨"CurvekeyHouse", "isKey", "(I)Z"⟩, 14), (⟨"CurvekeyHouse", "cutTo", "(LCurvekeyHouse$Box;I)V"⟩, 14), (⟨"CurvekeyHouse$Cut", "closest", "()I"⟩, 4), (⟨"CurvekeyHouse$Cut", "gapBehind", "(I)I"⟩, 4), (⟨"CurvekeyHouse$Cut", "joinBehind", "(I)V"⟩, 4), (⟨"CurvekeyHouse", "runsOf", "(ILCurvekeyHouse$Box;)I"⟩, 14), (⟨"CurvekeyHouse$Points", "nearerThan", "(III)I"⟩, 7), (⟨"CurvekeyHouse", "boxAround", "(III)LCurvekeyHouse$Box;"⟩, 14)]
theorem lw_r3 : ∀ q ∈ lw_privs_3, lw_okq q := List.forall_mem_cons.mpr ⟨lw_p32, List.forall_mem_cons.mpr ⟨lw_p33, List.forall_mem_cons.mpr ⟨lw_p34, List.forall_mem_cons.mpr ⟨lw_p35, List.forall_mem_cons.mpr ⟨lw_p36, List.forall_mem_cons.mpr ⟨lw_p37, List.forall_mem_cons.mpr ⟨lw_p38, List.forall_mem_cons.mpr ⟨lw_p39, List.forall_mem_cons.mpr ⟨lw_p40, List.forall_mem_cons.mpr ⟨lw_p41, List.forall_mem_cons.mpr ⟨lw_p42, List.forall_mem_cons.mpr ⟨lw_p43, List.forall_mem_cons.mpr ⟨lw_p44, fun _ h => absurd h List.not_mem_nil⟩⟩⟩⟩⟩⟩⟩⟩⟩⟩⟩⟩⟩
def lw_privs : List (MethodName × Nat) := lw_privs_1 ++ (lw_privs_2 ++ (lw_privs_3))
def lw_tbl : List Cond := k2_sels lw_privs ++ tables_1
theorem lw_privs_ok : ∀ q ∈ lw_privs, lw_okq q := by
  show ∀ q ∈ lw_privs_1 ++ (lw_privs_2 ++ (lw_privs_3)), lw_okq q
  exact List.forall_mem_append.mpr ⟨lw_r1, List.forall_mem_append.mpr ⟨lw_r2, lw_r3⟩⟩
-- ===== end of PART A; then your names; then what follows =====
/-! THE CLAIM OUT OF ONE WALK OF THE LAW'S BODY. Your part is whole_start (and what it stands on); all else here is the same for every law, but numbers. -/
def R_law : String := "CurvekeyHouseLaw"
def lw_P (b : Addr) (xs : List Int32) (args : Array Value) (s : State) : Prop := args = #[.ref b] ∧ s.IntsAt b xs ∧ xs.length ≤ 260 ∧ (Jvm.Cond.and given_1 narrow_1).before args s = true
def lw_Q (_ : Array Value) (s : State) (o : Outcome) (t : State) : Prop := o = .returned (some (.int 1)) ∧ Framed s o t [] 600074 7301550
def lw_Z (below : List Frame) (a : Array Value) (s : State) : State → Prop := fun t => ∃ o, t.status = .running ∧ Ended t below o ∧ lw_Q a s o t
/-- the law's own end, with 1 on the stack, nothing written that was there before, its room as the claim has it -/
theorem lw_ret {p : Program} {l : Launch} {e : Env} {s : State} {m : MethodId} {below : List Frame} {meth : Method} {c : Code} {b : Nat} (hx : p.tables.exec = Jvm.exec) (hb : c.code = code) (hr : meth.sig.returnType = ret) (hlocks : meth.locks = false) {pc : Nat} {H : Heap} {ls : Array Slot} (hdg : decode code pc = .ok (.ireturn, 1)) : W p l e room_1 s m #[Value.ref b] below meth c H [] 600074 7301550 (lw_Z below #[Value.ref b] s) (F0 m pc ls [.int 1]) := by
  intro T hT X
  obtain ⟨fs, hret, hrun, hended, hW, hframe⟩ := X.leave (v := some (.int 1)) (hlocks := hlocks) (fun h => by rw [hr] at h; cases h)
  have hmeth' : T.vm.method? m = some meth := X.method'
  refine ⟨T.setFrames fs, ?_, .returned (some (.int 1)), hrun, hended, rfl, ⟨_, rfl⟩, hW, hframe⟩
  jvm_step X.here [X.here.top, hx, hb, hdg, hmeth', hr, ret, narrow_b1]
  (try refine ⟨rfl, ?_⟩); (try refine ⟨rfl, ?_⟩)
  first | (intro acts; rw [hret _ acts rfl rfl rfl]) | rw [hret _ _ rfl rfl rfl]
  exact Steps.refl _
/-- what holds at the law's entry: the machine, the code, the tables' words (any of lw_tbl by 'hts w (by decide +kernel)'), the script of L ints xs at the cell b, what the Statement gives of the start (any of its parts by flat_of_before) -/
def lw_At (p : Program) (s : State) (m : MethodId) (meth : Method) (c : Code) (b L : Nat) (xs : Nat → Int32) : Prop :=
  p.tables.exec = Jvm.exec ∧ c.code = code ∧ meth.sig.returnType = ret ∧ c.maxLocals = 9 ∧ s.vm.findClass R_law = some m.cls ∧ (∀ w ∈ lw_tbl, w.before #[Value.ref b] s = true) ∧ va_X b L xs s s.heap ∧ b < s.heap.size ∧ meth.locks = false ∧ (Jvm.Cond.and given_1 narrow_1).before #[Value.ref b] s = true
end
section
def hm_T0 : u_T := fun k => match k with
  | 0 => ("CurvekeyHouse$Box", "x", "I", true)
  | 1 => ("CurvekeyHouse$Box", "y", "I", true)
  | 2 => ("CurvekeyHouse$Box", "wide", "I", true)
  | _ => ("CurvekeyHouse$Box", "high", "I", true)
def hm_T1 : u_T := fun k => match k with
  | 0 => ("CurvekeyHouse$Cells", "counts", "LCurvekeyHouse$Row;", true)
  | _ => ("CurvekeyHouse$Cells", "order", "I", false)
def hm_T2 : u_T := fun k => match k with
  | 0 => ("CurvekeyHouse$Curves", "steps", "LCurvekeyHouse$Row;", true)
  | 1 => ("CurvekeyHouse$Curves", "turns", "LCurvekeyHouse$Row;", true)
  | 2 => ("CurvekeyHouse$Curves", "keys", "LCurvekeyHouse$Row;", true)
  | 3 => ("CurvekeyHouse$Curves", "places", "LCurvekeyHouse$Row;", true)
  | 4 => ("CurvekeyHouse$Curves", "facts", "LCurvekeyHouse$Row;", true)
  | 5 => ("CurvekeyHouse$Curves", "order", "I", false)
  | _ => ("CurvekeyHouse$Curves", "side", "I", false)
def hm_T3 : u_T := fun k => match k with
  | 0 => ("CurvekeyHouse$Cut", "begins", "LCurvekeyHouse$Row;", true)
  | 1 => ("CurvekeyHouse$Cut", "ends", "LCurvekeyHouse$Row;", true)
  | 2 => ("CurvekeyHouse$Cut", "size", "I", false)
  | _ => ("CurvekeyHouse$Cut", "falseKeys", "I", false)
def hm_T4 : u_T := fun k => match k with
  | 0 => ("CurvekeyHouse$History", "xs", "LCurvekeyHouse$Row;", true)
  | 1 => ("CurvekeyHouse$History", "ys", "LCurvekeyHouse$Row;", true)
  | 2 => ("CurvekeyHouse$History", "begins", "LCurvekeyHouse$Row;", true)
  | 3 => ("CurvekeyHouse$History", "ends", "LCurvekeyHouse$Row;", true)
  | 4 => ("CurvekeyHouse$History", "lastSpells", "LCurvekeyHouse$Row;", true)
  | 5 => ("CurvekeyHouse$History", "spellCounts", "LCurvekeyHouse$Row;", true)
  | 6 => ("CurvekeyHouse$History", "births", "LCurvekeyHouse$Row;", true)
  | 7 => ("CurvekeyHouse$History", "farewells", "LCurvekeyHouse$Row;", true)
  | 8 => ("CurvekeyHouse$History", "size", "I", false)
  | _ => ("CurvekeyHouse$History", "version", "I", false)
def hm_T5 : u_T := fun k => match k with
  | 0 => ("CurvekeyHouse$Line", "keys", "LCurvekeyHouse$Row;", true)
  | _ => ("CurvekeyHouse$Line", "size", "I", false)
def hm_T6 : u_T := fun k => match k with
  | 0 => ("CurvekeyHouse$Pages", "holds", "LCurvekeyHouse$Row;", true)
  | 1 => ("CurvekeyHouse$Pages", "floors", "LCurvekeyHouse$Row;", true)
  | 2 => ("CurvekeyHouse$Pages", "keys", "I", false)
  | 3 => ("CurvekeyHouse$Pages", "capacity", "I", false)
  | 4 => ("CurvekeyHouse$Pages", "size", "I", false)
  | 5 => ("CurvekeyHouse$Pages", "tombs", "I", false)
  | _ => ("CurvekeyHouse$Pages", "splits", "I", false)
def hm_T7 : u_T := fun k => match k with
  | 0 => ("CurvekeyHouse$Points", "xs", "LCurvekeyHouse$Row;", true)
  | 1 => ("CurvekeyHouse$Points", "ys", "LCurvekeyHouse$Row;", true)
  | 2 => ("CurvekeyHouse$Points", "alive", "LCurvekeyHouse$Row;", true)
  | 3 => ("CurvekeyHouse$Points", "speedXs", "LCurvekeyHouse$Row;", true)
  | 4 => ("CurvekeyHouse$Points", "speedYs", "LCurvekeyHouse$Row;", true)
  | 5 => ("CurvekeyHouse$Points", "size", "I", false)
  | _ => ("CurvekeyHouse$Points", "living", "I", false)
def hm_T8 : u_T := fun k => match k with
  | _ => ("CurvekeyHouse$Row", "numbers", "[I", true)
def hm_T9 : u_T := fun k => match k with
  | 0 => ("CurvekeyHouse$Tiles", "levels", "LCurvekeyHouse$Row;", true)
  | 1 => ("CurvekeyHouse$Tiles", "cellsDrawn", "LCurvekeyHouse$Row;", true)
  | 2 => ("CurvekeyHouse$Tiles", "told", "LCurvekeyHouse$Row;", true)
  | 3 => ("CurvekeyHouse$Tiles", "stale", "LCurvekeyHouse$Row;", true)
  | _ => ("CurvekeyHouse$Tiles", "size", "I", false)
def hm_T10 : u_T := fun k => match k with
  | 0 => ("CurvekeyHouse", "curves", "LCurvekeyHouse$Curves;", true)
  | 1 => ("CurvekeyHouse", "points", "LCurvekeyHouse$Points;", true)
  | 2 => ("CurvekeyHouse", "history", "LCurvekeyHouse$History;", true)
  | 3 => ("CurvekeyHouse", "pages", "LCurvekeyHouse$Pages;", true)
  | 4 => ("CurvekeyHouse", "cells", "LCurvekeyHouse$Cells;", true)
  | 5 => ("CurvekeyHouse", "tiles", "LCurvekeyHouse$Tiles;", true)
  | 6 => ("CurvekeyHouse", "window", "LCurvekeyHouse$Cut;", true)
  | 7 => ("CurvekeyHouse", "line", "LCurvekeyHouse$Line;", true)
  | 8 => ("CurvekeyHouse", "curve", "I", false)
  | 9 => ("CurvekeyHouse", "machines", "I", false)
  | 10 => ("CurvekeyHouse", "searches", "I", false)
  | 11 => ("CurvekeyHouse", "reads", "I", false)
  | 12 => ("CurvekeyHouse", "barred", "I", false)
  | _ => ("CurvekeyHouse", "refused", "I", false)
def hm_ty0 : Nat → FieldType := fun k => match k with
  | 0 => .int
  | 1 => .int
  | 2 => .int
  | _ => .int
def hm_ty1 : Nat → FieldType := fun k => match k with
  | 0 => .object "CurvekeyHouse$Row"
  | _ => .int
def hm_ty2 : Nat → FieldType := fun k => match k with
  | 0 => .object "CurvekeyHouse$Row"
  | 1 => .object "CurvekeyHouse$Row"
  | 2 => .object "CurvekeyHouse$Row"
  | 3 => .object "CurvekeyHouse$Row"
  | 4 => .object "CurvekeyHouse$Row"
  | 5 => .int
  | _ => .int
def hm_ty3 : Nat → FieldType := fun k => match k with
  | 0 => .object "CurvekeyHouse$Row"
  | 1 => .object "CurvekeyHouse$Row"
  | 2 => .int
  | _ => .int
def hm_ty4 : Nat → FieldType := fun k => match k with
  | 0 => .object "CurvekeyHouse$Row"
  | 1 => .object "CurvekeyHouse$Row"
  | 2 => .object "CurvekeyHouse$Row"
  | 3 => .object "CurvekeyHouse$Row"
  | 4 => .object "CurvekeyHouse$Row"
  | 5 => .object "CurvekeyHouse$Row"
  | 6 => .object "CurvekeyHouse$Row"
  | 7 => .object "CurvekeyHouse$Row"
  | 8 => .int
  | _ => .int
def hm_ty5 : Nat → FieldType := fun k => match k with
  | 0 => .object "CurvekeyHouse$Row"
  | _ => .int
def hm_ty6 : Nat → FieldType := fun k => match k with
  | 0 => .object "CurvekeyHouse$Row"
  | 1 => .object "CurvekeyHouse$Row"
  | 2 => .int
  | 3 => .int
  | 4 => .int
  | 5 => .int
  | _ => .int
def hm_ty7 : Nat → FieldType := fun k => match k with
  | 0 => .object "CurvekeyHouse$Row"
  | 1 => .object "CurvekeyHouse$Row"
  | 2 => .object "CurvekeyHouse$Row"
  | 3 => .object "CurvekeyHouse$Row"
  | 4 => .object "CurvekeyHouse$Row"
  | 5 => .int
  | _ => .int
def hm_ty8 : Nat → FieldType := fun k => match k with
  | _ => .array .int
def hm_ty9 : Nat → FieldType := fun k => match k with
  | 0 => .object "CurvekeyHouse$Row"
  | 1 => .object "CurvekeyHouse$Row"
  | 2 => .object "CurvekeyHouse$Row"
  | 3 => .object "CurvekeyHouse$Row"
  | _ => .int
def hm_ty10 : Nat → FieldType := fun k => match k with
  | 0 => .object "CurvekeyHouse$Curves"
  | 1 => .object "CurvekeyHouse$Points"
  | 2 => .object "CurvekeyHouse$History"
  | 3 => .object "CurvekeyHouse$Pages"
  | 4 => .object "CurvekeyHouse$Cells"
  | 5 => .object "CurvekeyHouse$Tiles"
  | 6 => .object "CurvekeyHouse$Cut"
  | 7 => .object "CurvekeyHouse$Line"
  | 8 => .int
  | 9 => .int
  | 10 => .int
  | 11 => .int
  | 12 => .int
  | _ => .int
abbrev hm_cls : List vw_C := [("CurvekeyHouse$Box", hm_T0, 4), ("CurvekeyHouse$Cells", hm_T1, 2), ("CurvekeyHouse$Curves", hm_T2, 7), ("CurvekeyHouse$Cut", hm_T3, 4), ("CurvekeyHouse$History", hm_T4, 10), ("CurvekeyHouse$Line", hm_T5, 2), ("CurvekeyHouse$Pages", hm_T6, 7), ("CurvekeyHouse$Points", hm_T7, 7), ("CurvekeyHouse$Row", hm_T8, 1), ("CurvekeyHouse$Tiles", hm_T9, 5), ("CurvekeyHouse", hm_T10, 14)]
def hm_tys : List (Nat → FieldType) := [hm_ty0, hm_ty1, hm_ty2, hm_ty3, hm_ty4, hm_ty5, hm_ty6, hm_ty7, hm_ty8, hm_ty9, hm_ty10]
def hm_nf (c : Nat) : Nat := match c with
  | 0 => 4
  | 1 => 2
  | 2 => 7
  | 3 => 4
  | 4 => 10
  | 5 => 2
  | 6 => 7
  | 7 => 7
  | 8 => 1
  | 9 => 5
  | 10 => 14
  | _ => 0
def hm_isR (c j : Nat) : Bool := match c with
  | 0 => Nat.blt j 0
  | 1 => Nat.blt j 1
  | 2 => Nat.blt j 5
  | 3 => Nat.blt j 2
  | 4 => Nat.blt j 8
  | 5 => Nat.blt j 1
  | 6 => Nat.blt j 2
  | 7 => Nat.blt j 5
  | 8 => Nat.blt j 1
  | 9 => Nat.blt j 4
  | 10 => Nat.blt j 8
  | _ => false
def hm_cp : List (Nat × Nat) := [(576, 63), (284, 53), (73, 47), (328, 55), (206, 51), (349, 56), (245, 52), (176, 50), (79, 48), (304, 54), (65, 46)]
/-- the methods: name, bytes, locals, what they answer -/
def hm_ms : List (MethodName × ByteArray × Nat × Option FieldType) := [
  (⟨"CurvekeyHouse", "<init>", "()V"⟩, prog_1_method_1_code, 1, none),
  (⟨"CurvekeyHouse", "key", "(III)I"⟩, prog_1_method_3_code, 4, some .int),
  (⟨"CurvekeyHouse", "place", "(IIZ)I"⟩, prog_1_method_4_code, 4, some .int),
  (⟨"CurvekeyHouse", "runs", "(IIIII)I"⟩, prog_1_method_6_code, 6, some .int),
  (⟨"CurvekeyHouse", "found", "(III)I"⟩, prog_1_method_9_code, 4, some .int),
  (⟨"CurvekeyHouse", "put", "(II)I"⟩, prog_1_method_10_code, 3, some .int),
  (⟨"CurvekeyHouse", "bulk", "(II)I"⟩, prog_1_method_11_code, 8, some .int),
  (⟨"CurvekeyHouse", "move", "(III)I"⟩, prog_1_method_12_code, 5, some .int),
  (⟨"CurvekeyHouse", "remove", "(I)I"⟩, prog_1_method_13_code, 2, some .int),
  (⟨"CurvekeyHouse", "sweep", "()I"⟩, prog_1_method_14_code, 1, some .int),
  (⟨"CurvekeyHouse", "ofPoint", "(II)I"⟩, prog_1_method_15_code, 3, some .int),
  (⟨"CurvekeyHouse", "many", "(I)I"⟩, prog_1_method_17_code, 2, some .int),
  (⟨"CurvekeyHouse", "cut", "(IIIIII)I"⟩, prog_1_method_18_code, 7, some .int),
  (⟨"CurvekeyHouse", "asOf", "(IIIII)I"⟩, prog_1_method_20_code, 6, some .int),
  (⟨"CurvekeyHouse", "soon", "(IIIII)I"⟩, prog_1_method_21_code, 6, some .int),
  (⟨"CurvekeyHouse", "nearest", "(III)I"⟩, prog_1_method_22_code, 4, some .int),
  (⟨"CurvekeyHouse", "proof", "(III)I"⟩, prog_1_method_23_code, 5, some .int),
  (⟨"CurvekeyHouse", "speed", "(III)I"⟩, prog_1_method_27_code, 4, some .int),
  (⟨"CurvekeyHouse", "tick", "(I)I"⟩, prog_1_method_28_code, 5, some .int),
  (⟨"CurvekeyHouse", "guess", "(IZ)I"⟩, prog_1_method_29_code, 3, some .int),
  (⟨"CurvekeyHouse", "pieces", "(I)I"⟩, prog_1_method_31_code, 2, some .int),
  (⟨"CurvekeyHouse", "share", "(I)I"⟩, prog_1_method_32_code, 4, some .int),
  (⟨"CurvekeyHouse", "ofMachine", "(II)I"⟩, prog_1_method_33_code, 3, some .int),
  (⟨"CurvekeyHouse", "skew", "()I"⟩, prog_1_method_34_code, 5, some .int),
  (⟨"CurvekeyHouse", "density", "(II)I"⟩, prog_1_method_35_code, 3, some .int),
  (⟨"CurvekeyHouse", "blur", "(II)I"⟩, prog_1_method_37_code, 3, some .int),
  (⟨"CurvekeyHouse", "draw", "(II)I"⟩, prog_1_method_38_code, 4, some .int),
  (⟨"CurvekeyHouse", "rival", "(I)I"⟩, prog_1_method_40_code, 2, some .int),
  (⟨"CurvekeyHouse", "rivalReads", "(IIII)I"⟩, prog_1_method_41_code, 5, some .int),
  (⟨"CurvekeyHouse", "isSound", "()Z"⟩, prog_1_method_43_code, 1, some .boolean),
  (⟨"CurvekeyHouse", "digest", "()J"⟩, prog_1_method_45_code, 4, some .long),
  (⟨"CurvekeyHouse", "needArgument", "(Z)V"⟩, prog_1_method_46_code, 1, none),
  (⟨"CurvekeyHouse", "needState", "(Z)V"⟩, prog_1_method_47_code, 1, none),
  (⟨"CurvekeyHouse", "needIndex", "(Z)V"⟩, prog_1_method_48_code, 1, none),
  (⟨"CurvekeyHouse", "isBetween", "(III)Z"⟩, prog_1_method_49_code, 3, some .boolean),
  (⟨"CurvekeyHouse", "isCurve", "(I)Z"⟩, prog_1_method_50_code, 1, some .boolean),
  (⟨"CurvekeyHouse", "isKey", "(I)Z"⟩, prog_1_method_52_code, 2, some .boolean),
  (⟨"CurvekeyHouse", "isPlace", "(II)Z"⟩, prog_1_method_53_code, 3, some .boolean),
  (⟨"CurvekeyHouse", "isBox", "(IIII)Z"⟩, prog_1_method_55_code, 5, some .boolean),
  (⟨"CurvekeyHouse", "keyAt", "(II)I"⟩, prog_1_method_56_code, 3, some .int),
  (⟨"CurvekeyHouse", "keyOfPoint", "(I)I"⟩, prog_1_method_57_code, 2, some .int),
  (⟨"CurvekeyHouse", "holderAt", "(II)I"⟩, prog_1_method_58_code, 3, some .int),
  (⟨"CurvekeyHouse", "nextOfRow", "(I)I"⟩, prog_1_method_59_code, 1, some .int),
  (⟨"CurvekeyHouse", "putNew", "(II)I"⟩, prog_1_method_60_code, 4, some .int),
  (⟨"CurvekeyHouse", "relocate", "(III)V"⟩, prog_1_method_61_code, 4, none),
  (⟨"CurvekeyHouse", "arrive", "(III)V"⟩, prog_1_method_62_code, 4, none),
  (⟨"CurvekeyHouse", "leave", "(I)V"⟩, prog_1_method_63_code, 4, none),
  (⟨"CurvekeyHouse", "isDriven", "(I)Z"⟩, prog_1_method_64_code, 5, some .boolean),
  (⟨"CurvekeyHouse", "runsOf", "(ILCurvekeyHouse$Box;)I"⟩, prog_1_method_65_code, 3, some .int),
  (⟨"CurvekeyHouse", "cutTo", "(LCurvekeyHouse$Box;I)V"⟩, prog_1_method_66_code, 3, none),
  (⟨"CurvekeyHouse", "wholePlane", "()LCurvekeyHouse$Box;"⟩, prog_1_method_67_code, 1, some (.object "CurvekeyHouse$Box")),
  (⟨"CurvekeyHouse", "boxAround", "(III)LCurvekeyHouse$Box;"⟩, prog_1_method_68_code, 8, some (.object "CurvekeyHouse$Box")),
  (⟨"CurvekeyHouse", "rootAbove", "(I)I"⟩, prog_1_method_69_code, 3, some .int),
  (⟨"CurvekeyHouse", "pointFact", "(II)I"⟩, prog_1_method_70_code, 3, some .int),
  (⟨"CurvekeyHouse", "pageFact", "(II)I"⟩, prog_1_method_71_code, 3, some .int),
  (⟨"CurvekeyHouse", "storeFact", "(I)I"⟩, prog_1_method_72_code, 2, some .int),
  (⟨"CurvekeyHouse", "countFact", "(I)I"⟩, prog_1_method_73_code, 2, some .int),
  (⟨"CurvekeyHouse", "machineFact", "(II)I"⟩, prog_1_method_74_code, 3, some .int),
  (⟨"CurvekeyHouse", "rivalFact", "(I)I"⟩, prog_1_method_75_code, 3, some .int),
  (⟨"CurvekeyHouse", "arePointsEntered", "()Z"⟩, prog_1_method_76_code, 4, some .boolean),
  (⟨"CurvekeyHouse", "mix", "(JJ)J"⟩, prog_1_method_77_code, 4, some .long),
  (⟨"CurvekeyHouse", "mixStore", "(J)J"⟩, prog_1_method_78_code, 7, some .long),
  (⟨"CurvekeyHouse", "mixPoints", "(J)J"⟩, prog_1_method_79_code, 7, some .long),
  (⟨"CurvekeyHouse", "mixPages", "(J)J"⟩, prog_1_method_80_code, 7, some .long),
  (⟨"CurvekeyHouse", "mixMachines", "(J)J"⟩, prog_1_method_81_code, 7, some .long),
  (⟨"CurvekeyHouse$Box", "<init>", "(IIII)V"⟩, prog_2_method_1_code, 5, none),
  (⟨"CurvekeyHouse$Box", "has", "(II)Z"⟩, prog_2_method_2_code, 3, some .boolean),
  (⟨"CurvekeyHouse$Box", "meets", "(III)Z"⟩, prog_2_method_3_code, 4, some .boolean),
  (⟨"CurvekeyHouse$Cells", "<init>", "(I)V"⟩, prog_3_method_1_code, 2, none),
  (⟨"CurvekeyHouse$Cells", "clear", "(I)V"⟩, prog_3_method_2_code, 2, none),
  (⟨"CurvekeyHouse$Cells", "isLevel", "(I)Z"⟩, prog_3_method_3_code, 2, some .boolean),
  (⟨"CurvekeyHouse$Cells", "isCell", "(II)Z"⟩, prog_3_method_4_code, 3, some .boolean),
  (⟨"CurvekeyHouse$Cells", "cellsOf", "(I)I"⟩, prog_3_method_5_code, 1, some .int),
  (⟨"CurvekeyHouse$Cells", "indexOf", "(II)I"⟩, prog_3_method_6_code, 2, some .int),
  (⟨"CurvekeyHouse$Cells", "cellAt", "(III)I"⟩, prog_3_method_7_code, 5, some .int),
  (⟨"CurvekeyHouse$Cells", "countIn", "(II)I"⟩, prog_3_method_8_code, 3, some .int),
  (⟨"CurvekeyHouse$Cells", "count", "(III)V"⟩, prog_3_method_9_code, 5, none),
  (⟨"CurvekeyHouse$Cells", "deepestWith", "(III)I"⟩, prog_3_method_12_code, 5, some .int),
  (⟨"CurvekeyHouse$Cells", "isLeaf", "(III)Z"⟩, prog_3_method_13_code, 5, some .boolean),
  (⟨"CurvekeyHouse$Cells", "columnOf", "(II)I"⟩, prog_3_method_14_code, 2, some .int),
  (⟨"CurvekeyHouse$Cells", "parentOf", "(II)I"⟩, prog_3_method_15_code, 2, some .int),
  (⟨"CurvekeyHouse$Cells", "leavesIn", "(LCurvekeyHouse$Box;I)I"⟩, prog_3_method_16_code, 9, some .int),
  (⟨"CurvekeyHouse$Cells", "deepestLeaf", "(I)I"⟩, prog_3_method_17_code, 5, some .int),
  (⟨"CurvekeyHouse$Cells", "emptyLeaves", "(I)I"⟩, prog_3_method_18_code, 5, some .int),
  (⟨"CurvekeyHouse$Curves", "<init>", "(I)V"⟩, prog_4_method_1_code, 3, none),
  (⟨"CurvekeyHouse$Curves", "order", "()I"⟩, prog_4_method_2_code, 1, some .int),
  (⟨"CurvekeyHouse$Curves", "side", "()I"⟩, prog_4_method_3_code, 1, some .int),
  (⟨"CurvekeyHouse$Curves", "keyCount", "()I"⟩, prog_4_method_4_code, 1, some .int),
  (⟨"CurvekeyHouse$Curves", "keyOf", "(III)I"⟩, prog_4_method_5_code, 4, some .int),
  (⟨"CurvekeyHouse$Curves", "xOf", "(II)I"⟩, prog_4_method_6_code, 3, some .int),
  (⟨"CurvekeyHouse$Curves", "yOf", "(II)I"⟩, prog_4_method_7_code, 3, some .int),
  (⟨"CurvekeyHouse$Curves", "factOf", "(II)I"⟩, prog_4_method_8_code, 3, some .int),
  (⟨"CurvekeyHouse$Curves", "resize", "(I)V"⟩, prog_4_method_9_code, 3, none),
  (⟨"CurvekeyHouse$Curves", "enterStep", "(III)V"⟩, prog_4_method_11_code, 5, none),
  (⟨"CurvekeyHouse$Curves", "walk", "(I)V"⟩, prog_4_method_14_code, 6, none),
  (⟨"CurvekeyHouse$Curves", "reckon", "(III)I"⟩, prog_4_method_15_code, 4, some .int),
  (⟨"CurvekeyHouse$Curves", "fold", "(III)I"⟩, prog_4_method_16_code, 14, some .int),
  (⟨"CurvekeyHouse$Curves", "jumps", "(I)I"⟩, prog_4_method_17_code, 4, some .int),
  (⟨"CurvekeyHouse$Curves", "isBeside", "(III)Z"⟩, prog_4_method_18_code, 6, some .boolean),
  (⟨"CurvekeyHouse$Curves", "weighNeighbours", "(I)V"⟩, prog_4_method_19_code, 8, none),
  (⟨"CurvekeyHouse$Cut", "<init>", "()V"⟩, prog_5_method_1_code, 1, none),
  (⟨"CurvekeyHouse$Cut", "size", "()I"⟩, prog_5_method_2_code, 1, some .int),
  (⟨"CurvekeyHouse$Cut", "falseKeys", "()I"⟩, prog_5_method_3_code, 1, some .int),
  (⟨"CurvekeyHouse$Cut", "lastBegin", "()I"⟩, prog_5_method_4_code, 1, some .int),
  (⟨"CurvekeyHouse$Cut", "lay", "(LCurvekeyHouse$Curves;ILCurvekeyHouse$Box;)V"⟩, prog_5_method_5_code, 7, none),
  (⟨"CurvekeyHouse$Cut", "joinTo", "(I)V"⟩, prog_5_method_6_code, 3, none),
  (⟨"CurvekeyHouse$Cut", "gapBehind", "(I)I"⟩, prog_5_method_7_code, 2, some .int),
  (⟨"CurvekeyHouse$Cut", "closest", "()I"⟩, prog_5_method_8_code, 3, some .int),
  (⟨"CurvekeyHouse$Cut", "joinBehind", "(I)V"⟩, prog_5_method_9_code, 2, none),
  (⟨"CurvekeyHouse$Cut", "pagesRead", "(LCurvekeyHouse$Pages;)I"⟩, prog_5_method_10_code, 6, some .int),
  (⟨"CurvekeyHouse$History", "<init>", "()V"⟩, prog_6_method_1_code, 1, none),
  (⟨"CurvekeyHouse$History", "clear", "()V"⟩, prog_6_method_2_code, 1, none),
  (⟨"CurvekeyHouse$History", "size", "()I"⟩, prog_6_method_3_code, 1, some .int),
  (⟨"CurvekeyHouse$History", "version", "()I"⟩, prog_6_method_4_code, 1, some .int),
  (⟨"CurvekeyHouse$History", "spellsOf", "(I)I"⟩, prog_6_method_5_code, 2, some .int),
  (⟨"CurvekeyHouse$History", "birthOf", "(I)I"⟩, prog_6_method_6_code, 2, some .int),
  (⟨"CurvekeyHouse$History", "endOf", "(I)I"⟩, prog_6_method_7_code, 2, some .int),
  (⟨"CurvekeyHouse$History", "rise", "()V"⟩, prog_6_method_8_code, 1, none),
  (⟨"CurvekeyHouse$History", "greet", "(I)V"⟩, prog_6_method_9_code, 2, none),
  (⟨"CurvekeyHouse$History", "bid", "(I)V"⟩, prog_6_method_10_code, 2, none),
  (⟨"CurvekeyHouse$History", "begin", "(III)V"⟩, prog_6_method_11_code, 4, none),
  (⟨"CurvekeyHouse$History", "end", "(I)V"⟩, prog_6_method_12_code, 2, none),
  (⟨"CurvekeyHouse$History", "livedIn", "(LCurvekeyHouse$Box;I)I"⟩, prog_6_method_13_code, 5, some .int),
  (⟨"CurvekeyHouse$Line", "<init>", "()V"⟩, prog_7_method_1_code, 1, none),
  (⟨"CurvekeyHouse$Line", "take", "(LCurvekeyHouse$Pages;)V"⟩, prog_7_method_2_code, 3, none),
  (⟨"CurvekeyHouse$Line", "smallerThan", "(I)I"⟩, prog_7_method_3_code, 4, some .int),
  (⟨"CurvekeyHouse$Line", "guessWhole", "(I)I"⟩, prog_7_method_4_code, 2, some .int),
  (⟨"CurvekeyHouse$Line", "errorWhole", "()I"⟩, prog_7_method_5_code, 1, some .int),
  (⟨"CurvekeyHouse$Line", "piecesFor", "(I)I"⟩, prog_7_method_6_code, 5, some .int),
  (⟨"CurvekeyHouse$Line", "guessOn", "(III)I"⟩, prog_7_method_7_code, 6, some .int),
  (⟨"CurvekeyHouse$Line", "errorOn", "(II)I"⟩, prog_7_method_8_code, 5, some .int),
  (⟨"CurvekeyHouse$Pages", "<init>", "(II)V"⟩, prog_8_method_1_code, 3, none),
  (⟨"CurvekeyHouse$Pages", "clear", "(II)V"⟩, prog_8_method_2_code, 3, none),
  (⟨"CurvekeyHouse$Pages", "size", "()I"⟩, prog_8_method_3_code, 1, some .int),
  (⟨"CurvekeyHouse$Pages", "capacity", "()I"⟩, prog_8_method_4_code, 1, some .int),
  (⟨"CurvekeyHouse$Pages", "tombs", "()I"⟩, prog_8_method_5_code, 1, some .int),
  (⟨"CurvekeyHouse$Pages", "splits", "()I"⟩, prog_8_method_6_code, 1, some .int),
  (⟨"CurvekeyHouse$Pages", "keyCount", "()I"⟩, prog_8_method_7_code, 1, some .int),
  (⟨"CurvekeyHouse$Pages", "floorOf", "(I)I"⟩, prog_8_method_8_code, 2, some .int),
  (⟨"CurvekeyHouse$Pages", "pageOf", "(I)I"⟩, prog_8_method_9_code, 4, some .int),
  (⟨"CurvekeyHouse$Pages", "holder", "(I)I"⟩, prog_8_method_10_code, 2, some .int),
  (⟨"CurvekeyHouse$Pages", "entriesIn", "(I)I"⟩, prog_8_method_11_code, 5, some .int),
  (⟨"CurvekeyHouse$Pages", "tombsIn", "(I)I"⟩, prog_8_method_12_code, 5, some .int),
  (⟨"CurvekeyHouse$Pages", "firstIn", "(I)I"⟩, prog_8_method_13_code, 2, some .int),
  (⟨"CurvekeyHouse$Pages", "lastIn", "(I)I"⟩, prog_8_method_14_code, 2, some .int),
  (⟨"CurvekeyHouse$Pages", "entryIn", "(II)I"⟩, prog_8_method_15_code, 6, some .int),
  (⟨"CurvekeyHouse$Pages", "machineOf", "(II)I"⟩, prog_8_method_16_code, 3, some .int),
  (⟨"CurvekeyHouse$Pages", "loadOf", "(II)I"⟩, prog_8_method_17_code, 5, some .int),
  (⟨"CurvekeyHouse$Pages", "ownedBy", "(II)I"⟩, prog_8_method_18_code, 5, some .int),
  (⟨"CurvekeyHouse$Pages", "firstFloorOf", "(II)I"⟩, prog_8_method_19_code, 4, some .int),
  (⟨"CurvekeyHouse$Pages", "enter", "(II)V"⟩, prog_8_method_20_code, 5, none),
  (⟨"CurvekeyHouse$Pages", "bury", "(I)V"⟩, prog_8_method_21_code, 2, none),
  (⟨"CurvekeyHouse$Pages", "clean", "()I"⟩, prog_8_method_22_code, 3, some .int),
  (⟨"CurvekeyHouse$Pages", "joinSmall", "()V"⟩, prog_8_method_23_code, 3, none),
  (⟨"CurvekeyHouse$Pages", "isOrdered", "()Z"⟩, prog_8_method_24_code, 2, some .boolean),
  (⟨"CurvekeyHouse$Points", "<init>", "()V"⟩, prog_9_method_1_code, 1, none),
  (⟨"CurvekeyHouse$Points", "clear", "()V"⟩, prog_9_method_2_code, 1, none),
  (⟨"CurvekeyHouse$Points", "size", "()I"⟩, prog_9_method_3_code, 1, some .int),
  (⟨"CurvekeyHouse$Points", "living", "()I"⟩, prog_9_method_4_code, 1, some .int),
  (⟨"CurvekeyHouse$Points", "isKnown", "(I)Z"⟩, prog_9_method_5_code, 2, some .boolean),
  (⟨"CurvekeyHouse$Points", "isAlive", "(I)Z"⟩, prog_9_method_6_code, 2, some .boolean),
  (⟨"CurvekeyHouse$Points", "x", "(I)I"⟩, prog_9_method_7_code, 2, some .int),
  (⟨"CurvekeyHouse$Points", "y", "(I)I"⟩, prog_9_method_8_code, 2, some .int),
  (⟨"CurvekeyHouse$Points", "speedX", "(I)I"⟩, prog_9_method_9_code, 2, some .int),
  (⟨"CurvekeyHouse$Points", "speedY", "(I)I"⟩, prog_9_method_10_code, 2, some .int),
  (⟨"CurvekeyHouse$Points", "take", "()I"⟩, prog_9_method_11_code, 2, some .int),
  (⟨"CurvekeyHouse$Points", "stand", "(III)V"⟩, prog_9_method_12_code, 4, none),
  (⟨"CurvekeyHouse$Points", "hurry", "(III)V"⟩, prog_9_method_13_code, 4, none),
  (⟨"CurvekeyHouse$Points", "bid", "(I)V"⟩, prog_9_method_14_code, 2, none),
  (⟨"CurvekeyHouse$Points", "soonX", "(III)I"⟩, prog_9_method_15_code, 4, some .int),
  (⟨"CurvekeyHouse$Points", "soonY", "(III)I"⟩, prog_9_method_16_code, 4, some .int),
  (⟨"CurvekeyHouse$Points", "soonIn", "(LCurvekeyHouse$Box;II)I"⟩, prog_9_method_17_code, 6, some .int),
  (⟨"CurvekeyHouse$Points", "farFrom", "(III)I"⟩, prog_9_method_18_code, 6, some .int),
  (⟨"CurvekeyHouse$Points", "nthNearest", "(III)I"⟩, prog_9_method_19_code, 5, some .int),
  (⟨"CurvekeyHouse$Points", "nearerThan", "(III)I"⟩, prog_9_method_20_code, 8, some .int),
  (⟨"CurvekeyHouse$Points", "isPair", "(II)Z"⟩, prog_9_method_24_code, 3, some .boolean),
  (⟨"CurvekeyHouse$Points", "extremeFar", "(Z)I"⟩, prog_9_method_25_code, 6, some .int),
  (⟨"CurvekeyHouse$Row", "<init>", "(I)V"⟩, prog_10_method_1_code, 2, none),
  (⟨"CurvekeyHouse$Row", "at", "(I)I"⟩, prog_10_method_2_code, 2, some .int),
  (⟨"CurvekeyHouse$Row", "set", "(II)V"⟩, prog_10_method_3_code, 3, none),
  (⟨"CurvekeyHouse$Row", "add", "(II)V"⟩, prog_10_method_4_code, 3, none),
  (⟨"CurvekeyHouse$Row", "fill", "(I)V"⟩, prog_10_method_5_code, 3, none),
  (⟨"CurvekeyHouse$Row", "insert", "(III)V"⟩, prog_10_method_6_code, 5, none),
  (⟨"CurvekeyHouse$Row", "drop", "(II)V"⟩, prog_10_method_7_code, 4, none),
  (⟨"CurvekeyHouse$Tiles", "<init>", "()V"⟩, prog_11_method_1_code, 1, none),
  (⟨"CurvekeyHouse$Tiles", "clear", "()V"⟩, prog_11_method_2_code, 1, none),
  (⟨"CurvekeyHouse$Tiles", "size", "()I"⟩, prog_11_method_3_code, 1, some .int),
  (⟨"CurvekeyHouse$Tiles", "find", "(II)I"⟩, prog_11_method_4_code, 4, some .int),
  (⟨"CurvekeyHouse$Tiles", "hasRoomFor", "(II)Z"⟩, prog_11_method_5_code, 3, some .boolean),
  (⟨"CurvekeyHouse$Tiles", "drawAnew", "(III)V"⟩, prog_11_method_6_code, 5, none),
  (⟨"CurvekeyHouse$Tiles", "staleOnes", "()I"⟩, prog_11_method_9_code, 3, some .int),
  (⟨"CurvekeyHouse$Tiles", "spoil", "(LCurvekeyHouse$Cells;II)V"⟩, prog_11_method_10_code, 5, none),
  (⟨"CurvekeyHouseLaw", "below", "(II)I"⟩, method_2_code, 2, some .int),
  (⟨"CurvekeyHouseLaw", "cell", "([II)I"⟩, method_3_code, 2, some .int),
  (⟨"CurvekeyHouseLaw", "law", "([I)Z"⟩, code, 9, some .boolean),
  (⟨"CurvekeyHouseLaw", "act", "(LCurvekeyHouse;III)V"⟩, method_5_code, 8, none),
  (⟨"CurvekeyHouseLaw", "isAsked", "(LCurvekeyHouse;III)Z"⟩, method_6_code, 19, some .boolean)]
/-- static; arguments; frames; locals; places of the words: code, instance or static, selects, initialized; its class among hm_cls (99: none) -/
def hm_mi : List (Bool × Nat × Nat × Nat × Nat × Nat × Nat × Nat × Nat) := [
  (false, 0, 7, 160, 68, 67, 0, 46, 10),
  (false, 3, 7, 102, 1103, 1101, 1102, 46, 10),
  (false, 3, 7, 102, 1093, 1091, 1092, 46, 10),
  (false, 5, 7, 102, 1160, 1158, 1159, 46, 10),
  (false, 3, 7, 138, 408, 406, 407, 46, 10),
  (false, 2, 7, 116, 619, 617, 618, 46, 10),
  (false, 2, 7, 116, 739, 737, 738, 46, 10),
  (false, 3, 7, 116, 746, 744, 745, 46, 10),
  (false, 1, 7, 102, 803, 801, 802, 46, 10),
  (false, 0, 4, 89, 815, 813, 814, 46, 10),
  (false, 2, 7, 109, 1188, 1186, 1187, 46, 10),
  (false, 1, 7, 102, 505, 503, 504, 46, 10),
  (false, 6, 7, 110, 1107, 1105, 1106, 46, 10),
  (false, 5, 7, 102, 562, 560, 561, 46, 10),
  (false, 5, 7, 102, 1212, 1210, 1211, 46, 10),
  (false, 3, 7, 118, 1176, 1174, 1175, 46, 10),
  (false, 3, 7, 118, 1192, 1190, 1191, 46, 10),
  (false, 3, 7, 102, 831, 829, 830, 46, 10),
  (false, 1, 7, 140, 849, 847, 848, 46, 10),
  (false, 2, 7, 102, 1227, 1225, 1226, 46, 10),
  (false, 1, 7, 102, 1223, 1221, 1222, 46, 10),
  (false, 1, 7, 102, 895, 893, 894, 46, 10),
  (false, 2, 7, 102, 1172, 1170, 1171, 46, 10),
  (false, 0, 3, 69, 1039, 1037, 1038, 46, 10),
  (false, 2, 7, 102, 1168, 1166, 1167, 46, 10),
  (false, 2, 7, 102, 1204, 1202, 1203, 46, 10),
  (false, 2, 7, 102, 866, 864, 865, 46, 10),
  (false, 1, 7, 137, 1240, 1238, 1239, 46, 10),
  (false, 4, 7, 115, 1244, 1242, 1243, 46, 10),
  (false, 0, 5, 110, 1080, 1078, 1079, 46, 10),
  (false, 0, 6, 137, 906, 904, 905, 46, 10),
  (true, 1, 6, 82, 417, 416, 0, 46, 10),
  (true, 1, 6, 82, 637, 636, 0, 46, 10),
  (true, 1, 6, 82, 753, 752, 0, 46, 10),
  (true, 3, 0, 0, 411, 410, 0, 46, 10),
  (true, 1, 1, 22, 414, 413, 0, 46, 10),
  (false, 1, 1, 22, 1097, 1096, 37, 46, 10),
  (false, 2, 1, 22, 570, 569, 11, 46, 10),
  (false, 4, 2, 44, 566, 565, 10, 46, 10),
  (false, 2, 2, 44, 627, 626, 13, 46, 10),
  (false, 1, 3, 66, 931, 930, 25, 46, 10),
  (false, 2, 3, 66, 623, 622, 12, 46, 10),
  (true, 1, 0, 0, 742, 741, 0, 46, 10),
  (false, 2, 4, 93, 657, 656, 14, 46, 10),
  (false, 3, 4, 93, 779, 778, 17, 46, 10),
  (false, 3, 3, 70, 679, 678, 15, 46, 10),
  (false, 1, 3, 68, 783, 782, 18, 46, 10),
  (false, 1, 5, 116, 853, 852, 20, 46, 10),
  (false, 2, 3, 69, 1164, 1163, 42, 46, 10),
  (false, 2, 4, 88, 1111, 1110, 38, 46, 10),
  (false, 0, 2, 45, 1049, 1048, 34, 46, 10),
  (false, 3, 2, 45, 1200, 1199, 44, 46, 10),
  (true, 1, 0, 0, 1196, 1195, 0, 46, 10),
  (false, 2, 4, 87, 927, 926, 24, 46, 10),
  (false, 2, 3, 67, 954, 953, 27, 46, 10),
  (false, 1, 1, 20, 509, 508, 8, 46, 10),
  (false, 1, 2, 43, 541, 540, 9, 46, 10),
  (false, 2, 3, 69, 1021, 1020, 32, 46, 10),
  (false, 1, 5, 115, 1045, 1044, 33, 46, 10),
  (false, 0, 4, 87, 1088, 1087, 36, 46, 10),
  (true, 2, 0, 0, 914, 913, 0, 46, 10),
  (false, 1, 3, 64, 911, 910, 22, 46, 10),
  (false, 1, 5, 109, 923, 922, 23, 46, 10),
  (false, 1, 4, 89, 950, 949, 26, 46, 10),
  (false, 1, 4, 93, 1017, 1016, 31, 46, 10),
  (false, 4, 1, 21, 579, 578, 0, 63, 0),
  (false, 2, 0, 0, 602, 600, 601, 63, 0),
  (false, 3, 0, 0, 1068, 1066, 1067, 63, 0),
  (false, 1, 2, 43, 287, 286, 0, 53, 1),
  (false, 1, 1, 22, 294, 292, 293, 53, 1),
  (false, 1, 0, 0, 874, 872, 873, 53, 1),
  (false, 2, 1, 21, 870, 868, 869, 53, 1),
  (true, 1, 0, 0, 728, 727, 0, 53, 1),
  (true, 2, 1, 20, 725, 724, 0, 53, 1),
  (false, 3, 0, 0, 722, 720, 721, 53, 1),
  (false, 2, 2, 41, 886, 884, 885, 53, 1),
  (false, 3, 2, 44, 718, 716, 717, 53, 1),
  (false, 3, 3, 63, 1208, 1206, 1207, 53, 1),
  (false, 3, 3, 63, 1060, 1059, 35, 53, 1),
  (true, 2, 0, 0, 1056, 1055, 0, 53, 1),
  (true, 2, 1, 21, 1063, 1062, 0, 53, 1),
  (false, 2, 4, 87, 1053, 1051, 1052, 53, 1),
  (false, 1, 4, 87, 1072, 1070, 1071, 53, 1),
  (false, 1, 4, 87, 1076, 1074, 1075, 53, 1),
  (false, 1, 6, 138, 76, 75, 0, 47, 2),
  (false, 0, 0, 0, 513, 511, 512, 47, 2),
  (false, 0, 0, 0, 574, 572, 573, 47, 2),
  (false, 0, 0, 0, 126, 124, 125, 47, 2),
  (false, 3, 1, 21, 149, 147, 148, 47, 2),
  (false, 2, 1, 21, 134, 132, 133, 47, 2),
  (false, 2, 1, 21, 141, 139, 140, 47, 2),
  (false, 2, 1, 21, 919, 917, 918, 47, 2),
  (false, 1, 5, 116, 102, 100, 101, 47, 2),
  (false, 3, 1, 22, 94, 93, 0, 47, 2),
  (false, 1, 4, 91, 106, 105, 1, 47, 2),
  (false, 3, 2, 54, 110, 109, 2, 47, 2),
  (false, 3, 1, 21, 114, 113, 3, 47, 2),
  (false, 1, 3, 68, 122, 121, 4, 47, 2),
  (false, 3, 2, 43, 130, 129, 5, 47, 2),
  (false, 1, 2, 44, 145, 144, 6, 47, 2),
  (false, 0, 2, 42, 331, 330, 0, 55, 3),
  (false, 0, 0, 0, 1142, 1140, 1141, 55, 3),
  (false, 0, 0, 0, 1146, 1144, 1145, 55, 3),
  (false, 0, 1, 21, 1156, 1154, 1155, 55, 3),
  (false, 3, 2, 43, 1115, 1113, 1114, 55, 3),
  (false, 1, 3, 66, 1124, 1122, 1123, 55, 3),
  (false, 1, 1, 21, 1132, 1131, 40, 55, 3),
  (false, 0, 2, 42, 1128, 1127, 39, 55, 3),
  (false, 1, 2, 45, 1137, 1136, 41, 55, 3),
  (false, 1, 2, 44, 1150, 1148, 1149, 55, 3),
  (false, 0, 2, 42, 209, 208, 0, 51, 4),
  (false, 0, 0, 0, 494, 492, 493, 51, 4),
  (false, 0, 0, 0, 545, 543, 544, 51, 4),
  (false, 0, 0, 0, 537, 535, 536, 51, 4),
  (false, 1, 1, 21, 935, 933, 934, 51, 4),
  (false, 1, 1, 21, 939, 937, 938, 51, 4),
  (false, 1, 1, 21, 943, 941, 942, 51, 4),
  (false, 0, 0, 0, 661, 659, 660, 51, 4),
  (false, 1, 1, 22, 674, 672, 673, 51, 4),
  (false, 1, 1, 22, 807, 805, 806, 51, 4),
  (false, 3, 2, 44, 687, 685, 686, 51, 4),
  (false, 1, 1, 22, 795, 793, 794, 51, 4),
  (false, 2, 1, 22, 597, 595, 596, 51, 4),
  (false, 0, 2, 42, 352, 351, 0, 56, 5),
  (false, 1, 2, 42, 988, 986, 987, 56, 5),
  (false, 1, 1, 21, 1231, 1229, 1230, 56, 5),
  (false, 1, 2, 46, 1235, 1233, 1234, 56, 5),
  (false, 0, 3, 70, 998, 996, 997, 56, 5),
  (false, 1, 3, 70, 1013, 1011, 1012, 56, 5),
  (false, 3, 1, 21, 1007, 1006, 30, 56, 5),
  (false, 2, 2, 46, 1002, 1001, 29, 56, 5),
  (false, 2, 2, 44, 248, 247, 0, 52, 6),
  (false, 2, 1, 22, 255, 253, 254, 52, 6),
  (false, 0, 0, 0, 529, 527, 528, 52, 6),
  (false, 0, 0, 0, 517, 515, 516, 52, 6),
  (false, 0, 0, 0, 533, 531, 532, 52, 6),
  (false, 0, 0, 0, 558, 556, 557, 52, 6),
  (false, 0, 0, 0, 992, 990, 991, 52, 6),
  (false, 1, 1, 21, 958, 956, 957, 52, 6),
  (false, 1, 1, 21, 702, 700, 701, 52, 6),
  (false, 1, 1, 21, 632, 630, 631, 52, 6),
  (false, 1, 1, 21, 706, 704, 705, 52, 6),
  (false, 1, 1, 21, 963, 961, 962, 52, 6),
  (false, 1, 2, 46, 967, 965, 966, 52, 6),
  (false, 1, 2, 46, 971, 969, 970, 52, 6),
  (false, 2, 1, 21, 710, 709, 16, 52, 6),
  (false, 2, 0, 0, 899, 897, 898, 52, 6),
  (false, 2, 2, 45, 1025, 1023, 1024, 52, 6),
  (false, 2, 1, 22, 1031, 1029, 1030, 52, 6),
  (false, 2, 1, 22, 1035, 1033, 1034, 52, 6),
  (false, 2, 2, 46, 698, 696, 697, 52, 6),
  (false, 1, 1, 22, 799, 797, 798, 52, 6),
  (false, 0, 3, 67, 819, 817, 818, 52, 6),
  (false, 0, 2, 45, 823, 822, 19, 52, 6),
  (false, 0, 2, 45, 1084, 1082, 1083, 52, 6),
  (false, 0, 2, 42, 179, 178, 0, 50, 7),
  (false, 0, 0, 0, 490, 488, 489, 50, 7),
  (false, 0, 0, 0, 521, 519, 520, 50, 7),
  (false, 0, 0, 0, 525, 523, 524, 50, 7),
  (false, 1, 0, 0, 750, 748, 749, 50, 7),
  (false, 1, 1, 21, 773, 771, 772, 50, 7),
  (false, 1, 1, 21, 787, 785, 786, 50, 7),
  (false, 1, 1, 21, 791, 789, 790, 50, 7),
  (false, 1, 1, 21, 841, 839, 840, 50, 7),
  (false, 1, 1, 21, 862, 860, 861, 50, 7),
  (false, 0, 2, 45, 665, 663, 664, 50, 7),
  (false, 3, 1, 22, 683, 681, 682, 50, 7),
  (false, 3, 1, 22, 670, 668, 669, 50, 7),
  (false, 1, 1, 22, 811, 809, 810, 50, 7),
  (false, 3, 2, 42, 836, 834, 835, 50, 7),
  (false, 3, 2, 42, 857, 855, 856, 50, 7),
  (false, 3, 3, 65, 1216, 1214, 1215, 50, 7),
  (false, 3, 2, 42, 979, 977, 978, 50, 7),
  (false, 3, 4, 94, 1180, 1178, 1179, 50, 7),
  (false, 3, 3, 67, 1184, 1183, 43, 50, 7),
  (false, 2, 2, 42, 983, 982, 28, 50, 7),
  (false, 1, 3, 67, 975, 973, 974, 50, 7),
  (false, 1, 1, 21, 82, 81, 0, 48, 8),
  (false, 1, 0, 0, 118, 116, 117, 48, 8),
  (false, 2, 0, 0, 98, 96, 97, 48, 8),
  (false, 2, 1, 22, 692, 690, 691, 48, 8),
  (false, 1, 0, 0, 259, 257, 258, 48, 8),
  (false, 3, 1, 22, 714, 712, 713, 48, 8),
  (false, 2, 1, 22, 827, 825, 826, 48, 8),
  (false, 0, 2, 42, 307, 306, 0, 54, 9),
  (false, 0, 0, 0, 500, 498, 499, 54, 9),
  (false, 0, 0, 0, 549, 547, 548, 54, 9),
  (false, 2, 1, 21, 882, 881, 21, 54, 9),
  (false, 2, 2, 44, 878, 876, 877, 54, 9),
  (false, 3, 2, 44, 891, 889, 890, 54, 9),
  (false, 0, 1, 21, 553, 551, 552, 54, 9),
  (false, 3, 1, 24, 733, 731, 732, 54, 9),
  (true, 2, 0, 0, 605, 604, 0, 45, 99),
  (true, 2, 0, 0, 609, 608, 0, 45, 99),
  (true, 1, 11, 418, 0, 0, 0, 45, 99),
  (true, 4, 8, 164, 613, 612, 0, 45, 99),
  (true, 4, 8, 160, 902, 901, 0, 45, 99)]
abbrev hm_Row : Type := Instr × Nat × Nat × Nat × Nat
/-- CurvekeyHouse.<init>()V -/
def hm_j0 (pc : Nat) : Option hm_Row := if pc < 52 then (if pc < 27 then (if pc < 10 then (if pc < 5 then (if pc < 1 then (if pc = 0 then some (.aload_n 0, 0, 0, 0, 0) else none) else (if pc < 4 then (if pc = 1 then some (.invokespecial 1000, 0, 1, 69, 0) else none) else (if pc = 4 then some (.aload_n 0, 0, 0, 0, 0) else none))) else (if pc < 8 then (if pc = 5 then some (.new 2, 0, 7, 72, 0) else none) else (if pc < 9 then (if pc = 8 then some (.dup, 0, 0, 0, 0) else none) else (if pc = 9 then some (.iconst 3, 1, 0, 0, 0) else none)))) else (if pc < 17 then (if pc < 13 then (if pc = 10 then some (.invokespecial 84, 0, 11, 74, 24706) else none) else (if pc < 16 then (if pc = 13 then some (.putfield 640, 0, 14, 363, 0) else none) else (if pc = 16 then some (.aload_n 0, 0, 0, 0, 0) else none))) else (if pc < 21 then (if pc < 20 then (if pc = 17 then some (.new 7, 0, 18, 175, 0) else none) else (if pc = 20 then some (.dup, 0, 0, 0, 0) else none)) else (if pc < 24 then (if pc = 21 then some (.invokespecial 155, 7, 20, 177, 8199) else none) else (if pc = 24 then some (.putfield 641, 0, 21, 364, 0) else none))))) else (if pc < 39 then (if pc < 32 then (if pc < 28 then (if pc = 27 then some (.aload_n 0, 0, 0, 0, 0) else none) else (if pc < 31 then (if pc = 28 then some (.new 4, 0, 25, 205, 0) else none) else (if pc = 31 then some (.dup, 0, 0, 0, 0) else none))) else (if pc < 35 then (if pc = 32 then some (.invokespecial 110, 7, 27, 207, 8196) else none) else (if pc < 38 then (if pc = 35 then some (.putfield 642, 0, 28, 365, 0) else none) else (if pc = 38 then some (.aload_n 0, 0, 0, 0, 0) else none)))) else (if pc < 44 then (if pc < 42 then (if pc = 39 then some (.new 6, 0, 32, 244, 0) else none) else (if pc < 43 then (if pc = 42 then some (.dup, 0, 0, 0, 0) else none) else (if pc = 43 then some (.iconst 3, 1, 0, 0, 0) else none))) else (if pc < 48 then (if pc < 45 then (if pc = 44 then some (.iconst 4, 1, 0, 0, 0) else none) else (if pc = 45 then some (.invokespecial 131, 0, 34, 246, 24838) else none)) else (if pc < 51 then (if pc = 48 then some (.putfield 643, 0, 37, 366, 0) else none) else (if pc = 51 then some (.aload_n 0, 0, 0, 0, 0) else none)))))) else (if pc < 79 then (if pc < 64 then (if pc < 57 then (if pc < 55 then (if pc = 52 then some (.new 1, 0, 41, 283, 0) else none) else (if pc < 56 then (if pc = 55 then some (.dup, 0, 0, 0, 0) else none) else (if pc = 56 then some (.iconst 3, 1, 0, 0, 0) else none))) else (if pc < 60 then (if pc = 57 then some (.invokespecial 68, 0, 43, 285, 16513) else none) else (if pc < 63 then (if pc = 60 then some (.putfield 644, 0, 44, 367, 0) else none) else (if pc = 63 then some (.aload_n 0, 0, 0, 0, 0) else none)))) else (if pc < 71 then (if pc < 67 then (if pc = 64 then some (.new 9, 0, 48, 303, 0) else none) else (if pc < 68 then (if pc = 67 then some (.dup, 0, 0, 0, 0) else none) else (if pc = 68 then some (.invokespecial 184, 7, 50, 305, 8201) else none))) else (if pc < 75 then (if pc < 74 then (if pc = 71 then some (.putfield 645, 0, 51, 368, 0) else none) else (if pc = 74 then some (.aload_n 0, 0, 0, 0, 0) else none)) else (if pc < 78 then (if pc = 75 then some (.new 3, 0, 55, 327, 0) else none) else (if pc = 78 then some (.dup, 0, 0, 0, 0) else none))))) else (if pc < 96 then (if pc < 86 then (if pc < 82 then (if pc = 79 then some (.invokespecial 100, 7, 57, 329, 8195) else none) else (if pc < 85 then (if pc = 82 then some (.putfield 646, 0, 58, 369, 0) else none) else (if pc = 85 then some (.aload_n 0, 0, 0, 0, 0) else none))) else (if pc < 90 then (if pc < 89 then (if pc = 86 then some (.new 5, 0, 62, 348, 0) else none) else (if pc = 89 then some (.dup, 0, 0, 0, 0) else none)) else (if pc < 93 then (if pc = 90 then some (.invokespecial 123, 7, 64, 350, 8197) else none) else (if pc = 93 then some (.putfield 647, 0, 65, 370, 0) else none)))) else (if pc < 101 then (if pc < 97 then (if pc = 96 then some (.aload_n 0, 0, 0, 0, 0) else none) else (if pc < 98 then (if pc = 97 then some (.iconst 3, 1, 0, 0, 0) else none) else (if pc = 98 then some (.putfield 648, 0, 69, 371, 0) else none))) else (if pc < 103 then (if pc < 102 then (if pc = 101 then some (.aload_n 0, 0, 0, 0, 0) else none) else (if pc = 102 then some (.iconst 1, 1, 0, 0, 0) else none)) else (if pc < 106 then (if pc = 103 then some (.putfield 649, 0, 73, 372, 0) else none) else (if pc = 106 then some (.return_, 0, 0, 0, 0) else none))))))
def hm_i0 (pc : Nat) : Option hm_Row := if pc < 107 then hm_j0 pc else none
/-- CurvekeyHouse.key(III)I -/
def hm_j1 (pc : Nat) : Option hm_Row := if pc < 17 then (if pc < 8 then (if pc < 4 then (if pc < 1 then (if pc = 0 then some (.iload_n 1, 0, 0, 0, 0) else none) else (if pc = 1 then some (.invokestatic 35, 0, 99, 412, 8330) else none)) else (if pc < 7 then (if pc = 4 then some (.ifCond .eq 20, 0, 0, 0, 0) else none) else (if pc = 7 then some (.aload_n 0, 0, 0, 0, 0) else none))) else (if pc < 10 then (if pc < 9 then (if pc = 8 then some (.iload_n 2, 0, 0, 0, 0) else none) else (if pc = 9 then some (.iload_n 3, 0, 0, 0, 0) else none)) else (if pc < 13 then (if pc = 10 then some (.invokevirtual 37, 0, 103, 567, 24842) else none) else (if pc < 16 then (if pc = 13 then some (.ifCond .eq 20, 0, 0, 0, 0) else none) else (if pc = 16 then some (.iconst 1, 1, 0, 0, 0) else none))))) else (if pc < 28 then (if pc < 21 then (if pc < 20 then (if pc = 17 then some (.goto 21, 0, 0, 0, 0) else none) else (if pc = 20 then some (.iconst 0, 1, 0, 0, 0) else none)) else (if pc < 24 then (if pc = 21 then some (.invokestatic 31, 0, 80, 415, 8330) else none) else (if pc < 25 then (if pc = 24 then some (.aload_n 0, 0, 0, 0, 0) else none) else (if pc = 25 then some (.getfield 640, 0, 14, 363, 0) else none)))) else (if pc < 30 then (if pc < 29 then (if pc = 28 then some (.iload_n 1, 0, 0, 0, 0) else none) else (if pc = 29 then some (.iload_n 2, 0, 0, 0, 0) else none)) else (if pc < 31 then (if pc = 30 then some (.iload_n 3, 0, 0, 0, 0) else none) else (if pc < 34 then (if pc = 31 then some (.invokevirtual 88, 0, 107, 628, 33154) else none) else (if pc = 34 then some (.ireturn, 0, 0, 0, 0) else none)))))
def hm_i1 (pc : Nat) : Option hm_Row := if pc < 35 then hm_j1 pc else none
/-- CurvekeyHouse.place(IIZ)I -/
def hm_j2 (pc : Nat) : Option hm_Row := if pc < 24 then (if pc < 12 then (if pc < 7 then (if pc < 1 then (if pc = 0 then some (.iload_n 1, 0, 0, 0, 0) else none) else (if pc < 4 then (if pc = 1 then some (.invokestatic 35, 0, 99, 412, 8330) else none) else (if pc = 4 then some (.ifCond .eq 19, 0, 0, 0, 0) else none))) else (if pc < 8 then (if pc = 7 then some (.aload_n 0, 0, 0, 0, 0) else none) else (if pc < 9 then (if pc = 8 then some (.iload_n 2, 0, 0, 0, 0) else none) else (if pc = 9 then some (.invokevirtual 36, 0, 111, 1094, 16522) else none)))) else (if pc < 19 then (if pc < 15 then (if pc = 12 then some (.ifCond .eq 19, 0, 0, 0, 0) else none) else (if pc < 16 then (if pc = 15 then some (.iconst 1, 1, 0, 0, 0) else none) else (if pc = 16 then some (.goto 20, 0, 0, 0, 0) else none))) else (if pc < 20 then (if pc = 19 then some (.iconst 0, 1, 0, 0, 0) else none) else (if pc < 23 then (if pc = 20 then some (.invokestatic 31, 0, 80, 415, 8330) else none) else (if pc = 23 then some (.iload_n 3, 0, 0, 0, 0) else none))))) else (if pc < 36 then (if pc < 31 then (if pc < 27 then (if pc = 24 then some (.ifCond .eq 39, 0, 0, 0, 0) else none) else (if pc < 28 then (if pc = 27 then some (.aload_n 0, 0, 0, 0, 0) else none) else (if pc = 28 then some (.getfield 640, 0, 14, 363, 0) else none))) else (if pc < 32 then (if pc = 31 then some (.iload_n 1, 0, 0, 0, 0) else none) else (if pc < 33 then (if pc = 32 then some (.iload_n 2, 0, 0, 0, 0) else none) else (if pc = 33 then some (.invokevirtual 90, 0, 114, 1098, 24834) else none)))) else (if pc < 43 then (if pc < 39 then (if pc = 36 then some (.goto 48, 0, 0, 0, 0) else none) else (if pc < 40 then (if pc = 39 then some (.aload_n 0, 0, 0, 0, 0) else none) else (if pc = 40 then some (.getfield 640, 0, 14, 363, 0) else none))) else (if pc < 45 then (if pc < 44 then (if pc = 43 then some (.iload_n 1, 0, 0, 0, 0) else none) else (if pc = 44 then some (.iload_n 2, 0, 0, 0, 0) else none)) else (if pc < 48 then (if pc = 45 then some (.invokevirtual 89, 0, 117, 1099, 24834) else none) else (if pc = 48 then some (.ireturn, 0, 0, 0, 0) else none)))))
def hm_i2 (pc : Nat) : Option hm_Row := if pc < 49 then hm_j2 pc else none
/-- CurvekeyHouse.runs(IIIII)I -/
def hm_j3 (pc : Nat) : Option hm_Row := if pc < 24 then (if pc < 10 then (if pc < 7 then (if pc < 1 then (if pc = 0 then some (.iload_n 1, 0, 0, 0, 0) else none) else (if pc < 4 then (if pc = 1 then some (.invokestatic 35, 0, 99, 412, 8330) else none) else (if pc = 4 then some (.ifCond .eq 24, 0, 0, 0, 0) else none))) else (if pc < 8 then (if pc = 7 then some (.aload_n 0, 0, 0, 0, 0) else none) else (if pc < 9 then (if pc = 8 then some (.iload_n 2, 0, 0, 0, 0) else none) else (if pc = 9 then some (.iload_n 3, 0, 0, 0, 0) else none)))) else (if pc < 17 then (if pc < 12 then (if pc = 10 then some (.iload 4, 0, 0, 0, 0) else none) else (if pc < 14 then (if pc = 12 then some (.iload 5, 0, 0, 0, 0) else none) else (if pc = 14 then some (.invokevirtual 38, 0, 124, 563, 41482) else none))) else (if pc < 20 then (if pc = 17 then some (.ifCond .eq 24, 0, 0, 0, 0) else none) else (if pc < 21 then (if pc = 20 then some (.iconst 1, 1, 0, 0, 0) else none) else (if pc = 21 then some (.goto 25, 0, 0, 0, 0) else none))))) else (if pc < 34 then (if pc < 29 then (if pc < 25 then (if pc = 24 then some (.iconst 0, 1, 0, 0, 0) else none) else (if pc < 28 then (if pc = 25 then some (.invokestatic 31, 0, 80, 415, 8330) else none) else (if pc = 28 then some (.aload_n 0, 0, 0, 0, 0) else none))) else (if pc < 30 then (if pc = 29 then some (.iload_n 1, 0, 0, 0, 0) else none) else (if pc < 33 then (if pc = 30 then some (.new 0, 0, 127, 575, 0) else none) else (if pc = 33 then some (.dup, 0, 0, 0, 0) else none)))) else (if pc < 38 then (if pc < 35 then (if pc = 34 then some (.iload_n 2, 0, 0, 0, 0) else none) else (if pc < 36 then (if pc = 35 then some (.iload_n 3, 0, 0, 0, 0) else none) else (if pc = 36 then some (.iload 4, 0, 0, 0, 0) else none))) else (if pc < 43 then (if pc < 40 then (if pc = 38 then some (.iload 5, 0, 0, 0, 0) else none) else (if pc = 40 then some (.invokespecial 65, 0, 129, 577, 41472) else none)) else (if pc < 46 then (if pc = 43 then some (.invokevirtual 48, 0, 131, 1161, 24842) else none) else (if pc = 46 then some (.ireturn, 0, 0, 0, 0) else none)))))
def hm_i3 (pc : Nat) : Option hm_Row := if pc < 47 then hm_j3 pc else none
/-- CurvekeyHouse.found(III)I -/
def hm_j4 (pc : Nat) : Option hm_Row := if pc < 58 then (if pc < 27 then (if pc < 13 then (if pc < 3 then (if pc < 1 then (if pc = 0 then some (.iload_n 1, 0, 0, 0, 0) else none) else (if pc < 2 then (if pc = 1 then some (.iconst 1, 1, 0, 0, 0) else none) else (if pc = 2 then some (.iconst 5, 1, 0, 0, 0) else none))) else (if pc < 9 then (if pc < 6 then (if pc = 3 then some (.invokestatic 34, 0, 120, 409, 24970) else none) else (if pc = 6 then some (.ifCond .eq 30, 0, 0, 0, 0) else none)) else (if pc < 10 then (if pc = 9 then some (.iload_n 2, 0, 0, 0, 0) else none) else (if pc = 10 then some (.invokestatic 35, 0, 99, 412, 8330) else none)))) else (if pc < 18 then (if pc < 16 then (if pc = 13 then some (.ifCond .eq 30, 0, 0, 0, 0) else none) else (if pc < 17 then (if pc = 16 then some (.iload_n 3, 0, 0, 0, 0) else none) else (if pc = 17 then some (.iconst 2, 1, 0, 0, 0) else none))) else (if pc < 23 then (if pc < 20 then (if pc = 18 then some (.iconst (8), 2, 0, 0, 0) else none) else (if pc = 20 then some (.invokestatic 34, 0, 120, 409, 24970) else none)) else (if pc < 26 then (if pc = 23 then some (.ifCond .eq 30, 0, 0, 0, 0) else none) else (if pc = 26 then some (.iconst 1, 1, 0, 0, 0) else none))))) else (if pc < 40 then (if pc < 34 then (if pc < 30 then (if pc = 27 then some (.goto 31, 0, 0, 0, 0) else none) else (if pc < 31 then (if pc = 30 then some (.iconst 0, 1, 0, 0, 0) else none) else (if pc = 31 then some (.invokestatic 31, 0, 80, 415, 8330) else none))) else (if pc < 36 then (if pc < 35 then (if pc = 34 then some (.aload_n 0, 0, 0, 0, 0) else none) else (if pc = 35 then some (.iload_n 2, 0, 0, 0, 0) else none)) else (if pc < 39 then (if pc = 36 then some (.putfield 648, 0, 69, 371, 0) else none) else (if pc = 39 then some (.aload_n 0, 0, 0, 0, 0) else none)))) else (if pc < 48 then (if pc < 44 then (if pc < 43 then (if pc = 40 then some (.getfield 640, 0, 14, 363, 0) else none) else (if pc = 43 then some (.iload_n 1, 0, 0, 0, 0) else none)) else (if pc < 47 then (if pc = 44 then some (.invokevirtual 92, 0, 142, 486, 24706) else none) else (if pc = 47 then some (.aload_n 0, 0, 0, 0, 0) else none))) else (if pc < 54 then (if pc < 51 then (if pc = 48 then some (.getfield 641, 0, 21, 364, 0) else none) else (if pc = 51 then some (.invokevirtual 156, 0, 145, 487, 8199) else none)) else (if pc < 55 then (if pc = 54 then some (.aload_n 0, 0, 0, 0, 0) else none) else (if pc = 55 then some (.getfield 642, 0, 28, 365, 0) else none)))))) else (if pc < 86 then (if pc < 71 then (if pc < 65 then (if pc < 61 then (if pc = 58 then some (.invokevirtual 111, 0, 148, 491, 8196) else none) else (if pc < 62 then (if pc = 61 then some (.aload_n 0, 0, 0, 0, 0) else none) else (if pc = 62 then some (.getfield 643, 0, 37, 366, 0) else none))) else (if pc < 67 then (if pc < 66 then (if pc = 65 then some (.iload_n 1, 0, 0, 0, 0) else none) else (if pc = 66 then some (.iload_n 3, 0, 0, 0, 0) else none)) else (if pc < 70 then (if pc = 67 then some (.invokevirtual 132, 0, 149, 495, 24838) else none) else (if pc = 70 then some (.aload_n 0, 0, 0, 0, 0) else none)))) else (if pc < 78 then (if pc < 74 then (if pc = 71 then some (.getfield 644, 0, 44, 367, 0) else none) else (if pc < 75 then (if pc = 74 then some (.iload_n 1, 0, 0, 0, 0) else none) else (if pc = 75 then some (.invokevirtual 69, 0, 151, 496, 16513) else none))) else (if pc < 82 then (if pc < 79 then (if pc = 78 then some (.aload_n 0, 0, 0, 0, 0) else none) else (if pc = 79 then some (.getfield 645, 0, 51, 368, 0) else none)) else (if pc < 85 then (if pc = 82 then some (.invokevirtual 185, 0, 153, 497, 8201) else none) else (if pc = 85 then some (.aload_n 0, 0, 0, 0, 0) else none))))) else (if pc < 97 then (if pc < 91 then (if pc < 87 then (if pc = 86 then some (.iconst 1, 1, 0, 0, 0) else none) else (if pc < 90 then (if pc = 87 then some (.putfield 649, 0, 73, 372, 0) else none) else (if pc = 90 then some (.aload_n 0, 0, 0, 0, 0) else none))) else (if pc < 95 then (if pc < 92 then (if pc = 91 then some (.iconst 0, 1, 0, 0, 0) else none) else (if pc = 92 then some (.putfield 650, 0, 154, 373, 0) else none)) else (if pc < 96 then (if pc = 95 then some (.aload_n 0, 0, 0, 0, 0) else none) else (if pc = 96 then some (.iconst 0, 1, 0, 0, 0) else none)))) else (if pc < 105 then (if pc < 101 then (if pc < 100 then (if pc = 97 then some (.putfield 651, 0, 157, 374, 0) else none) else (if pc = 100 then some (.aload_n 0, 0, 0, 0, 0) else none)) else (if pc < 102 then (if pc = 101 then some (.iconst 0, 1, 0, 0, 0) else none) else (if pc = 102 then some (.putfield 652, 0, 160, 375, 0) else none))) else (if pc < 109 then (if pc < 106 then (if pc = 105 then some (.aload_n 0, 0, 0, 0, 0) else none) else (if pc = 106 then some (.getfield 640, 0, 14, 363, 0) else none)) else (if pc < 112 then (if pc = 109 then some (.invokevirtual 87, 0, 163, 501, 8194) else none) else (if pc = 112 then some (.ireturn, 0, 0, 0, 0) else none))))))
def hm_i4 (pc : Nat) : Option hm_Row := if pc < 113 then hm_j4 pc else none
/-- CurvekeyHouse.put(II)I -/
def hm_j5 (pc : Nat) : Option hm_Row := if pc < 20 then (if pc < 10 then (if pc < 3 then (if pc < 1 then (if pc = 0 then some (.aload_n 0, 0, 0, 0, 0) else none) else (if pc < 2 then (if pc = 1 then some (.iload_n 1, 0, 0, 0, 0) else none) else (if pc = 2 then some (.iload_n 2, 0, 0, 0, 0) else none))) else (if pc < 6 then (if pc = 3 then some (.invokevirtual 37, 0, 103, 567, 24842) else none) else (if pc < 9 then (if pc = 6 then some (.invokestatic 31, 0, 80, 415, 8330) else none) else (if pc = 9 then some (.aload_n 0, 0, 0, 0, 0) else none)))) else (if pc < 15 then (if pc < 11 then (if pc = 10 then some (.iload_n 1, 0, 0, 0, 0) else none) else (if pc < 12 then (if pc = 11 then some (.iload_n 2, 0, 0, 0, 0) else none) else (if pc = 12 then some (.invokevirtual 41, 0, 166, 620, 24842) else none))) else (if pc < 16 then (if pc = 15 then some (.iconst (-1), 1, 0, 0, 0) else none) else (if pc < 19 then (if pc = 16 then some (.if_icmp .ne 35, 0, 0, 0, 0) else none) else (if pc = 19 then some (.aload_n 0, 0, 0, 0, 0) else none))))) else (if pc < 35 then (if pc < 28 then (if pc < 23 then (if pc = 20 then some (.getfield 641, 0, 21, 364, 0) else none) else (if pc < 26 then (if pc = 23 then some (.invokevirtual 157, 0, 84, 518, 8199) else none) else (if pc = 26 then some (.iconst (80), 2, 0, 0, 0) else none))) else (if pc < 31 then (if pc = 28 then some (.if_icmp .ge 35, 0, 0, 0, 0) else none) else (if pc < 32 then (if pc = 31 then some (.iconst 1, 1, 0, 0, 0) else none) else (if pc = 32 then some (.goto 36, 0, 0, 0, 0) else none)))) else (if pc < 40 then (if pc < 36 then (if pc = 35 then some (.iconst 0, 1, 0, 0, 0) else none) else (if pc < 39 then (if pc = 36 then some (.invokestatic 32, 0, 88, 635, 8330) else none) else (if pc = 39 then some (.aload_n 0, 0, 0, 0, 0) else none))) else (if pc < 42 then (if pc < 41 then (if pc = 40 then some (.iload_n 1, 0, 0, 0, 0) else none) else (if pc = 41 then some (.iload_n 2, 0, 0, 0, 0) else none)) else (if pc < 45 then (if pc = 42 then some (.invokevirtual 43, 0, 169, 654, 33034) else none) else (if pc = 45 then some (.ireturn, 0, 0, 0, 0) else none)))))
def hm_i5 (pc : Nat) : Option hm_Row := if pc < 46 then hm_j5 pc else none
/-- CurvekeyHouse.bulk(II)I -/
def hm_j6 (pc : Nat) : Option hm_Row := if pc < 58 then (if pc < 30 then (if pc < 14 then (if pc < 7 then (if pc < 2 then (if pc < 1 then (if pc = 0 then some (.iload_n 1, 0, 0, 0, 0) else none) else (if pc = 1 then some (.iconst 1, 1, 0, 0, 0) else none)) else (if pc < 4 then (if pc = 2 then some (.iconst (40), 2, 0, 0, 0) else none) else (if pc = 4 then some (.invokestatic 34, 0, 120, 409, 24970) else none))) else (if pc < 11 then (if pc < 10 then (if pc = 7 then some (.ifCond .eq 24, 0, 0, 0, 0) else none) else (if pc = 10 then some (.iload_n 2, 0, 0, 0, 0) else none)) else (if pc < 12 then (if pc = 11 then some (.iconst 0, 1, 0, 0, 0) else none) else (if pc = 12 then some (.iconst (99), 2, 0, 0, 0) else none)))) else (if pc < 24 then (if pc < 20 then (if pc < 17 then (if pc = 14 then some (.invokestatic 34, 0, 120, 409, 24970) else none) else (if pc = 17 then some (.ifCond .eq 24, 0, 0, 0, 0) else none)) else (if pc < 21 then (if pc = 20 then some (.iconst 1, 1, 0, 0, 0) else none) else (if pc = 21 then some (.goto 25, 0, 0, 0, 0) else none))) else (if pc < 28 then (if pc < 25 then (if pc = 24 then some (.iconst 0, 1, 0, 0, 0) else none) else (if pc = 25 then some (.invokestatic 31, 0, 80, 415, 8330) else none)) else (if pc < 29 then (if pc = 28 then some (.iload_n 2, 0, 0, 0, 0) else none) else (if pc = 29 then some (.istore_n 3, 0, 0, 0, 0) else none))))) else (if pc < 43 then (if pc < 36 then (if pc < 33 then (if pc < 31 then (if pc = 30 then some (.iconst 0, 1, 0, 0, 0) else none) else (if pc = 31 then some (.istore 4, 0, 0, 0, 0) else none)) else (if pc < 34 then (if pc = 33 then some (.iconst 0, 1, 0, 0, 0) else none) else (if pc = 34 then some (.istore 5, 0, 0, 0, 0) else none))) else (if pc < 39 then (if pc < 38 then (if pc = 36 then some (.iload 5, 0, 0, 0, 0) else none) else (if pc = 38 then some (.iload_n 1, 0, 0, 0, 0) else none)) else (if pc < 42 then (if pc = 39 then some (.if_icmp .ge 120, 0, 0, 0, 0) else none) else (if pc = 42 then some (.iload_n 3, 0, 0, 0, 0) else none)))) else (if pc < 49 then (if pc < 47 then (if pc < 46 then (if pc = 43 then some (.invokestatic 42, 0, 172, 740, 8330) else none) else (if pc = 46 then some (.istore_n 3, 0, 0, 0, 0) else none)) else (if pc < 48 then (if pc = 47 then some (.iload_n 3, 0, 0, 0, 0) else none) else (if pc = 48 then some (.aload_n 0, 0, 0, 0, 0) else none))) else (if pc < 55 then (if pc < 52 then (if pc = 49 then some (.getfield 640, 0, 14, 363, 0) else none) else (if pc = 52 then some (.invokevirtual 86, 0, 176, 571, 8194) else none)) else (if pc < 56 then (if pc = 55 then some (.iconst 1, 1, 0, 0, 0) else none) else (if pc < 57 then (if pc = 56 then some (.isub, 0, 0, 0, 0) else none) else (if pc = 57 then some (.iand, 0, 0, 0, 0) else none))))))) else (if pc < 86 then (if pc < 73 then (if pc < 65 then (if pc < 61 then (if pc < 60 then (if pc = 58 then some (.istore 6, 0, 0, 0, 0) else none) else (if pc = 60 then some (.iload_n 3, 0, 0, 0, 0) else none)) else (if pc < 64 then (if pc = 61 then some (.invokestatic 42, 0, 172, 740, 8330) else none) else (if pc = 64 then some (.istore_n 3, 0, 0, 0, 0) else none))) else (if pc < 67 then (if pc < 66 then (if pc = 65 then some (.iload_n 3, 0, 0, 0, 0) else none) else (if pc = 66 then some (.aload_n 0, 0, 0, 0, 0) else none)) else (if pc < 70 then (if pc = 67 then some (.getfield 640, 0, 14, 363, 0) else none) else (if pc = 70 then some (.invokevirtual 86, 0, 176, 571, 8194) else none)))) else (if pc < 78 then (if pc < 75 then (if pc < 74 then (if pc = 73 then some (.iconst 1, 1, 0, 0, 0) else none) else (if pc = 74 then some (.isub, 0, 0, 0, 0) else none)) else (if pc < 76 then (if pc = 75 then some (.iand, 0, 0, 0, 0) else none) else (if pc = 76 then some (.istore 7, 0, 0, 0, 0) else none))) else (if pc < 81 then (if pc < 79 then (if pc = 78 then some (.aload_n 0, 0, 0, 0, 0) else none) else (if pc = 79 then some (.iload 6, 0, 0, 0, 0) else none)) else (if pc < 83 then (if pc = 81 then some (.iload 7, 0, 0, 0, 0) else none) else (if pc = 83 then some (.invokevirtual 41, 0, 166, 620, 24842) else none))))) else (if pc < 103 then (if pc < 94 then (if pc < 90 then (if pc < 87 then (if pc = 86 then some (.iconst (-1), 1, 0, 0, 0) else none) else (if pc = 87 then some (.if_icmp .ne 114, 0, 0, 0, 0) else none)) else (if pc < 91 then (if pc = 90 then some (.aload_n 0, 0, 0, 0, 0) else none) else (if pc = 91 then some (.getfield 641, 0, 21, 364, 0) else none))) else (if pc < 99 then (if pc < 97 then (if pc = 94 then some (.invokevirtual 157, 0, 84, 518, 8199) else none) else (if pc = 97 then some (.iconst (80), 2, 0, 0, 0) else none)) else (if pc < 102 then (if pc = 99 then some (.if_icmp .ge 114, 0, 0, 0, 0) else none) else (if pc = 102 then some (.aload_n 0, 0, 0, 0, 0) else none)))) else (if pc < 111 then (if pc < 107 then (if pc < 105 then (if pc = 103 then some (.iload 6, 0, 0, 0, 0) else none) else (if pc = 105 then some (.iload 7, 0, 0, 0, 0) else none)) else (if pc < 110 then (if pc = 107 then some (.invokevirtual 43, 0, 169, 654, 33034) else none) else (if pc = 110 then some (.pop, 0, 0, 0, 0) else none))) else (if pc < 117 then (if pc < 114 then (if pc = 111 then some (.iinc 4 (1), 0, 0, 0, 0) else none) else (if pc = 114 then some (.iinc 5 (1), 0, 0, 0, 0) else none)) else (if pc < 120 then (if pc = 117 then some (.goto 36, 0, 0, 0, 0) else none) else (if pc < 122 then (if pc = 120 then some (.iload 4, 0, 0, 0, 0) else none) else (if pc = 122 then some (.ireturn, 0, 0, 0, 0) else none)))))))
def hm_i6 (pc : Nat) : Option hm_Row := if pc < 123 then hm_j6 pc else none
/-- CurvekeyHouse.move(III)I -/
def hm_j7 (pc : Nat) : Option hm_Row := if pc < 41 then (if pc < 20 then (if pc < 11 then (if pc < 4 then (if pc < 1 then (if pc = 0 then some (.aload_n 0, 0, 0, 0, 0) else none) else (if pc = 1 then some (.getfield 641, 0, 21, 364, 0) else none)) else (if pc < 5 then (if pc = 4 then some (.iload_n 1, 0, 0, 0, 0) else none) else (if pc < 8 then (if pc = 5 then some (.invokevirtual 159, 0, 179, 747, 16519) else none) else (if pc = 8 then some (.invokestatic 33, 0, 182, 751, 8330) else none)))) else (if pc < 13 then (if pc < 12 then (if pc = 11 then some (.aload_n 0, 0, 0, 0, 0) else none) else (if pc = 12 then some (.iload_n 2, 0, 0, 0, 0) else none)) else (if pc < 14 then (if pc = 13 then some (.iload_n 3, 0, 0, 0, 0) else none) else (if pc < 17 then (if pc = 14 then some (.invokevirtual 37, 0, 103, 567, 24842) else none) else (if pc = 17 then some (.invokestatic 31, 0, 80, 415, 8330) else none))))) else (if pc < 28 then (if pc < 22 then (if pc < 21 then (if pc = 20 then some (.aload_n 0, 0, 0, 0, 0) else none) else (if pc = 21 then some (.iload_n 2, 0, 0, 0, 0) else none)) else (if pc < 23 then (if pc = 22 then some (.iload_n 3, 0, 0, 0, 0) else none) else (if pc < 26 then (if pc = 23 then some (.invokevirtual 41, 0, 166, 620, 24842) else none) else (if pc = 26 then some (.istore 4, 0, 0, 0, 0) else none)))) else (if pc < 33 then (if pc < 29 then (if pc = 28 then some (.aload_n 0, 0, 0, 0, 0) else none) else (if pc < 32 then (if pc = 29 then some (.getfield 641, 0, 21, 364, 0) else none) else (if pc = 32 then some (.iload_n 1, 0, 0, 0, 0) else none))) else (if pc < 36 then (if pc = 33 then some (.invokevirtual 160, 0, 185, 770, 16519) else none) else (if pc < 39 then (if pc = 36 then some (.ifCond .eq 55, 0, 0, 0, 0) else none) else (if pc = 39 then some (.iload 4, 0, 0, 0, 0) else none)))))) else (if pc < 62 then (if pc < 51 then (if pc < 45 then (if pc < 42 then (if pc = 41 then some (.iconst (-1), 1, 0, 0, 0) else none) else (if pc = 42 then some (.if_icmp .eq 51, 0, 0, 0, 0) else none)) else (if pc < 47 then (if pc = 45 then some (.iload 4, 0, 0, 0, 0) else none) else (if pc < 48 then (if pc = 47 then some (.iload_n 1, 0, 0, 0, 0) else none) else (if pc = 48 then some (.if_icmp .ne 55, 0, 0, 0, 0) else none)))) else (if pc < 56 then (if pc < 52 then (if pc = 51 then some (.iconst 1, 1, 0, 0, 0) else none) else (if pc < 55 then (if pc = 52 then some (.goto 56, 0, 0, 0, 0) else none) else (if pc = 55 then some (.iconst 0, 1, 0, 0, 0) else none))) else (if pc < 59 then (if pc = 56 then some (.invokestatic 32, 0, 88, 635, 8330) else none) else (if pc < 61 then (if pc = 59 then some (.iload 4, 0, 0, 0, 0) else none) else (if pc = 61 then some (.iconst (-1), 1, 0, 0, 0) else none))))) else (if pc < 69 then (if pc < 66 then (if pc < 65 then (if pc = 62 then some (.if_icmp .ne 72, 0, 0, 0, 0) else none) else (if pc = 65 then some (.aload_n 0, 0, 0, 0, 0) else none)) else (if pc < 67 then (if pc = 66 then some (.iload_n 1, 0, 0, 0, 0) else none) else (if pc < 68 then (if pc = 67 then some (.iload_n 2, 0, 0, 0, 0) else none) else (if pc = 68 then some (.iload_n 3, 0, 0, 0, 0) else none)))) else (if pc < 74 then (if pc < 72 then (if pc = 69 then some (.invokevirtual 44, 0, 188, 776, 33162) else none) else (if pc < 73 then (if pc = 72 then some (.aload_n 0, 0, 0, 0, 0) else none) else (if pc = 73 then some (.iload_n 2, 0, 0, 0, 0) else none))) else (if pc < 75 then (if pc = 74 then some (.iload_n 3, 0, 0, 0, 0) else none) else (if pc < 78 then (if pc = 75 then some (.invokevirtual 39, 0, 192, 624, 24842) else none) else (if pc = 78 then some (.ireturn, 0, 0, 0, 0) else none))))))
def hm_i7 (pc : Nat) : Option hm_Row := if pc < 79 then hm_j7 pc else none
/-- CurvekeyHouse.remove(I)I -/
def hm_j8 (pc : Nat) : Option hm_Row := if pc < 30 then (if pc < 15 then (if pc < 5 then (if pc < 1 then (if pc = 0 then some (.aload_n 0, 0, 0, 0, 0) else none) else (if pc < 4 then (if pc = 1 then some (.getfield 641, 0, 21, 364, 0) else none) else (if pc = 4 then some (.iload_n 1, 0, 0, 0, 0) else none))) else (if pc < 11 then (if pc < 8 then (if pc = 5 then some (.invokevirtual 159, 0, 179, 747, 16519) else none) else (if pc = 8 then some (.invokestatic 33, 0, 182, 751, 8330) else none)) else (if pc < 12 then (if pc = 11 then some (.aload_n 0, 0, 0, 0, 0) else none) else (if pc = 12 then some (.getfield 641, 0, 21, 364, 0) else none)))) else (if pc < 22 then (if pc < 16 then (if pc = 15 then some (.iload_n 1, 0, 0, 0, 0) else none) else (if pc < 19 then (if pc = 16 then some (.invokevirtual 160, 0, 185, 770, 16519) else none) else (if pc = 19 then some (.invokestatic 32, 0, 88, 635, 8330) else none))) else (if pc < 26 then (if pc < 23 then (if pc = 22 then some (.aload_n 0, 0, 0, 0, 0) else none) else (if pc = 23 then some (.getfield 642, 0, 28, 365, 0) else none)) else (if pc < 29 then (if pc = 26 then some (.invokevirtual 117, 0, 195, 658, 8196) else none) else (if pc = 29 then some (.aload_n 0, 0, 0, 0, 0) else none))))) else (if pc < 43 then (if pc < 35 then (if pc < 31 then (if pc = 30 then some (.iload_n 1, 0, 0, 0, 0) else none) else (if pc < 34 then (if pc = 31 then some (.invokevirtual 46, 0, 198, 780, 32906) else none) else (if pc = 34 then some (.aload_n 0, 0, 0, 0, 0) else none))) else (if pc < 39 then (if pc < 38 then (if pc = 35 then some (.getfield 642, 0, 28, 365, 0) else none) else (if pc = 38 then some (.iload_n 1, 0, 0, 0, 0) else none)) else (if pc < 42 then (if pc = 39 then some (.invokevirtual 119, 0, 201, 804, 16516) else none) else (if pc = 42 then some (.aload_n 0, 0, 0, 0, 0) else none)))) else (if pc < 50 then (if pc < 46 then (if pc = 43 then some (.getfield 641, 0, 21, 364, 0) else none) else (if pc < 47 then (if pc = 46 then some (.iload_n 1, 0, 0, 0, 0) else none) else (if pc = 47 then some (.invokevirtual 168, 0, 204, 808, 16519) else none))) else (if pc < 54 then (if pc < 51 then (if pc = 50 then some (.aload_n 0, 0, 0, 0, 0) else none) else (if pc = 51 then some (.getfield 642, 0, 28, 365, 0) else none)) else (if pc < 57 then (if pc = 54 then some (.invokevirtual 113, 0, 205, 534, 8196) else none) else (if pc = 57 then some (.ireturn, 0, 0, 0, 0) else none)))))
def hm_i8 (pc : Nat) : Option hm_Row := if pc < 58 then hm_j8 pc else none
/-- CurvekeyHouse.sweep()I -/
def hm_j9 (pc : Nat) : Option hm_Row := if pc < 4 then (if pc < 1 then (if pc = 0 then some (.aload_n 0, 0, 0, 0, 0) else none) else (if pc = 1 then some (.getfield 643, 0, 37, 366, 0) else none)) else (if pc < 7 then (if pc = 4 then some (.invokevirtual 152, 0, 208, 816, 24582) else none) else (if pc = 7 then some (.ireturn, 0, 0, 0, 0) else none))
def hm_i9 (pc : Nat) : Option hm_Row := if pc < 8 then hm_j9 pc else none
/-- CurvekeyHouse.ofPoint(II)I -/
def hm_j10 (pc : Nat) : Option hm_Row := if pc < 13 then (if pc < 5 then (if pc < 1 then (if pc = 0 then some (.aload_n 0, 0, 0, 0, 0) else none) else (if pc < 4 then (if pc = 1 then some (.getfield 641, 0, 21, 364, 0) else none) else (if pc = 4 then some (.iload_n 1, 0, 0, 0, 0) else none))) else (if pc < 11 then (if pc < 8 then (if pc = 5 then some (.invokevirtual 159, 0, 179, 747, 16519) else none) else (if pc = 8 then some (.invokestatic 33, 0, 182, 751, 8330) else none)) else (if pc < 12 then (if pc = 11 then some (.iload_n 2, 0, 0, 0, 0) else none) else (if pc = 12 then some (.iconst 0, 1, 0, 0, 0) else none)))) else (if pc < 22 then (if pc < 18 then (if pc < 15 then (if pc = 13 then some (.iconst (9), 2, 0, 0, 0) else none) else (if pc = 15 then some (.invokestatic 34, 0, 120, 409, 24970) else none)) else (if pc < 21 then (if pc = 18 then some (.invokestatic 31, 0, 80, 415, 8330) else none) else (if pc = 21 then some (.aload_n 0, 0, 0, 0, 0) else none))) else (if pc < 24 then (if pc < 23 then (if pc = 22 then some (.iload_n 1, 0, 0, 0, 0) else none) else (if pc = 23 then some (.iload_n 2, 0, 0, 0, 0) else none)) else (if pc < 27 then (if pc = 24 then some (.invokevirtual 53, 0, 211, 924, 24842) else none) else (if pc = 27 then some (.ireturn, 0, 0, 0, 0) else none))))
def hm_i10 (pc : Nat) : Option hm_Row := if pc < 28 then hm_j10 pc else none
/-- CurvekeyHouse.many(I)I -/
def hm_j11 (pc : Nat) : Option hm_Row := if pc < 16 then (if pc < 7 then (if pc < 2 then (if pc < 1 then (if pc = 0 then some (.iload_n 1, 0, 0, 0, 0) else none) else (if pc = 1 then some (.iconst 0, 1, 0, 0, 0) else none)) else (if pc < 4 then (if pc = 2 then some (.iconst (15), 2, 0, 0, 0) else none) else (if pc = 4 then some (.invokestatic 34, 0, 120, 409, 24970) else none))) else (if pc < 11 then (if pc < 10 then (if pc = 7 then some (.invokestatic 31, 0, 80, 415, 8330) else none) else (if pc = 10 then some (.iload_n 1, 0, 0, 0, 0) else none)) else (if pc < 13 then (if pc = 11 then some (.iconst (8), 2, 0, 0, 0) else none) else (if pc = 13 then some (.if_icmp .ge 24, 0, 0, 0, 0) else none)))) else (if pc < 24 then (if pc < 18 then (if pc < 17 then (if pc = 16 then some (.aload_n 0, 0, 0, 0, 0) else none) else (if pc = 17 then some (.iload_n 1, 0, 0, 0, 0) else none)) else (if pc < 21 then (if pc = 18 then some (.invokevirtual 55, 0, 218, 506, 16522) else none) else (if pc = 21 then some (.goto 29, 0, 0, 0, 0) else none))) else (if pc < 26 then (if pc < 25 then (if pc = 24 then some (.aload_n 0, 0, 0, 0, 0) else none) else (if pc = 25 then some (.iload_n 1, 0, 0, 0, 0) else none)) else (if pc < 29 then (if pc = 26 then some (.invokevirtual 56, 0, 221, 538, 16522) else none) else (if pc = 29 then some (.ireturn, 0, 0, 0, 0) else none))))
def hm_i11 (pc : Nat) : Option hm_Row := if pc < 30 then hm_j11 pc else none
/-- CurvekeyHouse.cut(IIIIII)I -/
def hm_j12 (pc : Nat) : Option hm_Row := if pc < 47 then (if pc < 23 then (if pc < 9 then (if pc < 3 then (if pc < 1 then (if pc = 0 then some (.aload_n 0, 0, 0, 0, 0) else none) else (if pc < 2 then (if pc = 1 then some (.iload_n 1, 0, 0, 0, 0) else none) else (if pc = 2 then some (.iload_n 2, 0, 0, 0, 0) else none))) else (if pc < 4 then (if pc = 3 then some (.iload_n 3, 0, 0, 0, 0) else none) else (if pc < 6 then (if pc = 4 then some (.iload 4, 0, 0, 0, 0) else none) else (if pc = 6 then some (.invokevirtual 38, 0, 124, 563, 41482) else none)))) else (if pc < 15 then (if pc < 12 then (if pc = 9 then some (.ifCond .eq 37, 0, 0, 0, 0) else none) else (if pc < 14 then (if pc = 12 then some (.iload 5, 0, 0, 0, 0) else none) else (if pc = 14 then some (.iconst 1, 1, 0, 0, 0) else none))) else (if pc < 17 then (if pc = 15 then some (.iconst (99), 2, 0, 0, 0) else none) else (if pc < 20 then (if pc = 17 then some (.invokestatic 34, 0, 120, 409, 24970) else none) else (if pc = 20 then some (.ifCond .eq 37, 0, 0, 0, 0) else none))))) else (if pc < 34 then (if pc < 27 then (if pc < 25 then (if pc = 23 then some (.iload 6, 0, 0, 0, 0) else none) else (if pc < 26 then (if pc = 25 then some (.iconst 0, 1, 0, 0, 0) else none) else (if pc = 26 then some (.iconst 3, 1, 0, 0, 0) else none))) else (if pc < 30 then (if pc = 27 then some (.invokestatic 34, 0, 120, 409, 24970) else none) else (if pc < 33 then (if pc = 30 then some (.ifCond .eq 37, 0, 0, 0, 0) else none) else (if pc = 33 then some (.iconst 1, 1, 0, 0, 0) else none)))) else (if pc < 41 then (if pc < 37 then (if pc = 34 then some (.goto 38, 0, 0, 0, 0) else none) else (if pc < 38 then (if pc = 37 then some (.iconst 0, 1, 0, 0, 0) else none) else (if pc = 38 then some (.invokestatic 31, 0, 80, 415, 8330) else none))) else (if pc < 45 then (if pc < 42 then (if pc = 41 then some (.aload_n 0, 0, 0, 0, 0) else none) else (if pc = 42 then some (.new 0, 0, 127, 575, 0) else none)) else (if pc < 46 then (if pc = 45 then some (.dup, 0, 0, 0, 0) else none) else (if pc = 46 then some (.iload_n 1, 0, 0, 0, 0) else none)))))) else (if pc < 97 then (if pc < 59 then (if pc < 51 then (if pc < 48 then (if pc = 47 then some (.iload_n 2, 0, 0, 0, 0) else none) else (if pc < 49 then (if pc = 48 then some (.iload_n 3, 0, 0, 0, 0) else none) else (if pc = 49 then some (.iload 4, 0, 0, 0, 0) else none))) else (if pc < 54 then (if pc = 51 then some (.invokespecial 65, 0, 129, 577, 41472) else none) else (if pc < 56 then (if pc = 54 then some (.iload 5, 0, 0, 0, 0) else none) else (if pc = 56 then some (.invokevirtual 49, 0, 224, 1108, 24842) else none)))) else (if pc < 89 then (if pc < 61 then (if pc = 59 then some (.iload 6, 0, 0, 0, 0) else none) else (if pc < 88 then (if pc = 61 then some (.tableswitch 116 (0) (2) #[88, 96, 104], 0, 0, 0, 0) else none) else (if pc = 88 then some (.aload_n 0, 0, 0, 0, 0) else none))) else (if pc < 95 then (if pc < 92 then (if pc = 89 then some (.getfield 646, 0, 58, 369, 0) else none) else (if pc = 92 then some (.invokevirtual 101, 0, 228, 1139, 8195) else none)) else (if pc < 96 then (if pc = 95 then some (.ireturn, 0, 0, 0, 0) else none) else (if pc = 96 then some (.aload_n 0, 0, 0, 0, 0) else none))))) else (if pc < 109 then (if pc < 104 then (if pc < 100 then (if pc = 97 then some (.getfield 646, 0, 58, 369, 0) else none) else (if pc < 103 then (if pc = 100 then some (.invokevirtual 102, 0, 229, 1143, 8195) else none) else (if pc = 103 then some (.ireturn, 0, 0, 0, 0) else none))) else (if pc < 105 then (if pc = 104 then some (.aload_n 0, 0, 0, 0, 0) else none) else (if pc < 108 then (if pc = 105 then some (.getfield 646, 0, 58, 369, 0) else none) else (if pc = 108 then some (.aload_n 0, 0, 0, 0, 0) else none)))) else (if pc < 116 then (if pc < 112 then (if pc = 109 then some (.getfield 643, 0, 37, 366, 0) else none) else (if pc < 115 then (if pc = 112 then some (.invokevirtual 109, 0, 232, 1147, 49283) else none) else (if pc = 115 then some (.ireturn, 0, 0, 0, 0) else none))) else (if pc < 120 then (if pc < 117 then (if pc = 116 then some (.aload_n 0, 0, 0, 0, 0) else none) else (if pc = 117 then some (.getfield 646, 0, 58, 369, 0) else none)) else (if pc < 123 then (if pc = 120 then some (.invokevirtual 103, 0, 236, 1153, 8195) else none) else (if pc = 123 then some (.ireturn, 0, 0, 0, 0) else none))))))
def hm_i12 (pc : Nat) : Option hm_Row := if pc < 124 then hm_j12 pc else none
/-- CurvekeyHouse.asOf(IIIII)I -/
def hm_j13 (pc : Nat) : Option hm_Row := if pc < 29 then (if pc < 12 then (if pc < 3 then (if pc < 1 then (if pc = 0 then some (.aload_n 0, 0, 0, 0, 0) else none) else (if pc < 2 then (if pc = 1 then some (.iload_n 1, 0, 0, 0, 0) else none) else (if pc = 2 then some (.iload_n 2, 0, 0, 0, 0) else none))) else (if pc < 6 then (if pc < 4 then (if pc = 3 then some (.iload_n 3, 0, 0, 0, 0) else none) else (if pc = 4 then some (.iload 4, 0, 0, 0, 0) else none)) else (if pc < 9 then (if pc = 6 then some (.invokevirtual 38, 0, 124, 563, 41482) else none) else (if pc = 9 then some (.ifCond .eq 32, 0, 0, 0, 0) else none)))) else (if pc < 19 then (if pc < 15 then (if pc < 14 then (if pc = 12 then some (.iload 5, 0, 0, 0, 0) else none) else (if pc = 14 then some (.iconst 0, 1, 0, 0, 0) else none)) else (if pc < 16 then (if pc = 15 then some (.aload_n 0, 0, 0, 0, 0) else none) else (if pc = 16 then some (.getfield 642, 0, 28, 365, 0) else none))) else (if pc < 25 then (if pc < 22 then (if pc = 19 then some (.invokevirtual 113, 0, 205, 534, 8196) else none) else (if pc = 22 then some (.invokestatic 34, 0, 120, 409, 24970) else none)) else (if pc < 28 then (if pc = 25 then some (.ifCond .eq 32, 0, 0, 0, 0) else none) else (if pc = 28 then some (.iconst 1, 1, 0, 0, 0) else none))))) else (if pc < 44 then (if pc < 36 then (if pc < 32 then (if pc = 29 then some (.goto 33, 0, 0, 0, 0) else none) else (if pc < 33 then (if pc = 32 then some (.iconst 0, 1, 0, 0, 0) else none) else (if pc = 33 then some (.invokestatic 31, 0, 80, 415, 8330) else none))) else (if pc < 40 then (if pc < 37 then (if pc = 36 then some (.aload_n 0, 0, 0, 0, 0) else none) else (if pc = 37 then some (.getfield 642, 0, 28, 365, 0) else none)) else (if pc < 43 then (if pc = 40 then some (.new 0, 0, 127, 575, 0) else none) else (if pc = 43 then some (.dup, 0, 0, 0, 0) else none)))) else (if pc < 49 then (if pc < 46 then (if pc < 45 then (if pc = 44 then some (.iload_n 1, 0, 0, 0, 0) else none) else (if pc = 45 then some (.iload_n 2, 0, 0, 0, 0) else none)) else (if pc < 47 then (if pc = 46 then some (.iload_n 3, 0, 0, 0, 0) else none) else (if pc = 47 then some (.iload 4, 0, 0, 0, 0) else none))) else (if pc < 54 then (if pc < 52 then (if pc = 49 then some (.invokespecial 65, 0, 129, 577, 41472) else none) else (if pc = 52 then some (.iload 5, 0, 0, 0, 0) else none)) else (if pc < 57 then (if pc = 54 then some (.invokevirtual 122, 0, 243, 594, 41220) else none) else (if pc = 57 then some (.ireturn, 0, 0, 0, 0) else none)))))
def hm_i13 (pc : Nat) : Option hm_Row := if pc < 58 then hm_j13 pc else none
/-- CurvekeyHouse.soon(IIIII)I -/
def hm_j14 (pc : Nat) : Option hm_Row := if pc < 28 then (if pc < 12 then (if pc < 3 then (if pc < 1 then (if pc = 0 then some (.aload_n 0, 0, 0, 0, 0) else none) else (if pc < 2 then (if pc = 1 then some (.iload_n 1, 0, 0, 0, 0) else none) else (if pc = 2 then some (.iload_n 2, 0, 0, 0, 0) else none))) else (if pc < 6 then (if pc < 4 then (if pc = 3 then some (.iload_n 3, 0, 0, 0, 0) else none) else (if pc = 4 then some (.iload 4, 0, 0, 0, 0) else none)) else (if pc < 9 then (if pc = 6 then some (.invokevirtual 38, 0, 124, 563, 41482) else none) else (if pc = 9 then some (.ifCond .eq 27, 0, 0, 0, 0) else none)))) else (if pc < 20 then (if pc < 15 then (if pc < 14 then (if pc = 12 then some (.iload 5, 0, 0, 0, 0) else none) else (if pc = 14 then some (.iconst 0, 1, 0, 0, 0) else none)) else (if pc < 17 then (if pc = 15 then some (.iconst (40), 2, 0, 0, 0) else none) else (if pc = 17 then some (.invokestatic 34, 0, 120, 409, 24970) else none))) else (if pc < 24 then (if pc < 23 then (if pc = 20 then some (.ifCond .eq 27, 0, 0, 0, 0) else none) else (if pc = 23 then some (.iconst 1, 1, 0, 0, 0) else none)) else (if pc < 27 then (if pc = 24 then some (.goto 28, 0, 0, 0, 0) else none) else (if pc = 27 then some (.iconst 0, 1, 0, 0, 0) else none))))) else (if pc < 42 then (if pc < 38 then (if pc < 32 then (if pc < 31 then (if pc = 28 then some (.invokestatic 31, 0, 80, 415, 8330) else none) else (if pc = 31 then some (.aload_n 0, 0, 0, 0, 0) else none)) else (if pc < 35 then (if pc = 32 then some (.getfield 641, 0, 21, 364, 0) else none) else (if pc = 35 then some (.new 0, 0, 127, 575, 0) else none))) else (if pc < 40 then (if pc < 39 then (if pc = 38 then some (.dup, 0, 0, 0, 0) else none) else (if pc = 39 then some (.iload_n 1, 0, 0, 0, 0) else none)) else (if pc < 41 then (if pc = 40 then some (.iload_n 2, 0, 0, 0, 0) else none) else (if pc = 41 then some (.iload_n 3, 0, 0, 0, 0) else none)))) else (if pc < 50 then (if pc < 47 then (if pc < 44 then (if pc = 42 then some (.iload 4, 0, 0, 0, 0) else none) else (if pc = 44 then some (.invokespecial 65, 0, 129, 577, 41472) else none)) else (if pc < 49 then (if pc = 47 then some (.iload 5, 0, 0, 0, 0) else none) else (if pc = 49 then some (.aload_n 0, 0, 0, 0, 0) else none))) else (if pc < 56 then (if pc < 53 then (if pc = 50 then some (.getfield 640, 0, 14, 363, 0) else none) else (if pc = 53 then some (.invokevirtual 86, 0, 176, 571, 8194) else none)) else (if pc < 59 then (if pc = 56 then some (.invokevirtual 171, 0, 239, 1213, 49543) else none) else (if pc = 59 then some (.ireturn, 0, 0, 0, 0) else none)))))
def hm_i14 (pc : Nat) : Option hm_Row := if pc < 60 then hm_j14 pc else none
/-- CurvekeyHouse.nearest(III)I -/
def hm_j15 (pc : Nat) : Option hm_Row := if pc < 17 then (if pc < 6 then (if pc < 2 then (if pc < 1 then (if pc = 0 then some (.aload_n 0, 0, 0, 0, 0) else none) else (if pc = 1 then some (.iload_n 1, 0, 0, 0, 0) else none)) else (if pc < 3 then (if pc = 2 then some (.iload_n 2, 0, 0, 0, 0) else none) else (if pc = 3 then some (.invokevirtual 37, 0, 103, 567, 24842) else none))) else (if pc < 10 then (if pc < 9 then (if pc = 6 then some (.ifCond .eq 17, 0, 0, 0, 0) else none) else (if pc = 9 then some (.iload_n 3, 0, 0, 0, 0) else none)) else (if pc < 13 then (if pc = 10 then some (.ifCond .lt 17, 0, 0, 0, 0) else none) else (if pc < 14 then (if pc = 13 then some (.iconst 1, 1, 0, 0, 0) else none) else (if pc = 14 then some (.goto 18, 0, 0, 0, 0) else none))))) else (if pc < 25 then (if pc < 21 then (if pc < 18 then (if pc = 17 then some (.iconst 0, 1, 0, 0, 0) else none) else (if pc = 18 then some (.invokestatic 31, 0, 80, 415, 8330) else none)) else (if pc < 22 then (if pc = 21 then some (.aload_n 0, 0, 0, 0, 0) else none) else (if pc = 22 then some (.getfield 641, 0, 21, 364, 0) else none))) else (if pc < 27 then (if pc < 26 then (if pc = 25 then some (.iload_n 1, 0, 0, 0, 0) else none) else (if pc = 26 then some (.iload_n 2, 0, 0, 0, 0) else none)) else (if pc < 28 then (if pc = 27 then some (.iload_n 3, 0, 0, 0, 0) else none) else (if pc < 31 then (if pc = 28 then some (.invokevirtual 173, 0, 247, 1177, 41351) else none) else (if pc = 31 then some (.ireturn, 0, 0, 0, 0) else none)))))
def hm_i15 (pc : Nat) : Option hm_Row := if pc < 32 then hm_j15 pc else none
/-- CurvekeyHouse.proof(III)I -/
def hm_j16 (pc : Nat) : Option hm_Row := if pc < 39 then (if pc < 18 then (if pc < 9 then (if pc < 2 then (if pc < 1 then (if pc = 0 then some (.aload_n 0, 0, 0, 0, 0) else none) else (if pc = 1 then some (.iload_n 1, 0, 0, 0, 0) else none)) else (if pc < 3 then (if pc = 2 then some (.iload_n 2, 0, 0, 0, 0) else none) else (if pc < 6 then (if pc = 3 then some (.invokevirtual 37, 0, 103, 567, 24842) else none) else (if pc = 6 then some (.ifCond .eq 17, 0, 0, 0, 0) else none)))) else (if pc < 13 then (if pc < 10 then (if pc = 9 then some (.iload_n 3, 0, 0, 0, 0) else none) else (if pc = 10 then some (.ifCond .lt 17, 0, 0, 0, 0) else none)) else (if pc < 14 then (if pc = 13 then some (.iconst 1, 1, 0, 0, 0) else none) else (if pc < 17 then (if pc = 14 then some (.goto 18, 0, 0, 0, 0) else none) else (if pc = 17 then some (.iconst 0, 1, 0, 0, 0) else none))))) else (if pc < 27 then (if pc < 22 then (if pc < 21 then (if pc = 18 then some (.invokestatic 31, 0, 80, 415, 8330) else none) else (if pc = 21 then some (.aload_n 0, 0, 0, 0, 0) else none)) else (if pc < 25 then (if pc = 22 then some (.getfield 641, 0, 21, 364, 0) else none) else (if pc < 26 then (if pc = 25 then some (.iload_n 1, 0, 0, 0, 0) else none) else (if pc = 26 then some (.iload_n 2, 0, 0, 0, 0) else none)))) else (if pc < 33 then (if pc < 28 then (if pc = 27 then some (.iload_n 3, 0, 0, 0, 0) else none) else (if pc < 31 then (if pc = 28 then some (.invokevirtual 173, 0, 247, 1177, 41351) else none) else (if pc = 31 then some (.istore 4, 0, 0, 0, 0) else none))) else (if pc < 35 then (if pc = 33 then some (.iload 4, 0, 0, 0, 0) else none) else (if pc < 36 then (if pc = 35 then some (.iconst (-1), 1, 0, 0, 0) else none) else (if pc = 36 then some (.if_icmp .ne 41, 0, 0, 0, 0) else none)))))) else (if pc < 53 then (if pc < 44 then (if pc < 41 then (if pc < 40 then (if pc = 39 then some (.iconst (-1), 1, 0, 0, 0) else none) else (if pc = 40 then some (.ireturn, 0, 0, 0, 0) else none)) else (if pc < 42 then (if pc = 41 then some (.aload_n 0, 0, 0, 0, 0) else none) else (if pc < 43 then (if pc = 42 then some (.aload_n 0, 0, 0, 0, 0) else none) else (if pc = 43 then some (.iload_n 1, 0, 0, 0, 0) else none)))) else (if pc < 49 then (if pc < 45 then (if pc = 44 then some (.iload_n 2, 0, 0, 0, 0) else none) else (if pc < 46 then (if pc = 45 then some (.aload_n 0, 0, 0, 0, 0) else none) else (if pc = 46 then some (.getfield 641, 0, 21, 364, 0) else none))) else (if pc < 51 then (if pc = 49 then some (.iload 4, 0, 0, 0, 0) else none) else (if pc < 52 then (if pc = 51 then some (.iload_n 1, 0, 0, 0, 0) else none) else (if pc = 52 then some (.iload_n 2, 0, 0, 0, 0) else none))))) else (if pc < 67 then (if pc < 59 then (if pc < 56 then (if pc = 53 then some (.invokevirtual 172, 0, 250, 1193, 49543) else none) else (if pc = 56 then some (.invokestatic 52, 0, 253, 1194, 24714) else none)) else (if pc < 62 then (if pc = 59 then some (.invokevirtual 51, 0, 256, 1197, 65930) else none) else (if pc < 64 then (if pc = 62 then some (.iconst (99), 2, 0, 0, 0) else none) else (if pc = 64 then some (.invokevirtual 49, 0, 224, 1108, 24842) else none)))) else (if pc < 72 then (if pc < 68 then (if pc = 67 then some (.aload_n 0, 0, 0, 0, 0) else none) else (if pc < 71 then (if pc = 68 then some (.getfield 646, 0, 58, 369, 0) else none) else (if pc = 71 then some (.aload_n 0, 0, 0, 0, 0) else none))) else (if pc < 75 then (if pc = 72 then some (.getfield 643, 0, 37, 366, 0) else none) else (if pc < 78 then (if pc = 75 then some (.invokevirtual 109, 0, 232, 1147, 49283) else none) else (if pc = 78 then some (.ireturn, 0, 0, 0, 0) else none))))))
def hm_i16 (pc : Nat) : Option hm_Row := if pc < 79 then hm_j16 pc else none
/-- CurvekeyHouse.speed(III)I -/
def hm_j17 (pc : Nat) : Option hm_Row := if pc < 39 then (if pc < 18 then (if pc < 8 then (if pc < 4 then (if pc < 1 then (if pc = 0 then some (.aload_n 0, 0, 0, 0, 0) else none) else (if pc = 1 then some (.getfield 641, 0, 21, 364, 0) else none)) else (if pc < 5 then (if pc = 4 then some (.iload_n 1, 0, 0, 0, 0) else none) else (if pc = 5 then some (.invokevirtual 159, 0, 179, 747, 16519) else none))) else (if pc < 12 then (if pc < 11 then (if pc = 8 then some (.invokestatic 33, 0, 182, 751, 8330) else none) else (if pc = 11 then some (.iload_n 2, 0, 0, 0, 0) else none)) else (if pc < 14 then (if pc = 12 then some (.iconst (-3), 2, 0, 0, 0) else none) else (if pc < 15 then (if pc = 14 then some (.iconst 3, 1, 0, 0, 0) else none) else (if pc = 15 then some (.invokestatic 34, 0, 120, 409, 24970) else none))))) else (if pc < 28 then (if pc < 22 then (if pc < 21 then (if pc = 18 then some (.ifCond .eq 35, 0, 0, 0, 0) else none) else (if pc = 21 then some (.iload_n 3, 0, 0, 0, 0) else none)) else (if pc < 24 then (if pc = 22 then some (.iconst (-3), 2, 0, 0, 0) else none) else (if pc < 25 then (if pc = 24 then some (.iconst 3, 1, 0, 0, 0) else none) else (if pc = 25 then some (.invokestatic 34, 0, 120, 409, 24970) else none)))) else (if pc < 32 then (if pc < 31 then (if pc = 28 then some (.ifCond .eq 35, 0, 0, 0, 0) else none) else (if pc = 31 then some (.iconst 1, 1, 0, 0, 0) else none)) else (if pc < 35 then (if pc = 32 then some (.goto 36, 0, 0, 0, 0) else none) else (if pc < 36 then (if pc = 35 then some (.iconst 0, 1, 0, 0, 0) else none) else (if pc = 36 then some (.invokestatic 31, 0, 80, 415, 8330) else none)))))) else (if pc < 57 then (if pc < 50 then (if pc < 43 then (if pc < 40 then (if pc = 39 then some (.aload_n 0, 0, 0, 0, 0) else none) else (if pc = 40 then some (.getfield 641, 0, 21, 364, 0) else none)) else (if pc < 44 then (if pc = 43 then some (.iload_n 1, 0, 0, 0, 0) else none) else (if pc < 47 then (if pc = 44 then some (.invokevirtual 160, 0, 185, 770, 16519) else none) else (if pc = 47 then some (.invokestatic 32, 0, 88, 635, 8330) else none)))) else (if pc < 54 then (if pc < 51 then (if pc = 50 then some (.aload_n 0, 0, 0, 0, 0) else none) else (if pc = 51 then some (.getfield 641, 0, 21, 364, 0) else none)) else (if pc < 55 then (if pc = 54 then some (.iload_n 1, 0, 0, 0, 0) else none) else (if pc < 56 then (if pc = 55 then some (.iload_n 2, 0, 0, 0, 0) else none) else (if pc = 56 then some (.iload_n 3, 0, 0, 0, 0) else none))))) else (if pc < 66 then (if pc < 61 then (if pc < 60 then (if pc = 57 then some (.invokevirtual 167, 0, 270, 832, 33159) else none) else (if pc = 60 then some (.aload_n 0, 0, 0, 0, 0) else none)) else (if pc < 64 then (if pc = 61 then some (.getfield 641, 0, 21, 364, 0) else none) else (if pc < 65 then (if pc = 64 then some (.iload_n 1, 0, 0, 0, 0) else none) else (if pc = 65 then some (.iconst 1, 1, 0, 0, 0) else none)))) else (if pc < 70 then (if pc < 67 then (if pc = 66 then some (.aload_n 0, 0, 0, 0, 0) else none) else (if pc = 67 then some (.getfield 640, 0, 14, 363, 0) else none)) else (if pc < 73 then (if pc = 70 then some (.invokevirtual 86, 0, 176, 571, 8194) else none) else (if pc < 76 then (if pc = 73 then some (.invokevirtual 169, 0, 273, 833, 33159) else none) else (if pc = 76 then some (.ireturn, 0, 0, 0, 0) else none))))))
def hm_i17 (pc : Nat) : Option hm_Row := if pc < 77 then hm_j17 pc else none
/-- CurvekeyHouse.tick(I)I -/
def hm_j18 (pc : Nat) : Option hm_Row := if pc < 41 then (if pc < 24 then (if pc < 10 then (if pc < 2 then (if pc < 1 then (if pc = 0 then some (.iload_n 1, 0, 0, 0, 0) else none) else (if pc = 1 then some (.iconst 1, 1, 0, 0, 0) else none)) else (if pc < 4 then (if pc = 2 then some (.iconst (9), 2, 0, 0, 0) else none) else (if pc < 7 then (if pc = 4 then some (.invokestatic 34, 0, 120, 409, 24970) else none) else (if pc = 7 then some (.invokestatic 31, 0, 80, 415, 8330) else none)))) else (if pc < 17 then (if pc < 11 then (if pc = 10 then some (.aload_n 0, 0, 0, 0, 0) else none) else (if pc < 14 then (if pc = 11 then some (.getfield 642, 0, 28, 365, 0) else none) else (if pc = 14 then some (.invokevirtual 112, 0, 276, 542, 8196) else none))) else (if pc < 20 then (if pc = 17 then some (.iconst (400), 3, 0, 0, 0) else none) else (if pc < 23 then (if pc = 20 then some (.if_icmp .gt 27, 0, 0, 0, 0) else none) else (if pc = 23 then some (.iconst 1, 1, 0, 0, 0) else none))))) else (if pc < 33 then (if pc < 28 then (if pc < 27 then (if pc = 24 then some (.goto 28, 0, 0, 0, 0) else none) else (if pc = 27 then some (.iconst 0, 1, 0, 0, 0) else none)) else (if pc < 31 then (if pc = 28 then some (.invokestatic 32, 0, 88, 635, 8330) else none) else (if pc < 32 then (if pc = 31 then some (.iconst 0, 1, 0, 0, 0) else none) else (if pc = 32 then some (.istore_n 2, 0, 0, 0, 0) else none)))) else (if pc < 36 then (if pc < 34 then (if pc = 33 then some (.iconst 0, 1, 0, 0, 0) else none) else (if pc < 35 then (if pc = 34 then some (.istore_n 3, 0, 0, 0, 0) else none) else (if pc = 35 then some (.iload_n 3, 0, 0, 0, 0) else none))) else (if pc < 37 then (if pc = 36 then some (.iload_n 1, 0, 0, 0, 0) else none) else (if pc < 40 then (if pc = 37 then some (.if_icmp .ge 91, 0, 0, 0, 0) else none) else (if pc = 40 then some (.iconst 0, 1, 0, 0, 0) else none)))))) else (if pc < 67 then (if pc < 52 then (if pc < 45 then (if pc < 43 then (if pc = 41 then some (.istore 4, 0, 0, 0, 0) else none) else (if pc = 43 then some (.iload 4, 0, 0, 0, 0) else none)) else (if pc < 46 then (if pc = 45 then some (.aload_n 0, 0, 0, 0, 0) else none) else (if pc < 49 then (if pc = 46 then some (.getfield 641, 0, 21, 364, 0) else none) else (if pc = 49 then some (.invokevirtual 157, 0, 84, 518, 8199) else none)))) else (if pc < 59 then (if pc < 55 then (if pc = 52 then some (.if_icmp .ge 85, 0, 0, 0, 0) else none) else (if pc < 56 then (if pc = 55 then some (.aload_n 0, 0, 0, 0, 0) else none) else (if pc = 56 then some (.getfield 641, 0, 21, 364, 0) else none))) else (if pc < 61 then (if pc = 59 then some (.iload 4, 0, 0, 0, 0) else none) else (if pc < 64 then (if pc = 61 then some (.invokevirtual 160, 0, 185, 770, 16519) else none) else (if pc = 64 then some (.ifCond .eq 79, 0, 0, 0, 0) else none))))) else (if pc < 79 then (if pc < 70 then (if pc < 68 then (if pc = 67 then some (.aload_n 0, 0, 0, 0, 0) else none) else (if pc = 68 then some (.iload 4, 0, 0, 0, 0) else none)) else (if pc < 73 then (if pc = 70 then some (.invokevirtual 47, 0, 277, 850, 41098) else none) else (if pc < 76 then (if pc = 73 then some (.ifCond .eq 79, 0, 0, 0, 0) else none) else (if pc = 76 then some (.iinc 2 (1), 0, 0, 0, 0) else none)))) else (if pc < 88 then (if pc < 82 then (if pc = 79 then some (.iinc 4 (1), 0, 0, 0, 0) else none) else (if pc < 85 then (if pc = 82 then some (.goto 43, 0, 0, 0, 0) else none) else (if pc = 85 then some (.iinc 3 (1), 0, 0, 0, 0) else none))) else (if pc < 91 then (if pc = 88 then some (.goto 35, 0, 0, 0, 0) else none) else (if pc < 92 then (if pc = 91 then some (.iload_n 2, 0, 0, 0, 0) else none) else (if pc = 92 then some (.ireturn, 0, 0, 0, 0) else none))))))
def hm_i18 (pc : Nat) : Option hm_Row := if pc < 93 then hm_j18 pc else none
/-- CurvekeyHouse.guess(IZ)I -/
def hm_j19 (pc : Nat) : Option hm_Row := if pc < 20 then (if pc < 9 then (if pc < 2 then (if pc < 1 then (if pc = 0 then some (.aload_n 0, 0, 0, 0, 0) else none) else (if pc = 1 then some (.iload_n 1, 0, 0, 0, 0) else none)) else (if pc < 5 then (if pc = 2 then some (.invokevirtual 36, 0, 111, 1094, 16522) else none) else (if pc < 8 then (if pc = 5 then some (.invokestatic 31, 0, 80, 415, 8330) else none) else (if pc = 8 then some (.aload_n 0, 0, 0, 0, 0) else none)))) else (if pc < 13 then (if pc < 12 then (if pc = 9 then some (.getfield 647, 0, 65, 370, 0) else none) else (if pc = 12 then some (.aload_n 0, 0, 0, 0, 0) else none)) else (if pc < 16 then (if pc = 13 then some (.getfield 643, 0, 37, 366, 0) else none) else (if pc < 19 then (if pc = 16 then some (.invokevirtual 124, 0, 280, 985, 24709) else none) else (if pc = 19 then some (.iload_n 2, 0, 0, 0, 0) else none))))) else (if pc < 31 then (if pc < 24 then (if pc < 23 then (if pc = 20 then some (.ifCond .eq 34, 0, 0, 0, 0) else none) else (if pc = 23 then some (.aload_n 0, 0, 0, 0, 0) else none)) else (if pc < 27 then (if pc = 24 then some (.getfield 647, 0, 65, 370, 0) else none) else (if pc < 28 then (if pc = 27 then some (.iload_n 1, 0, 0, 0, 0) else none) else (if pc = 28 then some (.invokevirtual 125, 0, 284, 1228, 32901) else none)))) else (if pc < 38 then (if pc < 34 then (if pc = 31 then some (.goto 42, 0, 0, 0, 0) else none) else (if pc < 35 then (if pc = 34 then some (.aload_n 0, 0, 0, 0, 0) else none) else (if pc = 35 then some (.getfield 647, 0, 65, 370, 0) else none))) else (if pc < 39 then (if pc = 38 then some (.iload_n 1, 0, 0, 0, 0) else none) else (if pc < 42 then (if pc = 39 then some (.invokevirtual 126, 0, 287, 1232, 16517) else none) else (if pc = 42 then some (.ireturn, 0, 0, 0, 0) else none)))))
def hm_i19 (pc : Nat) : Option hm_Row := if pc < 43 then hm_j19 pc else none
/-- CurvekeyHouse.pieces(I)I -/
def hm_j20 (pc : Nat) : Option hm_Row := if pc < 14 then (if pc < 4 then (if pc < 1 then (if pc = 0 then some (.iload_n 1, 0, 0, 0, 0) else none) else (if pc < 2 then (if pc = 1 then some (.iconst 0, 1, 0, 0, 0) else none) else (if pc = 2 then some (.iconst (80), 2, 0, 0, 0) else none))) else (if pc < 10 then (if pc < 7 then (if pc = 4 then some (.invokestatic 34, 0, 120, 409, 24970) else none) else (if pc = 7 then some (.invokestatic 31, 0, 80, 415, 8330) else none)) else (if pc < 11 then (if pc = 10 then some (.aload_n 0, 0, 0, 0, 0) else none) else (if pc = 11 then some (.getfield 647, 0, 65, 370, 0) else none)))) else (if pc < 22 then (if pc < 18 then (if pc < 15 then (if pc = 14 then some (.aload_n 0, 0, 0, 0, 0) else none) else (if pc = 15 then some (.getfield 643, 0, 37, 366, 0) else none)) else (if pc < 21 then (if pc = 18 then some (.invokevirtual 124, 0, 280, 985, 24709) else none) else (if pc = 21 then some (.aload_n 0, 0, 0, 0, 0) else none))) else (if pc < 26 then (if pc < 25 then (if pc = 22 then some (.getfield 647, 0, 65, 370, 0) else none) else (if pc = 25 then some (.iload_n 1, 0, 0, 0, 0) else none)) else (if pc < 29 then (if pc = 26 then some (.invokevirtual 128, 0, 293, 1010, 41093) else none) else (if pc = 29 then some (.ireturn, 0, 0, 0, 0) else none))))
def hm_i20 (pc : Nat) : Option hm_Row := if pc < 30 then hm_j20 pc else none
/-- CurvekeyHouse.share(I)I -/
def hm_j21 (pc : Nat) : Option hm_Row := if pc < 29 then (if pc < 12 then (if pc < 6 then (if pc < 2 then (if pc < 1 then (if pc = 0 then some (.iload_n 1, 0, 0, 0, 0) else none) else (if pc = 1 then some (.iconst 1, 1, 0, 0, 0) else none)) else (if pc < 3 then (if pc = 2 then some (.iconst 4, 1, 0, 0, 0) else none) else (if pc = 3 then some (.invokestatic 34, 0, 120, 409, 24970) else none))) else (if pc < 10 then (if pc < 9 then (if pc = 6 then some (.invokestatic 31, 0, 80, 415, 8330) else none) else (if pc = 9 then some (.iconst 0, 1, 0, 0, 0) else none)) else (if pc < 11 then (if pc = 10 then some (.istore_n 2, 0, 0, 0, 0) else none) else (if pc = 11 then some (.iconst 0, 1, 0, 0, 0) else none)))) else (if pc < 18 then (if pc < 14 then (if pc < 13 then (if pc = 12 then some (.istore_n 3, 0, 0, 0, 0) else none) else (if pc = 13 then some (.iload_n 3, 0, 0, 0, 0) else none)) else (if pc < 15 then (if pc = 14 then some (.aload_n 0, 0, 0, 0, 0) else none) else (if pc = 15 then some (.getfield 643, 0, 37, 366, 0) else none))) else (if pc < 24 then (if pc < 21 then (if pc = 18 then some (.invokevirtual 133, 0, 214, 526, 8198) else none) else (if pc = 21 then some (.if_icmp .ge 57, 0, 0, 0, 0) else none)) else (if pc < 25 then (if pc = 24 then some (.aload_n 0, 0, 0, 0, 0) else none) else (if pc < 28 then (if pc = 25 then some (.getfield 643, 0, 37, 366, 0) else none) else (if pc = 28 then some (.iload_n 3, 0, 0, 0, 0) else none)))))) else (if pc < 45 then (if pc < 37 then (if pc < 33 then (if pc < 30 then (if pc = 29 then some (.iload_n 1, 0, 0, 0, 0) else none) else (if pc = 30 then some (.invokevirtual 146, 0, 296, 896, 24838) else none)) else (if pc < 34 then (if pc = 33 then some (.aload_n 0, 0, 0, 0, 0) else none) else (if pc = 34 then some (.getfield 643, 0, 37, 366, 0) else none))) else (if pc < 39 then (if pc < 38 then (if pc = 37 then some (.iload_n 3, 0, 0, 0, 0) else none) else (if pc = 38 then some (.aload_n 0, 0, 0, 0, 0) else none)) else (if pc < 42 then (if pc = 39 then some (.getfield 649, 0, 73, 372, 0) else none) else (if pc = 42 then some (.invokevirtual 146, 0, 296, 896, 24838) else none)))) else (if pc < 57 then (if pc < 51 then (if pc < 48 then (if pc = 45 then some (.if_icmp .eq 51, 0, 0, 0, 0) else none) else (if pc = 48 then some (.iinc 2 (1), 0, 0, 0, 0) else none)) else (if pc < 54 then (if pc = 51 then some (.iinc 3 (1), 0, 0, 0, 0) else none) else (if pc = 54 then some (.goto 13, 0, 0, 0, 0) else none))) else (if pc < 59 then (if pc < 58 then (if pc = 57 then some (.aload_n 0, 0, 0, 0, 0) else none) else (if pc = 58 then some (.iload_n 1, 0, 0, 0, 0) else none)) else (if pc < 62 then (if pc = 59 then some (.putfield 649, 0, 73, 372, 0) else none) else (if pc < 63 then (if pc = 62 then some (.iload_n 2, 0, 0, 0, 0) else none) else (if pc = 63 then some (.ireturn, 0, 0, 0, 0) else none))))))
def hm_i21 (pc : Nat) : Option hm_Row := if pc < 64 then hm_j21 pc else none
/-- CurvekeyHouse.ofMachine(II)I -/
def hm_j22 (pc : Nat) : Option hm_Row := if pc < 15 then (if pc < 6 then (if pc < 2 then (if pc < 1 then (if pc = 0 then some (.iload_n 1, 0, 0, 0, 0) else none) else (if pc = 1 then some (.iconst 0, 1, 0, 0, 0) else none)) else (if pc < 3 then (if pc = 2 then some (.aload_n 0, 0, 0, 0, 0) else none) else (if pc = 3 then some (.getfield 649, 0, 73, 372, 0) else none))) else (if pc < 8 then (if pc < 7 then (if pc = 6 then some (.iconst 1, 1, 0, 0, 0) else none) else (if pc = 7 then some (.isub, 0, 0, 0, 0) else none)) else (if pc < 11 then (if pc = 8 then some (.invokestatic 34, 0, 120, 409, 24970) else none) else (if pc < 14 then (if pc = 11 then some (.invokestatic 33, 0, 182, 751, 8330) else none) else (if pc = 14 then some (.iload_n 2, 0, 0, 0, 0) else none))))) else (if pc < 23 then (if pc < 17 then (if pc < 16 then (if pc = 15 then some (.iconst 0, 1, 0, 0, 0) else none) else (if pc = 16 then some (.iconst 2, 1, 0, 0, 0) else none)) else (if pc < 20 then (if pc = 17 then some (.invokestatic 34, 0, 120, 409, 24970) else none) else (if pc = 20 then some (.invokestatic 31, 0, 80, 415, 8330) else none))) else (if pc < 25 then (if pc < 24 then (if pc = 23 then some (.aload_n 0, 0, 0, 0, 0) else none) else (if pc = 24 then some (.iload_n 1, 0, 0, 0, 0) else none)) else (if pc < 26 then (if pc = 25 then some (.iload_n 2, 0, 0, 0, 0) else none) else (if pc < 29 then (if pc = 26 then some (.invokevirtual 57, 0, 299, 1018, 24842) else none) else (if pc = 29 then some (.ireturn, 0, 0, 0, 0) else none)))))
def hm_i22 (pc : Nat) : Option hm_Row := if pc < 30 then hm_j22 pc else none
/-- CurvekeyHouse.skew()I -/
def hm_j23 (pc : Nat) : Option hm_Row := if pc < 30 then (if pc < 15 then (if pc < 6 then (if pc < 4 then (if pc < 1 then (if pc = 0 then some (.aload_n 0, 0, 0, 0, 0) else none) else (if pc = 1 then some (.getfield 643, 0, 37, 366, 0) else none)) else (if pc < 5 then (if pc = 4 then some (.iconst 0, 1, 0, 0, 0) else none) else (if pc = 5 then some (.aload_n 0, 0, 0, 0, 0) else none))) else (if pc < 12 then (if pc < 9 then (if pc = 6 then some (.getfield 649, 0, 73, 372, 0) else none) else (if pc = 9 then some (.invokevirtual 147, 0, 302, 1022, 41222) else none)) else (if pc < 13 then (if pc = 12 then some (.istore_n 1, 0, 0, 0, 0) else none) else (if pc < 14 then (if pc = 13 then some (.iload_n 1, 0, 0, 0, 0) else none) else (if pc = 14 then some (.istore_n 2, 0, 0, 0, 0) else none))))) else (if pc < 19 then (if pc < 17 then (if pc < 16 then (if pc = 15 then some (.iconst 1, 1, 0, 0, 0) else none) else (if pc = 16 then some (.istore_n 3, 0, 0, 0, 0) else none)) else (if pc < 18 then (if pc = 17 then some (.iload_n 3, 0, 0, 0, 0) else none) else (if pc = 18 then some (.aload_n 0, 0, 0, 0, 0) else none))) else (if pc < 25 then (if pc < 22 then (if pc = 19 then some (.getfield 649, 0, 73, 372, 0) else none) else (if pc = 22 then some (.if_icmp .ge 59, 0, 0, 0, 0) else none)) else (if pc < 26 then (if pc = 25 then some (.aload_n 0, 0, 0, 0, 0) else none) else (if pc < 29 then (if pc = 26 then some (.getfield 643, 0, 37, 366, 0) else none) else (if pc = 29 then some (.iload_n 3, 0, 0, 0, 0) else none)))))) else (if pc < 47 then (if pc < 39 then (if pc < 34 then (if pc < 31 then (if pc = 30 then some (.aload_n 0, 0, 0, 0, 0) else none) else (if pc = 31 then some (.getfield 649, 0, 73, 372, 0) else none)) else (if pc < 37 then (if pc = 34 then some (.invokevirtual 147, 0, 302, 1022, 41222) else none) else (if pc = 37 then some (.istore 4, 0, 0, 0, 0) else none))) else (if pc < 42 then (if pc < 40 then (if pc = 39 then some (.iload_n 1, 0, 0, 0, 0) else none) else (if pc = 40 then some (.iload 4, 0, 0, 0, 0) else none)) else (if pc < 45 then (if pc = 42 then some (.invokestatic 1001, 0, 305, 1040, 0) else none) else (if pc < 46 then (if pc = 45 then some (.istore_n 1, 0, 0, 0, 0) else none) else (if pc = 46 then some (.iload_n 2, 0, 0, 0, 0) else none))))) else (if pc < 56 then (if pc < 52 then (if pc < 49 then (if pc = 47 then some (.iload 4, 0, 0, 0, 0) else none) else (if pc = 49 then some (.invokestatic 1002, 0, 310, 1041, 0) else none)) else (if pc < 53 then (if pc = 52 then some (.istore_n 2, 0, 0, 0, 0) else none) else (if pc = 53 then some (.iinc 3 (1), 0, 0, 0, 0) else none))) else (if pc < 60 then (if pc < 59 then (if pc = 56 then some (.goto 17, 0, 0, 0, 0) else none) else (if pc = 59 then some (.iload_n 1, 0, 0, 0, 0) else none)) else (if pc < 61 then (if pc = 60 then some (.iload_n 2, 0, 0, 0, 0) else none) else (if pc < 62 then (if pc = 61 then some (.isub, 0, 0, 0, 0) else none) else (if pc = 62 then some (.ireturn, 0, 0, 0, 0) else none))))))
def hm_i23 (pc : Nat) : Option hm_Row := if pc < 63 then hm_j23 pc else none
/-- CurvekeyHouse.density(II)I -/
def hm_j24 (pc : Nat) : Option hm_Row := if pc < 12 then (if pc < 5 then (if pc < 1 then (if pc = 0 then some (.aload_n 0, 0, 0, 0, 0) else none) else (if pc < 4 then (if pc = 1 then some (.getfield 644, 0, 44, 367, 0) else none) else (if pc = 4 then some (.iload_n 1, 0, 0, 0, 0) else none))) else (if pc < 6 then (if pc = 5 then some (.iload_n 2, 0, 0, 0, 0) else none) else (if pc < 9 then (if pc = 6 then some (.invokevirtual 71, 0, 313, 867, 24833) else none) else (if pc = 9 then some (.invokestatic 31, 0, 80, 415, 8330) else none)))) else (if pc < 17 then (if pc < 13 then (if pc = 12 then some (.aload_n 0, 0, 0, 0, 0) else none) else (if pc < 16 then (if pc = 13 then some (.getfield 644, 0, 44, 367, 0) else none) else (if pc = 16 then some (.iload_n 1, 0, 0, 0, 0) else none))) else (if pc < 18 then (if pc = 17 then some (.iload_n 2, 0, 0, 0, 0) else none) else (if pc < 21 then (if pc = 18 then some (.invokevirtual 75, 0, 316, 883, 24833) else none) else (if pc = 21 then some (.ireturn, 0, 0, 0, 0) else none))))
def hm_i24 (pc : Nat) : Option hm_Row := if pc < 22 then hm_j24 pc else none
/-- CurvekeyHouse.blur(II)I -/
def hm_j25 (pc : Nat) : Option hm_Row := if pc < 29 then (if pc < 13 then (if pc < 5 then (if pc < 1 then (if pc = 0 then some (.aload_n 0, 0, 0, 0, 0) else none) else (if pc < 4 then (if pc = 1 then some (.getfield 641, 0, 21, 364, 0) else none) else (if pc = 4 then some (.iload_n 1, 0, 0, 0, 0) else none))) else (if pc < 11 then (if pc < 8 then (if pc = 5 then some (.invokevirtual 159, 0, 179, 747, 16519) else none) else (if pc = 8 then some (.invokestatic 33, 0, 182, 751, 8330) else none)) else (if pc < 12 then (if pc = 11 then some (.iload_n 2, 0, 0, 0, 0) else none) else (if pc = 12 then some (.iconst 1, 1, 0, 0, 0) else none)))) else (if pc < 21 then (if pc < 15 then (if pc = 13 then some (.iconst (80), 2, 0, 0, 0) else none) else (if pc < 18 then (if pc = 15 then some (.invokestatic 34, 0, 120, 409, 24970) else none) else (if pc = 18 then some (.invokestatic 31, 0, 80, 415, 8330) else none))) else (if pc < 25 then (if pc < 22 then (if pc = 21 then some (.aload_n 0, 0, 0, 0, 0) else none) else (if pc = 22 then some (.getfield 641, 0, 21, 364, 0) else none)) else (if pc < 26 then (if pc = 25 then some (.iload_n 1, 0, 0, 0, 0) else none) else (if pc = 26 then some (.invokevirtual 160, 0, 185, 770, 16519) else none))))) else (if pc < 44 then (if pc < 36 then (if pc < 32 then (if pc = 29 then some (.invokestatic 32, 0, 88, 635, 8330) else none) else (if pc < 33 then (if pc = 32 then some (.aload_n 0, 0, 0, 0, 0) else none) else (if pc = 33 then some (.getfield 644, 0, 44, 367, 0) else none))) else (if pc < 40 then (if pc < 37 then (if pc = 36 then some (.aload_n 0, 0, 0, 0, 0) else none) else (if pc = 37 then some (.getfield 641, 0, 21, 364, 0) else none)) else (if pc < 41 then (if pc = 40 then some (.iload_n 1, 0, 0, 0, 0) else none) else (if pc = 41 then some (.invokevirtual 161, 0, 328, 784, 16519) else none)))) else (if pc < 49 then (if pc < 45 then (if pc = 44 then some (.aload_n 0, 0, 0, 0, 0) else none) else (if pc < 48 then (if pc = 45 then some (.getfield 641, 0, 21, 364, 0) else none) else (if pc = 48 then some (.iload_n 1, 0, 0, 0, 0) else none))) else (if pc < 53 then (if pc < 52 then (if pc = 49 then some (.invokevirtual 162, 0, 331, 788, 16519) else none) else (if pc = 52 then some (.iload_n 2, 0, 0, 0, 0) else none)) else (if pc < 56 then (if pc = 53 then some (.invokevirtual 77, 0, 334, 1205, 41345) else none) else (if pc = 56 then some (.ireturn, 0, 0, 0, 0) else none)))))
def hm_i25 (pc : Nat) : Option hm_Row := if pc < 57 then hm_j25 pc else none
/-- CurvekeyHouse.draw(II)I -/
def hm_j26 (pc : Nat) : Option hm_Row := if pc < 25 then (if pc < 12 then (if pc < 5 then (if pc < 1 then (if pc = 0 then some (.aload_n 0, 0, 0, 0, 0) else none) else (if pc < 4 then (if pc = 1 then some (.getfield 644, 0, 44, 367, 0) else none) else (if pc = 4 then some (.iload_n 1, 0, 0, 0, 0) else none))) else (if pc < 6 then (if pc = 5 then some (.iload_n 2, 0, 0, 0, 0) else none) else (if pc < 9 then (if pc = 6 then some (.invokevirtual 71, 0, 313, 867, 24833) else none) else (if pc = 9 then some (.invokestatic 31, 0, 80, 415, 8330) else none)))) else (if pc < 17 then (if pc < 13 then (if pc = 12 then some (.aload_n 0, 0, 0, 0, 0) else none) else (if pc < 16 then (if pc = 13 then some (.getfield 645, 0, 51, 368, 0) else none) else (if pc = 16 then some (.iload_n 1, 0, 0, 0, 0) else none))) else (if pc < 21 then (if pc < 18 then (if pc = 17 then some (.iload_n 2, 0, 0, 0, 0) else none) else (if pc = 18 then some (.invokevirtual 188, 0, 337, 875, 24841) else none)) else (if pc < 24 then (if pc = 21 then some (.invokestatic 32, 0, 88, 635, 8330) else none) else (if pc = 24 then some (.aload_n 0, 0, 0, 0, 0) else none))))) else (if pc < 35 then (if pc < 30 then (if pc < 28 then (if pc = 25 then some (.getfield 644, 0, 44, 367, 0) else none) else (if pc < 29 then (if pc = 28 then some (.iload_n 1, 0, 0, 0, 0) else none) else (if pc = 29 then some (.iload_n 2, 0, 0, 0, 0) else none))) else (if pc < 33 then (if pc = 30 then some (.invokevirtual 75, 0, 316, 883, 24833) else none) else (if pc < 34 then (if pc = 33 then some (.istore_n 3, 0, 0, 0, 0) else none) else (if pc = 34 then some (.aload_n 0, 0, 0, 0, 0) else none)))) else (if pc < 40 then (if pc < 38 then (if pc = 35 then some (.getfield 645, 0, 51, 368, 0) else none) else (if pc < 39 then (if pc = 38 then some (.iload_n 1, 0, 0, 0, 0) else none) else (if pc = 39 then some (.iload_n 2, 0, 0, 0, 0) else none))) else (if pc < 44 then (if pc < 41 then (if pc = 40 then some (.iload_n 3, 0, 0, 0, 0) else none) else (if pc = 41 then some (.invokevirtual 189, 0, 340, 888, 41353) else none)) else (if pc < 45 then (if pc = 44 then some (.iload_n 3, 0, 0, 0, 0) else none) else (if pc = 45 then some (.ireturn, 0, 0, 0, 0) else none)))))
def hm_i26 (pc : Nat) : Option hm_Row := if pc < 46 then hm_j26 pc else none
/-- CurvekeyHouse.rival(I)I -/
def hm_j27 (pc : Nat) : Option hm_Row := if pc < 6 then (if pc < 2 then (if pc < 1 then (if pc = 0 then some (.iload_n 1, 0, 0, 0, 0) else none) else (if pc = 1 then some (.iconst 0, 1, 0, 0, 0) else none)) else (if pc < 3 then (if pc = 2 then some (.iconst 2, 1, 0, 0, 0) else none) else (if pc = 3 then some (.invokestatic 34, 0, 120, 409, 24970) else none))) else (if pc < 10 then (if pc < 9 then (if pc = 6 then some (.invokestatic 31, 0, 80, 415, 8330) else none) else (if pc = 9 then some (.aload_n 0, 0, 0, 0, 0) else none)) else (if pc < 11 then (if pc = 10 then some (.iload_n 1, 0, 0, 0, 0) else none) else (if pc < 14 then (if pc = 11 then some (.invokevirtual 58, 0, 349, 1042, 24714) else none) else (if pc = 14 then some (.ireturn, 0, 0, 0, 0) else none))))
def hm_i27 (pc : Nat) : Option hm_Row := if pc < 15 then hm_j27 pc else none
/-- CurvekeyHouse.rivalReads(IIII)I -/
def hm_j28 (pc : Nat) : Option hm_Row := if pc < 19 then (if pc < 6 then (if pc < 2 then (if pc < 1 then (if pc = 0 then some (.aload_n 0, 0, 0, 0, 0) else none) else (if pc = 1 then some (.iload_n 1, 0, 0, 0, 0) else none)) else (if pc < 3 then (if pc = 2 then some (.iload_n 2, 0, 0, 0, 0) else none) else (if pc < 4 then (if pc = 3 then some (.iload_n 3, 0, 0, 0, 0) else none) else (if pc = 4 then some (.iload 4, 0, 0, 0, 0) else none)))) else (if pc < 12 then (if pc < 9 then (if pc = 6 then some (.invokevirtual 38, 0, 124, 563, 41482) else none) else (if pc = 9 then some (.invokestatic 31, 0, 80, 415, 8330) else none)) else (if pc < 13 then (if pc = 12 then some (.aload_n 0, 0, 0, 0, 0) else none) else (if pc < 16 then (if pc = 13 then some (.getfield 644, 0, 44, 367, 0) else none) else (if pc = 16 then some (.new 0, 0, 127, 575, 0) else none))))) else (if pc < 25 then (if pc < 21 then (if pc < 20 then (if pc = 19 then some (.dup, 0, 0, 0, 0) else none) else (if pc = 20 then some (.iload_n 1, 0, 0, 0, 0) else none)) else (if pc < 22 then (if pc = 21 then some (.iload_n 2, 0, 0, 0, 0) else none) else (if pc < 23 then (if pc = 22 then some (.iload_n 3, 0, 0, 0, 0) else none) else (if pc = 23 then some (.iload 4, 0, 0, 0, 0) else none)))) else (if pc < 32 then (if pc < 28 then (if pc = 25 then some (.invokespecial 65, 0, 129, 577, 41472) else none) else (if pc < 29 then (if pc = 28 then some (.aload_n 0, 0, 0, 0, 0) else none) else (if pc = 29 then some (.getfield 643, 0, 37, 366, 0) else none))) else (if pc < 35 then (if pc = 32 then some (.invokevirtual 134, 0, 352, 514, 8198) else none) else (if pc < 38 then (if pc = 35 then some (.invokevirtual 81, 0, 355, 1050, 73985) else none) else (if pc = 38 then some (.ireturn, 0, 0, 0, 0) else none)))))
def hm_i28 (pc : Nat) : Option hm_Row := if pc < 39 then hm_j28 pc else none
/-- CurvekeyHouse.isSound()Z -/
def hm_j29 (pc : Nat) : Option hm_Row := if pc < 25 then (if pc < 11 then (if pc < 4 then (if pc < 1 then (if pc = 0 then some (.aload_n 0, 0, 0, 0, 0) else none) else (if pc = 1 then some (.getfield 643, 0, 37, 366, 0) else none)) else (if pc < 7 then (if pc = 4 then some (.invokevirtual 154, 0, 369, 1081, 16390) else none) else (if pc < 10 then (if pc = 7 then some (.ifCond .eq 49, 0, 0, 0, 0) else none) else (if pc = 10 then some (.aload_n 0, 0, 0, 0, 0) else none)))) else (if pc < 18 then (if pc < 14 then (if pc = 11 then some (.invokevirtual 59, 0, 373, 1085, 32778) else none) else (if pc < 17 then (if pc = 14 then some (.ifCond .eq 49, 0, 0, 0, 0) else none) else (if pc = 17 then some (.aload_n 0, 0, 0, 0, 0) else none))) else (if pc < 21 then (if pc = 18 then some (.getfield 642, 0, 28, 365, 0) else none) else (if pc < 22 then (if pc = 21 then some (.aload_n 0, 0, 0, 0, 0) else none) else (if pc = 22 then some (.invokevirtual 50, 0, 376, 1046, 8202) else none))))) else (if pc < 39 then (if pc < 32 then (if pc < 26 then (if pc = 25 then some (.aload_n 0, 0, 0, 0, 0) else none) else (if pc < 29 then (if pc = 26 then some (.getfield 642, 0, 28, 365, 0) else none) else (if pc = 29 then some (.invokevirtual 113, 0, 205, 534, 8196) else none))) else (if pc < 35 then (if pc = 32 then some (.invokevirtual 122, 0, 243, 594, 41220) else none) else (if pc < 36 then (if pc = 35 then some (.aload_n 0, 0, 0, 0, 0) else none) else (if pc = 36 then some (.getfield 641, 0, 21, 364, 0) else none)))) else (if pc < 46 then (if pc < 42 then (if pc = 39 then some (.invokevirtual 158, 0, 380, 522, 8199) else none) else (if pc < 45 then (if pc = 42 then some (.if_icmp .ne 49, 0, 0, 0, 0) else none) else (if pc = 45 then some (.iconst 1, 1, 0, 0, 0) else none))) else (if pc < 49 then (if pc = 46 then some (.goto 50, 0, 0, 0, 0) else none) else (if pc < 50 then (if pc = 49 then some (.iconst 0, 1, 0, 0, 0) else none) else (if pc = 50 then some (.ireturn, 0, 1, 0, 0) else none)))))
def hm_i29 (pc : Nat) : Option hm_Row := if pc < 51 then hm_j29 pc else none
/-- CurvekeyHouse.digest()J -/
def hm_j30 (pc : Nat) : Option hm_Row := if pc < 66 then (if pc < 31 then (if pc < 15 then (if pc < 6 then (if pc < 4 then (if pc < 3 then (if pc = 0 then some (.ldc2_w 58283, 0, 386, 907, 0) else none) else (if pc = 3 then some (.lstore_n 1, 0, 0, 0, 0) else none)) else (if pc < 5 then (if pc = 4 then some (.aload_n 0, 0, 0, 0, 0) else none) else (if pc = 5 then some (.lload_n 1, 0, 0, 0, 0) else none))) else (if pc < 10 then (if pc < 9 then (if pc = 6 then some (.invokevirtual 61, 0, 388, 908, 57482) else none) else (if pc = 9 then some (.lstore_n 1, 0, 0, 0, 0) else none)) else (if pc < 11 then (if pc = 10 then some (.aload_n 0, 0, 0, 0, 0) else none) else (if pc < 12 then (if pc = 11 then some (.lload_n 1, 0, 0, 0, 0) else none) else (if pc = 12 then some (.invokevirtual 62, 0, 392, 920, 57482) else none))))) else (if pc < 22 then (if pc < 17 then (if pc < 16 then (if pc = 15 then some (.lstore_n 1, 0, 0, 0, 0) else none) else (if pc = 16 then some (.aload_n 0, 0, 0, 0, 0) else none)) else (if pc < 18 then (if pc = 17 then some (.lload_n 1, 0, 0, 0, 0) else none) else (if pc < 21 then (if pc = 18 then some (.invokevirtual 63, 0, 395, 947, 57482) else none) else (if pc = 21 then some (.lstore_n 1, 0, 0, 0, 0) else none)))) else (if pc < 24 then (if pc < 23 then (if pc = 22 then some (.lload_n 1, 0, 0, 0, 0) else none) else (if pc = 23 then some (.aload_n 0, 0, 0, 0, 0) else none)) else (if pc < 27 then (if pc = 24 then some (.getfield 641, 0, 21, 364, 0) else none) else (if pc < 28 then (if pc = 27 then some (.iconst 1, 1, 0, 0, 0) else none) else (if pc = 28 then some (.invokevirtual 176, 0, 266, 972, 49287) else none)))))) else (if pc < 46 then (if pc < 37 then (if pc < 35 then (if pc < 32 then (if pc = 31 then some (.i2l, 0, 0, 0, 0) else none) else (if pc = 32 then some (.invokestatic 60, 0, 398, 912, 33034) else none)) else (if pc < 36 then (if pc = 35 then some (.lstore_n 1, 0, 0, 0, 0) else none) else (if pc = 36 then some (.lload_n 1, 0, 0, 0, 0) else none))) else (if pc < 41 then (if pc < 38 then (if pc = 37 then some (.aload_n 0, 0, 0, 0, 0) else none) else (if pc = 38 then some (.getfield 641, 0, 21, 364, 0) else none)) else (if pc < 42 then (if pc = 41 then some (.iconst 0, 1, 0, 0, 0) else none) else (if pc < 45 then (if pc = 42 then some (.invokevirtual 176, 0, 266, 972, 49287) else none) else (if pc = 45 then some (.i2l, 0, 0, 0, 0) else none))))) else (if pc < 55 then (if pc < 50 then (if pc < 49 then (if pc = 46 then some (.invokestatic 60, 0, 398, 912, 33034) else none) else (if pc = 49 then some (.lstore_n 1, 0, 0, 0, 0) else none)) else (if pc < 51 then (if pc = 50 then some (.aload_n 0, 0, 0, 0, 0) else none) else (if pc < 54 then (if pc = 51 then some (.getfield 647, 0, 65, 370, 0) else none) else (if pc = 54 then some (.aload_n 0, 0, 0, 0, 0) else none)))) else (if pc < 61 then (if pc < 58 then (if pc = 55 then some (.getfield 643, 0, 37, 366, 0) else none) else (if pc = 58 then some (.invokevirtual 124, 0, 280, 985, 24709) else none)) else (if pc < 62 then (if pc = 61 then some (.lload_n 1, 0, 0, 0, 0) else none) else (if pc < 63 then (if pc = 62 then some (.aload_n 0, 0, 0, 0, 0) else none) else (if pc = 63 then some (.getfield 647, 0, 65, 370, 0) else none))))))) else (if pc < 97 then (if pc < 83 then (if pc < 74 then (if pc < 70 then (if pc < 69 then (if pc = 66 then some (.invokevirtual 127, 0, 290, 995, 8197) else none) else (if pc = 69 then some (.i2l, 0, 0, 0, 0) else none)) else (if pc < 73 then (if pc = 70 then some (.invokestatic 60, 0, 398, 912, 33034) else none) else (if pc = 73 then some (.lstore_n 1, 0, 0, 0, 0) else none))) else (if pc < 76 then (if pc < 75 then (if pc = 74 then some (.lload_n 1, 0, 0, 0, 0) else none) else (if pc = 75 then some (.aload_n 0, 0, 0, 0, 0) else none)) else (if pc < 79 then (if pc = 76 then some (.getfield 647, 0, 65, 370, 0) else none) else (if pc < 80 then (if pc = 79 then some (.iconst 1, 1, 0, 0, 0) else none) else (if pc = 80 then some (.invokevirtual 128, 0, 293, 1010, 41093) else none))))) else (if pc < 90 then (if pc < 87 then (if pc < 84 then (if pc = 83 then some (.i2l, 0, 0, 0, 0) else none) else (if pc = 84 then some (.invokestatic 60, 0, 398, 912, 33034) else none)) else (if pc < 88 then (if pc = 87 then some (.lstore_n 1, 0, 0, 0, 0) else none) else (if pc < 89 then (if pc = 88 then some (.aload_n 0, 0, 0, 0, 0) else none) else (if pc = 89 then some (.lload_n 1, 0, 0, 0, 0) else none)))) else (if pc < 94 then (if pc < 93 then (if pc = 90 then some (.invokevirtual 64, 0, 402, 1014, 57482) else none) else (if pc = 93 then some (.lstore_n 1, 0, 0, 0, 0) else none)) else (if pc < 95 then (if pc = 94 then some (.iconst 0, 1, 0, 0, 0) else none) else (if pc < 96 then (if pc = 95 then some (.istore_n 3, 0, 0, 0, 0) else none) else (if pc = 96 then some (.iload_n 3, 0, 0, 0, 0) else none)))))) else (if pc < 115 then (if pc < 104 then (if pc < 101 then (if pc < 98 then (if pc = 97 then some (.iconst 3, 1, 0, 0, 0) else none) else (if pc = 98 then some (.if_icmp .ge 118, 0, 0, 0, 0) else none)) else (if pc < 102 then (if pc = 101 then some (.lload_n 1, 0, 0, 0, 0) else none) else (if pc < 103 then (if pc = 102 then some (.aload_n 0, 0, 0, 0, 0) else none) else (if pc = 103 then some (.iload_n 3, 0, 0, 0, 0) else none)))) else (if pc < 108 then (if pc < 107 then (if pc = 104 then some (.invokevirtual 58, 0, 349, 1042, 24714) else none) else (if pc = 107 then some (.i2l, 0, 0, 0, 0) else none)) else (if pc < 111 then (if pc = 108 then some (.invokestatic 60, 0, 398, 912, 33034) else none) else (if pc < 112 then (if pc = 111 then some (.lstore_n 1, 0, 0, 0, 0) else none) else (if pc = 112 then some (.iinc 3 (1), 0, 0, 0, 0) else none))))) else (if pc < 126 then (if pc < 119 then (if pc < 118 then (if pc = 115 then some (.goto 96, 0, 0, 0, 0) else none) else (if pc = 118 then some (.lload_n 1, 0, 0, 0, 0) else none)) else (if pc < 120 then (if pc = 119 then some (.aload_n 0, 0, 0, 0, 0) else none) else (if pc < 123 then (if pc = 120 then some (.invokevirtual 29, 0, 405, 1077, 8202) else none) else (if pc = 123 then some (.ifCond .eq 130, 0, 0, 0, 0) else none)))) else (if pc < 130 then (if pc < 127 then (if pc = 126 then some (.lconst 1, 0, 0, 0, 0) else none) else (if pc = 127 then some (.goto 131, 0, 0, 0, 0) else none)) else (if pc < 131 then (if pc = 130 then some (.lconst 0, 0, 0, 0, 0) else none) else (if pc < 134 then (if pc = 131 then some (.invokestatic 60, 0, 398, 912, 33034) else none) else (if pc = 134 then some (.lreturn, 0, 0, 0, 0) else none)))))))
def hm_i30 (pc : Nat) : Option hm_Row := if pc < 135 then hm_j30 pc else none
/-- CurvekeyHouse.needArgument(Z)V -/
def hm_j31 (pc : Nat) : Option hm_Row := if pc < 4 then (if pc < 1 then (if pc = 0 then some (.iload_n 0, 0, 0, 0, 0) else none) else (if pc = 1 then some (.ifCond .ne 15, 0, 0, 0, 0) else none)) else (if pc < 15 then (if pc = 4 then some (.athrow, 0, 0, 418, 0) else none) else (if pc = 15 then some (.return_, 0, 0, 0, 0) else none))
def hm_i31 (pc : Nat) : Option hm_Row := if pc < 16 then hm_j31 pc else none
/-- CurvekeyHouse.needState(Z)V -/
def hm_j32 (pc : Nat) : Option hm_Row := if pc < 4 then (if pc < 1 then (if pc = 0 then some (.iload_n 0, 0, 0, 0, 0) else none) else (if pc = 1 then some (.ifCond .ne 15, 0, 0, 0, 0) else none)) else (if pc < 15 then (if pc = 4 then some (.athrow, 0, 1, 638, 0) else none) else (if pc = 15 then some (.return_, 0, 0, 0, 0) else none))
def hm_i32 (pc : Nat) : Option hm_Row := if pc < 16 then hm_j32 pc else none
/-- CurvekeyHouse.needIndex(Z)V -/
def hm_j33 (pc : Nat) : Option hm_Row := if pc < 4 then (if pc < 1 then (if pc = 0 then some (.iload_n 0, 0, 0, 0, 0) else none) else (if pc = 1 then some (.ifCond .ne 15, 0, 0, 0, 0) else none)) else (if pc < 15 then (if pc = 4 then some (.athrow, 0, 2, 754, 0) else none) else (if pc = 15 then some (.return_, 0, 0, 0, 0) else none))
def hm_i33 (pc : Nat) : Option hm_Row := if pc < 16 then hm_j33 pc else none
/-- CurvekeyHouse.isBetween(III)Z -/
def hm_j34 (pc : Nat) : Option hm_Row := if pc < 7 then (if pc < 2 then (if pc < 1 then (if pc = 0 then some (.iload_n 0, 0, 0, 0, 0) else none) else (if pc = 1 then some (.iload_n 1, 0, 0, 0, 0) else none)) else (if pc < 5 then (if pc = 2 then some (.if_icmp .lt 14, 0, 0, 0, 0) else none) else (if pc < 6 then (if pc = 5 then some (.iload_n 0, 0, 0, 0, 0) else none) else (if pc = 6 then some (.iload_n 2, 0, 0, 0, 0) else none)))) else (if pc < 11 then (if pc < 10 then (if pc = 7 then some (.if_icmp .gt 14, 0, 0, 0, 0) else none) else (if pc = 10 then some (.iconst 1, 1, 0, 0, 0) else none)) else (if pc < 14 then (if pc = 11 then some (.goto 15, 0, 0, 0, 0) else none) else (if pc < 15 then (if pc = 14 then some (.iconst 0, 1, 0, 0, 0) else none) else (if pc = 15 then some (.ireturn, 0, 1, 0, 0) else none))))
def hm_i34 (pc : Nat) : Option hm_Row := if pc < 16 then hm_j34 pc else none
/-- CurvekeyHouse.isCurve(I)Z -/
def hm_j35 (pc : Nat) : Option hm_Row := if pc < 2 then (if pc < 1 then (if pc = 0 then some (.iload_n 0, 0, 0, 0, 0) else none) else (if pc = 1 then some (.iconst 0, 1, 0, 0, 0) else none)) else (if pc < 3 then (if pc = 2 then some (.iconst 5, 1, 0, 0, 0) else none) else (if pc < 6 then (if pc = 3 then some (.invokestatic 34, 0, 120, 409, 24970) else none) else (if pc = 6 then some (.ireturn, 0, 1, 0, 0) else none)))
def hm_i35 (pc : Nat) : Option hm_Row := if pc < 7 then hm_j35 pc else none
/-- CurvekeyHouse.isKey(I)Z -/
def hm_j36 (pc : Nat) : Option hm_Row := if pc < 6 then (if pc < 2 then (if pc < 1 then (if pc = 0 then some (.iload_n 1, 0, 0, 0, 0) else none) else (if pc = 1 then some (.iconst 0, 1, 0, 0, 0) else none)) else (if pc < 3 then (if pc = 2 then some (.aload_n 0, 0, 0, 0, 0) else none) else (if pc = 3 then some (.getfield 640, 0, 14, 363, 0) else none))) else (if pc < 10 then (if pc < 9 then (if pc = 6 then some (.invokevirtual 87, 0, 163, 501, 8194) else none) else (if pc = 9 then some (.iconst 1, 1, 0, 0, 0) else none)) else (if pc < 11 then (if pc = 10 then some (.isub, 0, 0, 0, 0) else none) else (if pc < 14 then (if pc = 11 then some (.invokestatic 34, 0, 120, 409, 24970) else none) else (if pc = 14 then some (.ireturn, 0, 1, 0, 0) else none))))
def hm_i36 (pc : Nat) : Option hm_Row := if pc < 15 then hm_j36 pc else none
/-- CurvekeyHouse.isPlace(II)Z -/
def hm_j37 (pc : Nat) : Option hm_Row := if pc < 19 then (if pc < 9 then (if pc < 2 then (if pc < 1 then (if pc = 0 then some (.iload_n 1, 0, 0, 0, 0) else none) else (if pc = 1 then some (.iconst 0, 1, 0, 0, 0) else none)) else (if pc < 3 then (if pc = 2 then some (.aload_n 0, 0, 0, 0, 0) else none) else (if pc < 6 then (if pc = 3 then some (.getfield 640, 0, 14, 363, 0) else none) else (if pc = 6 then some (.invokevirtual 86, 0, 176, 571, 8194) else none)))) else (if pc < 14 then (if pc < 10 then (if pc = 9 then some (.iconst 1, 1, 0, 0, 0) else none) else (if pc < 11 then (if pc = 10 then some (.isub, 0, 0, 0, 0) else none) else (if pc = 11 then some (.invokestatic 34, 0, 120, 409, 24970) else none))) else (if pc < 17 then (if pc = 14 then some (.ifCond .eq 38, 0, 0, 0, 0) else none) else (if pc < 18 then (if pc = 17 then some (.iload_n 2, 0, 0, 0, 0) else none) else (if pc = 18 then some (.iconst 0, 1, 0, 0, 0) else none))))) else (if pc < 28 then (if pc < 23 then (if pc < 20 then (if pc = 19 then some (.aload_n 0, 0, 0, 0, 0) else none) else (if pc = 20 then some (.getfield 640, 0, 14, 363, 0) else none)) else (if pc < 26 then (if pc = 23 then some (.invokevirtual 86, 0, 176, 571, 8194) else none) else (if pc < 27 then (if pc = 26 then some (.iconst 1, 1, 0, 0, 0) else none) else (if pc = 27 then some (.isub, 0, 0, 0, 0) else none)))) else (if pc < 35 then (if pc < 31 then (if pc = 28 then some (.invokestatic 34, 0, 120, 409, 24970) else none) else (if pc < 34 then (if pc = 31 then some (.ifCond .eq 38, 0, 0, 0, 0) else none) else (if pc = 34 then some (.iconst 1, 1, 0, 0, 0) else none))) else (if pc < 38 then (if pc = 35 then some (.goto 39, 0, 0, 0, 0) else none) else (if pc < 39 then (if pc = 38 then some (.iconst 0, 1, 0, 0, 0) else none) else (if pc = 39 then some (.ireturn, 0, 1, 0, 0) else none)))))
def hm_i37 (pc : Nat) : Option hm_Row := if pc < 40 then hm_j37 pc else none
/-- CurvekeyHouse.isBox(IIII)Z -/
def hm_j38 (pc : Nat) : Option hm_Row := if pc < 23 then (if pc < 10 then (if pc < 3 then (if pc < 1 then (if pc = 0 then some (.aload_n 0, 0, 0, 0, 0) else none) else (if pc < 2 then (if pc = 1 then some (.iload_n 1, 0, 0, 0, 0) else none) else (if pc = 2 then some (.iload_n 2, 0, 0, 0, 0) else none))) else (if pc < 6 then (if pc = 3 then some (.invokevirtual 37, 0, 103, 567, 24842) else none) else (if pc < 9 then (if pc = 6 then some (.ifCond .eq 48, 0, 0, 0, 0) else none) else (if pc = 9 then some (.iload_n 3, 0, 0, 0, 0) else none)))) else (if pc < 15 then (if pc < 11 then (if pc = 10 then some (.iconst 1, 1, 0, 0, 0) else none) else (if pc < 12 then (if pc = 11 then some (.aload_n 0, 0, 0, 0, 0) else none) else (if pc = 12 then some (.getfield 640, 0, 14, 363, 0) else none))) else (if pc < 19 then (if pc < 18 then (if pc = 15 then some (.invokevirtual 86, 0, 176, 571, 8194) else none) else (if pc = 18 then some (.iload_n 1, 0, 0, 0, 0) else none)) else (if pc < 20 then (if pc = 19 then some (.isub, 0, 0, 0, 0) else none) else (if pc = 20 then some (.invokestatic 34, 0, 120, 409, 24970) else none))))) else (if pc < 37 then (if pc < 29 then (if pc < 26 then (if pc = 23 then some (.ifCond .eq 48, 0, 0, 0, 0) else none) else (if pc < 28 then (if pc = 26 then some (.iload 4, 0, 0, 0, 0) else none) else (if pc = 28 then some (.iconst 1, 1, 0, 0, 0) else none))) else (if pc < 33 then (if pc < 30 then (if pc = 29 then some (.aload_n 0, 0, 0, 0, 0) else none) else (if pc = 30 then some (.getfield 640, 0, 14, 363, 0) else none)) else (if pc < 36 then (if pc = 33 then some (.invokevirtual 86, 0, 176, 571, 8194) else none) else (if pc = 36 then some (.iload_n 2, 0, 0, 0, 0) else none)))) else (if pc < 44 then (if pc < 38 then (if pc = 37 then some (.isub, 0, 0, 0, 0) else none) else (if pc < 41 then (if pc = 38 then some (.invokestatic 34, 0, 120, 409, 24970) else none) else (if pc = 41 then some (.ifCond .eq 48, 0, 0, 0, 0) else none))) else (if pc < 48 then (if pc < 45 then (if pc = 44 then some (.iconst 1, 1, 0, 0, 0) else none) else (if pc = 45 then some (.goto 49, 0, 0, 0, 0) else none)) else (if pc < 49 then (if pc = 48 then some (.iconst 0, 1, 0, 0, 0) else none) else (if pc = 49 then some (.ireturn, 0, 1, 0, 0) else none)))))
def hm_i38 (pc : Nat) : Option hm_Row := if pc < 50 then hm_j38 pc else none
/-- CurvekeyHouse.keyAt(II)I -/
def hm_j39 (pc : Nat) : Option hm_Row := if pc < 8 then (if pc < 4 then (if pc < 1 then (if pc = 0 then some (.aload_n 0, 0, 0, 0, 0) else none) else (if pc = 1 then some (.getfield 640, 0, 14, 363, 0) else none)) else (if pc < 5 then (if pc = 4 then some (.aload_n 0, 0, 0, 0, 0) else none) else (if pc = 5 then some (.getfield 648, 0, 69, 371, 0) else none))) else (if pc < 10 then (if pc < 9 then (if pc = 8 then some (.iload_n 1, 0, 0, 0, 0) else none) else (if pc = 9 then some (.iload_n 2, 0, 0, 0, 0) else none)) else (if pc < 13 then (if pc = 10 then some (.invokevirtual 88, 0, 107, 628, 33154) else none) else (if pc = 13 then some (.ireturn, 0, 0, 0, 0) else none)))
def hm_i39 (pc : Nat) : Option hm_Row := if pc < 14 then hm_j39 pc else none
/-- CurvekeyHouse.keyOfPoint(I)I -/
def hm_j40 (pc : Nat) : Option hm_Row := if pc < 9 then (if pc < 2 then (if pc < 1 then (if pc = 0 then some (.aload_n 0, 0, 0, 0, 0) else none) else (if pc = 1 then some (.aload_n 0, 0, 0, 0, 0) else none)) else (if pc < 5 then (if pc = 2 then some (.getfield 641, 0, 21, 364, 0) else none) else (if pc < 6 then (if pc = 5 then some (.iload_n 1, 0, 0, 0, 0) else none) else (if pc = 6 then some (.invokevirtual 161, 0, 328, 784, 16519) else none)))) else (if pc < 14 then (if pc < 10 then (if pc = 9 then some (.aload_n 0, 0, 0, 0, 0) else none) else (if pc < 13 then (if pc = 10 then some (.getfield 641, 0, 21, 364, 0) else none) else (if pc = 13 then some (.iload_n 1, 0, 0, 0, 0) else none))) else (if pc < 17 then (if pc = 14 then some (.invokevirtual 162, 0, 331, 788, 16519) else none) else (if pc < 20 then (if pc = 17 then some (.invokevirtual 39, 0, 192, 624, 24842) else none) else (if pc = 20 then some (.ireturn, 0, 0, 0, 0) else none))))
def hm_i40 (pc : Nat) : Option hm_Row := if pc < 21 then hm_j40 pc else none
/-- CurvekeyHouse.holderAt(II)I -/
def hm_j41 (pc : Nat) : Option hm_Row := if pc < 6 then (if pc < 4 then (if pc < 1 then (if pc = 0 then some (.aload_n 0, 0, 0, 0, 0) else none) else (if pc = 1 then some (.getfield 643, 0, 37, 366, 0) else none)) else (if pc < 5 then (if pc = 4 then some (.aload_n 0, 0, 0, 0, 0) else none) else (if pc = 5 then some (.iload_n 1, 0, 0, 0, 0) else none))) else (if pc < 10 then (if pc < 7 then (if pc = 6 then some (.iload_n 2, 0, 0, 0, 0) else none) else (if pc = 7 then some (.invokevirtual 39, 0, 192, 624, 24842) else none)) else (if pc < 13 then (if pc = 10 then some (.invokevirtual 140, 0, 425, 629, 16518) else none) else (if pc = 13 then some (.ireturn, 0, 0, 0, 0) else none)))
def hm_i41 (pc : Nat) : Option hm_Row := if pc < 14 then hm_j41 pc else none
/-- CurvekeyHouse.nextOfRow(I)I -/
def hm_j42 (pc : Nat) : Option hm_Row := if pc < 6 then (if pc < 3 then (if pc < 2 then (if pc = 0 then some (.iconst (37), 2, 0, 0, 0) else none) else (if pc = 2 then some (.iload_n 0, 0, 0, 0, 0) else none)) else (if pc < 4 then (if pc = 3 then some (.imul, 0, 0, 0, 0) else none) else (if pc = 4 then some (.iconst (11), 2, 0, 0, 0) else none))) else (if pc < 9 then (if pc < 7 then (if pc = 6 then some (.iadd, 0, 0, 0, 0) else none) else (if pc = 7 then some (.iconst (113), 2, 0, 0, 0) else none)) else (if pc < 10 then (if pc = 9 then some (.irem, 0, 0, 0, 0) else none) else (if pc = 10 then some (.ireturn, 0, 0, 0, 0) else none)))
def hm_i42 (pc : Nat) : Option hm_Row := if pc < 11 then hm_j42 pc else none
/-- CurvekeyHouse.putNew(II)I -/
def hm_j43 (pc : Nat) : Option hm_Row := if pc < 19 then (if pc < 8 then (if pc < 4 then (if pc < 1 then (if pc = 0 then some (.aload_n 0, 0, 0, 0, 0) else none) else (if pc = 1 then some (.getfield 642, 0, 28, 365, 0) else none)) else (if pc < 7 then (if pc = 4 then some (.invokevirtual 117, 0, 195, 658, 8196) else none) else (if pc = 7 then some (.aload_n 0, 0, 0, 0, 0) else none))) else (if pc < 14 then (if pc < 11 then (if pc = 8 then some (.getfield 641, 0, 21, 364, 0) else none) else (if pc = 11 then some (.invokevirtual 165, 0, 428, 662, 16391) else none)) else (if pc < 15 then (if pc = 14 then some (.istore_n 3, 0, 0, 0, 0) else none) else (if pc < 16 then (if pc = 15 then some (.aload_n 0, 0, 0, 0, 0) else none) else (if pc = 16 then some (.getfield 642, 0, 28, 365, 0) else none))))) else (if pc < 25 then (if pc < 23 then (if pc < 20 then (if pc = 19 then some (.iload_n 3, 0, 0, 0, 0) else none) else (if pc = 20 then some (.invokevirtual 118, 0, 430, 671, 16516) else none)) else (if pc < 24 then (if pc = 23 then some (.aload_n 0, 0, 0, 0, 0) else none) else (if pc = 24 then some (.iload_n 3, 0, 0, 0, 0) else none))) else (if pc < 27 then (if pc < 26 then (if pc = 25 then some (.iload_n 1, 0, 0, 0, 0) else none) else (if pc = 26 then some (.iload_n 2, 0, 0, 0, 0) else none)) else (if pc < 30 then (if pc = 27 then some (.invokevirtual 45, 0, 433, 676, 33162) else none) else (if pc < 31 then (if pc = 30 then some (.iload_n 3, 0, 0, 0, 0) else none) else (if pc = 31 then some (.ireturn, 0, 0, 0, 0) else none)))))
def hm_i43 (pc : Nat) : Option hm_Row := if pc < 32 then hm_j43 pc else none
/-- CurvekeyHouse.relocate(III)V -/
def hm_j44 (pc : Nat) : Option hm_Row := if pc < 12 then (if pc < 7 then (if pc < 1 then (if pc = 0 then some (.aload_n 0, 0, 0, 0, 0) else none) else (if pc < 4 then (if pc = 1 then some (.getfield 642, 0, 28, 365, 0) else none) else (if pc = 4 then some (.invokevirtual 117, 0, 195, 658, 8196) else none))) else (if pc < 8 then (if pc = 7 then some (.aload_n 0, 0, 0, 0, 0) else none) else (if pc < 9 then (if pc = 8 then some (.iload_n 1, 0, 0, 0, 0) else none) else (if pc = 9 then some (.invokevirtual 46, 0, 198, 780, 32906) else none)))) else (if pc < 15 then (if pc < 13 then (if pc = 12 then some (.aload_n 0, 0, 0, 0, 0) else none) else (if pc < 14 then (if pc = 13 then some (.iload_n 1, 0, 0, 0, 0) else none) else (if pc = 14 then some (.iload_n 2, 0, 0, 0, 0) else none))) else (if pc < 16 then (if pc = 15 then some (.iload_n 3, 0, 0, 0, 0) else none) else (if pc < 19 then (if pc = 16 then some (.invokevirtual 45, 0, 433, 676, 33162) else none) else (if pc = 19 then some (.return_, 0, 0, 0, 0) else none))))
def hm_i44 (pc : Nat) : Option hm_Row := if pc < 20 then hm_j44 pc else none
/-- CurvekeyHouse.arrive(III)V -/
def hm_j45 (pc : Nat) : Option hm_Row := if pc < 27 then (if pc < 14 then (if pc < 6 then (if pc < 4 then (if pc < 1 then (if pc = 0 then some (.aload_n 0, 0, 0, 0, 0) else none) else (if pc = 1 then some (.getfield 641, 0, 21, 364, 0) else none)) else (if pc < 5 then (if pc = 4 then some (.iload_n 1, 0, 0, 0, 0) else none) else (if pc = 5 then some (.iload_n 2, 0, 0, 0, 0) else none))) else (if pc < 10 then (if pc < 7 then (if pc = 6 then some (.iload_n 3, 0, 0, 0, 0) else none) else (if pc = 7 then some (.invokevirtual 166, 0, 436, 680, 33159) else none)) else (if pc < 11 then (if pc = 10 then some (.aload_n 0, 0, 0, 0, 0) else none) else (if pc = 11 then some (.getfield 642, 0, 28, 365, 0) else none)))) else (if pc < 20 then (if pc < 16 then (if pc < 15 then (if pc = 14 then some (.iload_n 1, 0, 0, 0, 0) else none) else (if pc = 15 then some (.iload_n 2, 0, 0, 0, 0) else none)) else (if pc < 17 then (if pc = 16 then some (.iload_n 3, 0, 0, 0, 0) else none) else (if pc = 17 then some (.invokevirtual 120, 0, 439, 684, 33156) else none))) else (if pc < 24 then (if pc < 21 then (if pc = 20 then some (.aload_n 0, 0, 0, 0, 0) else none) else (if pc = 21 then some (.getfield 643, 0, 37, 366, 0) else none)) else (if pc < 25 then (if pc = 24 then some (.aload_n 0, 0, 0, 0, 0) else none) else (if pc < 26 then (if pc = 25 then some (.iload_n 2, 0, 0, 0, 0) else none) else (if pc = 26 then some (.iload_n 3, 0, 0, 0, 0) else none)))))) else (if pc < 41 then (if pc < 35 then (if pc < 31 then (if pc < 30 then (if pc = 27 then some (.invokevirtual 39, 0, 192, 624, 24842) else none) else (if pc = 30 then some (.iload_n 1, 0, 0, 0, 0) else none)) else (if pc < 34 then (if pc = 31 then some (.invokevirtual 150, 0, 442, 695, 41222) else none) else (if pc = 34 then some (.aload_n 0, 0, 0, 0, 0) else none))) else (if pc < 39 then (if pc < 38 then (if pc = 35 then some (.getfield 644, 0, 44, 367, 0) else none) else (if pc = 38 then some (.iload_n 2, 0, 0, 0, 0) else none)) else (if pc < 40 then (if pc = 39 then some (.iload_n 3, 0, 0, 0, 0) else none) else (if pc = 40 then some (.iconst 1, 1, 0, 0, 0) else none)))) else (if pc < 49 then (if pc < 45 then (if pc < 44 then (if pc = 41 then some (.invokevirtual 76, 0, 445, 715, 41345) else none) else (if pc = 44 then some (.aload_n 0, 0, 0, 0, 0) else none)) else (if pc < 48 then (if pc = 45 then some (.getfield 645, 0, 51, 368, 0) else none) else (if pc = 48 then some (.aload_n 0, 0, 0, 0, 0) else none))) else (if pc < 53 then (if pc < 52 then (if pc = 49 then some (.getfield 644, 0, 44, 367, 0) else none) else (if pc = 52 then some (.iload_n 2, 0, 0, 0, 0) else none)) else (if pc < 54 then (if pc = 53 then some (.iload_n 3, 0, 0, 0, 0) else none) else (if pc < 57 then (if pc = 54 then some (.invokevirtual 191, 0, 448, 730, 41353) else none) else (if pc = 57 then some (.return_, 0, 0, 0, 0) else none))))))
def hm_i45 (pc : Nat) : Option hm_Row := if pc < 58 then hm_j45 pc else none
/-- CurvekeyHouse.leave(I)V -/
def hm_j46 (pc : Nat) : Option hm_Row := if pc < 31 then (if pc < 14 then (if pc < 8 then (if pc < 4 then (if pc < 1 then (if pc = 0 then some (.aload_n 0, 0, 0, 0, 0) else none) else (if pc = 1 then some (.getfield 641, 0, 21, 364, 0) else none)) else (if pc < 5 then (if pc = 4 then some (.iload_n 1, 0, 0, 0, 0) else none) else (if pc = 5 then some (.invokevirtual 161, 0, 328, 784, 16519) else none))) else (if pc < 10 then (if pc < 9 then (if pc = 8 then some (.istore_n 2, 0, 0, 0, 0) else none) else (if pc = 9 then some (.aload_n 0, 0, 0, 0, 0) else none)) else (if pc < 13 then (if pc = 10 then some (.getfield 641, 0, 21, 364, 0) else none) else (if pc = 13 then some (.iload_n 1, 0, 0, 0, 0) else none)))) else (if pc < 22 then (if pc < 18 then (if pc < 17 then (if pc = 14 then some (.invokevirtual 162, 0, 331, 788, 16519) else none) else (if pc = 17 then some (.istore_n 3, 0, 0, 0, 0) else none)) else (if pc < 19 then (if pc = 18 then some (.aload_n 0, 0, 0, 0, 0) else none) else (if pc = 19 then some (.getfield 642, 0, 28, 365, 0) else none))) else (if pc < 26 then (if pc < 23 then (if pc = 22 then some (.iload_n 1, 0, 0, 0, 0) else none) else (if pc = 23 then some (.invokevirtual 121, 0, 452, 792, 16516) else none)) else (if pc < 27 then (if pc = 26 then some (.aload_n 0, 0, 0, 0, 0) else none) else (if pc < 30 then (if pc = 27 then some (.getfield 643, 0, 37, 366, 0) else none) else (if pc = 30 then some (.aload_n 0, 0, 0, 0, 0) else none)))))) else (if pc < 46 then (if pc < 39 then (if pc < 33 then (if pc < 32 then (if pc = 31 then some (.iload_n 2, 0, 0, 0, 0) else none) else (if pc = 32 then some (.iload_n 3, 0, 0, 0, 0) else none)) else (if pc < 36 then (if pc = 33 then some (.invokevirtual 39, 0, 192, 624, 24842) else none) else (if pc = 36 then some (.invokevirtual 151, 0, 455, 796, 16518) else none))) else (if pc < 43 then (if pc < 40 then (if pc = 39 then some (.aload_n 0, 0, 0, 0, 0) else none) else (if pc = 40 then some (.getfield 644, 0, 44, 367, 0) else none)) else (if pc < 44 then (if pc = 43 then some (.iload_n 2, 0, 0, 0, 0) else none) else (if pc < 45 then (if pc = 44 then some (.iload_n 3, 0, 0, 0, 0) else none) else (if pc = 45 then some (.iconst (-1), 1, 0, 0, 0) else none))))) else (if pc < 54 then (if pc < 50 then (if pc < 49 then (if pc = 46 then some (.invokevirtual 76, 0, 445, 715, 41345) else none) else (if pc = 49 then some (.aload_n 0, 0, 0, 0, 0) else none)) else (if pc < 53 then (if pc = 50 then some (.getfield 645, 0, 51, 368, 0) else none) else (if pc = 53 then some (.aload_n 0, 0, 0, 0, 0) else none))) else (if pc < 58 then (if pc < 57 then (if pc = 54 then some (.getfield 644, 0, 44, 367, 0) else none) else (if pc = 57 then some (.iload_n 2, 0, 0, 0, 0) else none)) else (if pc < 59 then (if pc = 58 then some (.iload_n 3, 0, 0, 0, 0) else none) else (if pc < 62 then (if pc = 59 then some (.invokevirtual 191, 0, 448, 730, 41353) else none) else (if pc = 62 then some (.return_, 0, 0, 0, 0) else none))))))
def hm_i46 (pc : Nat) : Option hm_Row := if pc < 63 then hm_j46 pc else none
/-- CurvekeyHouse.isDriven(I)Z -/
def hm_j47 (pc : Nat) : Option hm_Row := if pc < 40 then (if pc < 21 then (if pc < 7 then (if pc < 4 then (if pc < 1 then (if pc = 0 then some (.aload_n 0, 0, 0, 0, 0) else none) else (if pc = 1 then some (.getfield 641, 0, 21, 364, 0) else none)) else (if pc < 5 then (if pc = 4 then some (.iload_n 1, 0, 0, 0, 0) else none) else (if pc < 6 then (if pc = 5 then some (.iconst 1, 1, 0, 0, 0) else none) else (if pc = 6 then some (.aload_n 0, 0, 0, 0, 0) else none)))) else (if pc < 16 then (if pc < 10 then (if pc = 7 then some (.getfield 640, 0, 14, 363, 0) else none) else (if pc < 13 then (if pc = 10 then some (.invokevirtual 86, 0, 176, 571, 8194) else none) else (if pc = 13 then some (.invokevirtual 169, 0, 273, 833, 33159) else none))) else (if pc < 17 then (if pc = 16 then some (.istore_n 2, 0, 0, 0, 0) else none) else (if pc < 18 then (if pc = 17 then some (.aload_n 0, 0, 0, 0, 0) else none) else (if pc = 18 then some (.getfield 641, 0, 21, 364, 0) else none))))) else (if pc < 30 then (if pc < 23 then (if pc < 22 then (if pc = 21 then some (.iload_n 1, 0, 0, 0, 0) else none) else (if pc = 22 then some (.iconst 1, 1, 0, 0, 0) else none)) else (if pc < 24 then (if pc = 23 then some (.aload_n 0, 0, 0, 0, 0) else none) else (if pc < 27 then (if pc = 24 then some (.getfield 640, 0, 14, 363, 0) else none) else (if pc = 27 then some (.invokevirtual 86, 0, 176, 571, 8194) else none)))) else (if pc < 35 then (if pc < 33 then (if pc = 30 then some (.invokevirtual 170, 0, 458, 854, 33159) else none) else (if pc < 34 then (if pc = 33 then some (.istore_n 3, 0, 0, 0, 0) else none) else (if pc = 34 then some (.aload_n 0, 0, 0, 0, 0) else none))) else (if pc < 36 then (if pc = 35 then some (.iload_n 2, 0, 0, 0, 0) else none) else (if pc < 37 then (if pc = 36 then some (.iload_n 3, 0, 0, 0, 0) else none) else (if pc = 37 then some (.invokevirtual 41, 0, 166, 620, 24842) else none)))))) else (if pc < 57 then (if pc < 49 then (if pc < 44 then (if pc < 42 then (if pc = 40 then some (.istore 4, 0, 0, 0, 0) else none) else (if pc = 42 then some (.iload 4, 0, 0, 0, 0) else none)) else (if pc < 45 then (if pc = 44 then some (.iconst (-1), 1, 0, 0, 0) else none) else (if pc < 48 then (if pc = 45 then some (.if_icmp .ne 57, 0, 0, 0, 0) else none) else (if pc = 48 then some (.aload_n 0, 0, 0, 0, 0) else none)))) else (if pc < 52 then (if pc < 50 then (if pc = 49 then some (.iload_n 1, 0, 0, 0, 0) else none) else (if pc < 51 then (if pc = 50 then some (.iload_n 2, 0, 0, 0, 0) else none) else (if pc = 51 then some (.iload_n 3, 0, 0, 0, 0) else none))) else (if pc < 55 then (if pc = 52 then some (.invokevirtual 44, 0, 188, 776, 33162) else none) else (if pc < 56 then (if pc = 55 then some (.iconst 1, 1, 0, 0, 0) else none) else (if pc = 56 then some (.ireturn, 0, 1, 0, 0) else none))))) else (if pc < 65 then (if pc < 60 then (if pc < 59 then (if pc = 57 then some (.iload 4, 0, 0, 0, 0) else none) else (if pc = 59 then some (.iload_n 1, 0, 0, 0, 0) else none)) else (if pc < 63 then (if pc = 60 then some (.if_icmp .eq 73, 0, 0, 0, 0) else none) else (if pc < 64 then (if pc = 63 then some (.aload_n 0, 0, 0, 0, 0) else none) else (if pc = 64 then some (.dup, 0, 0, 0, 0) else none)))) else (if pc < 70 then (if pc < 68 then (if pc = 65 then some (.getfield 652, 0, 160, 375, 0) else none) else (if pc < 69 then (if pc = 68 then some (.iconst 1, 1, 0, 0, 0) else none) else (if pc = 69 then some (.iadd, 0, 0, 0, 0) else none))) else (if pc < 73 then (if pc = 70 then some (.putfield 652, 0, 160, 375, 0) else none) else (if pc < 74 then (if pc = 73 then some (.iconst 0, 1, 0, 0, 0) else none) else (if pc = 74 then some (.ireturn, 0, 1, 0, 0) else none))))))
def hm_i47 (pc : Nat) : Option hm_Row := if pc < 75 then hm_j47 pc else none
/-- CurvekeyHouse.runsOf(ILCurvekeyHouse$Box;)I -/
def hm_j48 (pc : Nat) : Option hm_Row := if pc < 9 then (if pc < 4 then (if pc < 1 then (if pc = 0 then some (.aload_n 0, 0, 0, 0, 0) else none) else (if pc = 1 then some (.getfield 646, 0, 58, 369, 0) else none)) else (if pc < 5 then (if pc = 4 then some (.aload_n 0, 0, 0, 0, 0) else none) else (if pc < 8 then (if pc = 5 then some (.getfield 640, 0, 14, 363, 0) else none) else (if pc = 8 then some (.iload_n 1, 0, 0, 0, 0) else none)))) else (if pc < 14 then (if pc < 10 then (if pc = 9 then some (.aload_n 2, 0, 0, 0, 0) else none) else (if pc < 13 then (if pc = 10 then some (.invokevirtual 104, 0, 461, 1112, 57731) else none) else (if pc = 13 then some (.aload_n 0, 0, 0, 0, 0) else none))) else (if pc < 17 then (if pc = 14 then some (.getfield 646, 0, 58, 369, 0) else none) else (if pc < 20 then (if pc = 17 then some (.invokevirtual 101, 0, 228, 1139, 8195) else none) else (if pc = 20 then some (.ireturn, 0, 0, 0, 0) else none))))
def hm_i48 (pc : Nat) : Option hm_Row := if pc < 21 then hm_j48 pc else none
/-- CurvekeyHouse.cutTo(LCurvekeyHouse$Box;I)V -/
def hm_j49 (pc : Nat) : Option hm_Row := if pc < 12 then (if pc < 5 then (if pc < 1 then (if pc = 0 then some (.aload_n 0, 0, 0, 0, 0) else none) else (if pc < 4 then (if pc = 1 then some (.getfield 646, 0, 58, 369, 0) else none) else (if pc = 4 then some (.aload_n 0, 0, 0, 0, 0) else none))) else (if pc < 8 then (if pc = 5 then some (.getfield 640, 0, 14, 363, 0) else none) else (if pc < 9 then (if pc = 8 then some (.aload_n 0, 0, 0, 0, 0) else none) else (if pc = 9 then some (.getfield 648, 0, 69, 371, 0) else none)))) else (if pc < 17 then (if pc < 13 then (if pc = 12 then some (.aload_n 1, 0, 0, 0, 0) else none) else (if pc < 16 then (if pc = 13 then some (.invokevirtual 104, 0, 461, 1112, 57731) else none) else (if pc = 16 then some (.aload_n 0, 0, 0, 0, 0) else none))) else (if pc < 21 then (if pc < 20 then (if pc = 17 then some (.getfield 646, 0, 58, 369, 0) else none) else (if pc = 20 then some (.iload_n 2, 0, 0, 0, 0) else none)) else (if pc < 24 then (if pc = 21 then some (.invokevirtual 105, 0, 465, 1121, 24707) else none) else (if pc = 24 then some (.return_, 0, 0, 0, 0) else none))))
def hm_i49 (pc : Nat) : Option hm_Row := if pc < 25 then hm_j49 pc else none
/-- CurvekeyHouse.wholePlane()LCurvekeyHouse$Box; -/
def hm_j50 (pc : Nat) : Option hm_Row := if pc < 10 then (if pc < 5 then (if pc < 3 then (if pc = 0 then some (.new 0, 0, 127, 575, 0) else none) else (if pc < 4 then (if pc = 3 then some (.dup, 0, 0, 0, 0) else none) else (if pc = 4 then some (.iconst 0, 1, 0, 0, 0) else none))) else (if pc < 6 then (if pc = 5 then some (.iconst 0, 1, 0, 0, 0) else none) else (if pc < 7 then (if pc = 6 then some (.aload_n 0, 0, 0, 0, 0) else none) else (if pc = 7 then some (.getfield 640, 0, 14, 363, 0) else none)))) else (if pc < 17 then (if pc < 13 then (if pc = 10 then some (.invokevirtual 86, 0, 176, 571, 8194) else none) else (if pc < 14 then (if pc = 13 then some (.aload_n 0, 0, 0, 0, 0) else none) else (if pc = 14 then some (.getfield 640, 0, 14, 363, 0) else none))) else (if pc < 20 then (if pc = 17 then some (.invokevirtual 86, 0, 176, 571, 8194) else none) else (if pc < 23 then (if pc = 20 then some (.invokespecial 65, 0, 129, 577, 41472) else none) else (if pc = 23 then some (.areturn, 0, 0, 0, 0) else none))))
def hm_i50 (pc : Nat) : Option hm_Row := if pc < 24 then hm_j50 pc else none
/-- CurvekeyHouse.boxAround(III)LCurvekeyHouse$Box; -/
def hm_j51 (pc : Nat) : Option hm_Row := if pc < 39 then (if pc < 18 then (if pc < 9 then (if pc < 3 then (if pc < 1 then (if pc = 0 then some (.iconst 0, 1, 0, 0, 0) else none) else (if pc < 2 then (if pc = 1 then some (.iload_n 1, 0, 0, 0, 0) else none) else (if pc = 2 then some (.iload_n 3, 0, 0, 0, 0) else none))) else (if pc < 4 then (if pc = 3 then some (.isub, 0, 0, 0, 0) else none) else (if pc < 7 then (if pc = 4 then some (.invokestatic 1001, 0, 305, 1040, 0) else none) else (if pc = 7 then some (.istore 4, 0, 0, 0, 0) else none)))) else (if pc < 12 then (if pc < 10 then (if pc = 9 then some (.iconst 0, 1, 0, 0, 0) else none) else (if pc < 11 then (if pc = 10 then some (.iload_n 2, 0, 0, 0, 0) else none) else (if pc = 11 then some (.iload_n 3, 0, 0, 0, 0) else none))) else (if pc < 13 then (if pc = 12 then some (.isub, 0, 0, 0, 0) else none) else (if pc < 16 then (if pc = 13 then some (.invokestatic 1001, 0, 305, 1040, 0) else none) else (if pc = 16 then some (.istore 5, 0, 0, 0, 0) else none))))) else (if pc < 28 then (if pc < 25 then (if pc < 19 then (if pc = 18 then some (.aload_n 0, 0, 0, 0, 0) else none) else (if pc < 22 then (if pc = 19 then some (.getfield 640, 0, 14, 363, 0) else none) else (if pc = 22 then some (.invokevirtual 86, 0, 176, 571, 8194) else none))) else (if pc < 26 then (if pc = 25 then some (.iconst 1, 1, 0, 0, 0) else none) else (if pc < 27 then (if pc = 26 then some (.isub, 0, 0, 0, 0) else none) else (if pc = 27 then some (.iload_n 1, 0, 0, 0, 0) else none)))) else (if pc < 33 then (if pc < 29 then (if pc = 28 then some (.iload_n 3, 0, 0, 0, 0) else none) else (if pc < 30 then (if pc = 29 then some (.iadd, 0, 0, 0, 0) else none) else (if pc = 30 then some (.invokestatic 1002, 0, 310, 1041, 0) else none))) else (if pc < 35 then (if pc = 33 then some (.istore 6, 0, 0, 0, 0) else none) else (if pc < 36 then (if pc = 35 then some (.aload_n 0, 0, 0, 0, 0) else none) else (if pc = 36 then some (.getfield 640, 0, 14, 363, 0) else none)))))) else (if pc < 60 then (if pc < 47 then (if pc < 44 then (if pc < 42 then (if pc = 39 then some (.invokevirtual 86, 0, 176, 571, 8194) else none) else (if pc < 43 then (if pc = 42 then some (.iconst 1, 1, 0, 0, 0) else none) else (if pc = 43 then some (.isub, 0, 0, 0, 0) else none))) else (if pc < 45 then (if pc = 44 then some (.iload_n 2, 0, 0, 0, 0) else none) else (if pc < 46 then (if pc = 45 then some (.iload_n 3, 0, 0, 0, 0) else none) else (if pc = 46 then some (.iadd, 0, 0, 0, 0) else none)))) else (if pc < 55 then (if pc < 50 then (if pc = 47 then some (.invokestatic 1002, 0, 310, 1041, 0) else none) else (if pc < 52 then (if pc = 50 then some (.istore 7, 0, 0, 0, 0) else none) else (if pc = 52 then some (.new 0, 0, 127, 575, 0) else none))) else (if pc < 56 then (if pc = 55 then some (.dup, 0, 0, 0, 0) else none) else (if pc < 58 then (if pc = 56 then some (.iload 4, 0, 0, 0, 0) else none) else (if pc = 58 then some (.iload 5, 0, 0, 0, 0) else none))))) else (if pc < 69 then (if pc < 65 then (if pc < 62 then (if pc = 60 then some (.iload 6, 0, 0, 0, 0) else none) else (if pc < 64 then (if pc = 62 then some (.iload 4, 0, 0, 0, 0) else none) else (if pc = 64 then some (.isub, 0, 0, 0, 0) else none))) else (if pc < 66 then (if pc = 65 then some (.iconst 1, 1, 0, 0, 0) else none) else (if pc < 67 then (if pc = 66 then some (.iadd, 0, 0, 0, 0) else none) else (if pc = 67 then some (.iload 7, 0, 0, 0, 0) else none)))) else (if pc < 73 then (if pc < 71 then (if pc = 69 then some (.iload 5, 0, 0, 0, 0) else none) else (if pc < 72 then (if pc = 71 then some (.isub, 0, 0, 0, 0) else none) else (if pc = 72 then some (.iconst 1, 1, 0, 0, 0) else none))) else (if pc < 74 then (if pc = 73 then some (.iadd, 0, 0, 0, 0) else none) else (if pc < 77 then (if pc = 74 then some (.invokespecial 65, 0, 129, 577, 41472) else none) else (if pc = 77 then some (.areturn, 0, 0, 0, 0) else none))))))
def hm_i51 (pc : Nat) : Option hm_Row := if pc < 78 then hm_j51 pc else none
/-- CurvekeyHouse.rootAbove(I)I -/
def hm_j52 (pc : Nat) : Option hm_Row := if pc < 12 then (if pc < 5 then (if pc < 2 then (if pc < 1 then (if pc = 0 then some (.iconst 0, 1, 0, 0, 0) else none) else (if pc = 1 then some (.istore_n 1, 0, 0, 0, 0) else none)) else (if pc < 3 then (if pc = 2 then some (.iconst 0, 1, 0, 0, 0) else none) else (if pc < 4 then (if pc = 3 then some (.istore_n 2, 0, 0, 0, 0) else none) else (if pc = 4 then some (.iload_n 2, 0, 0, 0, 0) else none)))) else (if pc < 7 then (if pc < 6 then (if pc = 5 then some (.iload_n 2, 0, 0, 0, 0) else none) else (if pc = 6 then some (.imul, 0, 0, 0, 0) else none)) else (if pc < 8 then (if pc = 7 then some (.iload_n 0, 0, 0, 0, 0) else none) else (if pc < 11 then (if pc = 8 then some (.if_icmp .ge 28, 0, 0, 0, 0) else none) else (if pc = 11 then some (.iload_n 2, 0, 0, 0, 0) else none))))) else (if pc < 21 then (if pc < 18 then (if pc < 15 then (if pc = 12 then some (.iconst (1024), 3, 0, 0, 0) else none) else (if pc = 15 then some (.if_icmp .ge 28, 0, 0, 0, 0) else none)) else (if pc < 19 then (if pc = 18 then some (.iload_n 2, 0, 0, 0, 0) else none) else (if pc < 20 then (if pc = 19 then some (.iconst 1, 1, 0, 0, 0) else none) else (if pc = 20 then some (.iadd, 0, 0, 0, 0) else none)))) else (if pc < 25 then (if pc < 22 then (if pc = 21 then some (.istore_n 1, 0, 0, 0, 0) else none) else (if pc = 22 then some (.iinc 2 (1), 0, 0, 0, 0) else none)) else (if pc < 28 then (if pc = 25 then some (.goto 4, 0, 0, 0, 0) else none) else (if pc < 29 then (if pc = 28 then some (.iload_n 1, 0, 0, 0, 0) else none) else (if pc = 29 then some (.ireturn, 0, 0, 0, 0) else none)))))
def hm_i52 (pc : Nat) : Option hm_Row := if pc < 30 then hm_j52 pc else none
/-- CurvekeyHouse.pointFact(II)I -/
def hm_j53 (pc : Nat) : Option hm_Row := if pc < 106 then (if pc < 76 then (if pc < 62 then (if pc < 56 then (if pc < 52 then (if pc < 1 then (if pc = 0 then some (.iload_n 2, 0, 0, 0, 0) else none) else (if pc = 1 then some (.tableswitch 157 (0) (8) #[52, 61, 70, 76, 93, 102, 111, 120, 148], 0, 0, 0, 0) else none)) else (if pc < 53 then (if pc = 52 then some (.aload_n 0, 0, 0, 0, 0) else none) else (if pc = 53 then some (.getfield 641, 0, 21, 364, 0) else none))) else (if pc < 60 then (if pc < 57 then (if pc = 56 then some (.iload_n 1, 0, 0, 0, 0) else none) else (if pc = 57 then some (.invokevirtual 161, 0, 328, 784, 16519) else none)) else (if pc < 61 then (if pc = 60 then some (.ireturn, 0, 0, 0, 0) else none) else (if pc = 61 then some (.aload_n 0, 0, 0, 0, 0) else none)))) else (if pc < 70 then (if pc < 66 then (if pc < 65 then (if pc = 62 then some (.getfield 641, 0, 21, 364, 0) else none) else (if pc = 65 then some (.iload_n 1, 0, 0, 0, 0) else none)) else (if pc < 69 then (if pc = 66 then some (.invokevirtual 162, 0, 331, 788, 16519) else none) else (if pc = 69 then some (.ireturn, 0, 0, 0, 0) else none))) else (if pc < 72 then (if pc < 71 then (if pc = 70 then some (.aload_n 0, 0, 0, 0, 0) else none) else (if pc = 71 then some (.iload_n 1, 0, 0, 0, 0) else none)) else (if pc < 75 then (if pc = 72 then some (.invokevirtual 40, 0, 468, 928, 16522) else none) else (if pc = 75 then some (.ireturn, 0, 0, 0, 0) else none))))) else (if pc < 92 then (if pc < 84 then (if pc < 80 then (if pc < 77 then (if pc = 76 then some (.aload_n 0, 0, 0, 0, 0) else none) else (if pc = 77 then some (.getfield 641, 0, 21, 364, 0) else none)) else (if pc < 81 then (if pc = 80 then some (.iload_n 1, 0, 0, 0, 0) else none) else (if pc = 81 then some (.invokevirtual 160, 0, 185, 770, 16519) else none))) else (if pc < 88 then (if pc < 87 then (if pc = 84 then some (.ifCond .eq 91, 0, 0, 0, 0) else none) else (if pc = 87 then some (.iconst 1, 1, 0, 0, 0) else none)) else (if pc < 91 then (if pc = 88 then some (.goto 92, 0, 0, 0, 0) else none) else (if pc = 91 then some (.iconst 0, 1, 0, 0, 0) else none)))) else (if pc < 98 then (if pc < 94 then (if pc < 93 then (if pc = 92 then some (.ireturn, 0, 0, 0, 0) else none) else (if pc = 93 then some (.aload_n 0, 0, 0, 0, 0) else none)) else (if pc < 97 then (if pc = 94 then some (.getfield 642, 0, 28, 365, 0) else none) else (if pc = 97 then some (.iload_n 1, 0, 0, 0, 0) else none))) else (if pc < 102 then (if pc < 101 then (if pc = 98 then some (.invokevirtual 114, 0, 471, 932, 16516) else none) else (if pc = 101 then some (.ireturn, 0, 0, 0, 0) else none)) else (if pc < 103 then (if pc = 102 then some (.aload_n 0, 0, 0, 0, 0) else none) else (if pc = 103 then some (.getfield 642, 0, 28, 365, 0) else none)))))) else (if pc < 136 then (if pc < 120 then (if pc < 112 then (if pc < 110 then (if pc < 107 then (if pc = 106 then some (.iload_n 1, 0, 0, 0, 0) else none) else (if pc = 107 then some (.invokevirtual 115, 0, 474, 936, 16516) else none)) else (if pc < 111 then (if pc = 110 then some (.ireturn, 0, 0, 0, 0) else none) else (if pc = 111 then some (.aload_n 0, 0, 0, 0, 0) else none))) else (if pc < 116 then (if pc < 115 then (if pc = 112 then some (.getfield 642, 0, 28, 365, 0) else none) else (if pc = 115 then some (.iload_n 1, 0, 0, 0, 0) else none)) else (if pc < 119 then (if pc = 116 then some (.invokevirtual 116, 0, 477, 940, 16516) else none) else (if pc = 119 then some (.ireturn, 0, 0, 0, 0) else none)))) else (if pc < 128 then (if pc < 124 then (if pc < 121 then (if pc = 120 then some (.aload_n 0, 0, 0, 0, 0) else none) else (if pc = 121 then some (.getfield 641, 0, 21, 364, 0) else none)) else (if pc < 125 then (if pc = 124 then some (.iload_n 1, 0, 0, 0, 0) else none) else (if pc = 125 then some (.invokevirtual 160, 0, 185, 770, 16519) else none))) else (if pc < 132 then (if pc < 131 then (if pc = 128 then some (.ifCond .eq 146, 0, 0, 0, 0) else none) else (if pc = 131 then some (.aload_n 0, 0, 0, 0, 0) else none)) else (if pc < 135 then (if pc = 132 then some (.getfield 643, 0, 37, 366, 0) else none) else (if pc = 135 then some (.aload_n 0, 0, 0, 0, 0) else none))))) else (if pc < 152 then (if pc < 146 then (if pc < 140 then (if pc < 137 then (if pc = 136 then some (.iload_n 1, 0, 0, 0, 0) else none) else (if pc = 137 then some (.invokevirtual 40, 0, 468, 928, 16522) else none)) else (if pc < 143 then (if pc = 140 then some (.invokevirtual 139, 0, 480, 944, 32902) else none) else (if pc = 143 then some (.goto 147, 0, 0, 0, 0) else none))) else (if pc < 148 then (if pc < 147 then (if pc = 146 then some (.iconst (-1), 1, 0, 0, 0) else none) else (if pc = 147 then some (.ireturn, 0, 0, 0, 0) else none)) else (if pc < 149 then (if pc = 148 then some (.aload_n 0, 0, 0, 0, 0) else none) else (if pc = 149 then some (.getfield 641, 0, 21, 364, 0) else none)))) else (if pc < 158 then (if pc < 156 then (if pc < 153 then (if pc = 152 then some (.iload_n 1, 0, 0, 0, 0) else none) else (if pc = 153 then some (.invokevirtual 163, 0, 483, 945, 16519) else none)) else (if pc < 157 then (if pc = 156 then some (.ireturn, 0, 0, 0, 0) else none) else (if pc = 157 then some (.aload_n 0, 0, 0, 0, 0) else none))) else (if pc < 162 then (if pc < 161 then (if pc = 158 then some (.getfield 641, 0, 21, 364, 0) else none) else (if pc = 161 then some (.iload_n 1, 0, 0, 0, 0) else none)) else (if pc < 165 then (if pc = 162 then some (.invokevirtual 164, 0, 486, 946, 16519) else none) else (if pc = 165 then some (.ireturn, 0, 0, 0, 0) else none))))))
def hm_i53 (pc : Nat) : Option hm_Row := if pc < 166 then hm_j53 pc else none
/-- CurvekeyHouse.pageFact(II)I -/
def hm_j54 (pc : Nat) : Option hm_Row := if pc < 63 then (if pc < 46 then (if pc < 40 then (if pc < 36 then (if pc < 1 then (if pc = 0 then some (.iload_n 2, 0, 0, 0, 0) else none) else (if pc = 1 then some (.tableswitch 81 (0) (4) #[36, 45, 54, 63, 72], 0, 0, 0, 0) else none)) else (if pc < 37 then (if pc = 36 then some (.aload_n 0, 0, 0, 0, 0) else none) else (if pc = 37 then some (.getfield 643, 0, 37, 366, 0) else none))) else (if pc < 44 then (if pc < 41 then (if pc = 40 then some (.iload_n 1, 0, 0, 0, 0) else none) else (if pc = 41 then some (.invokevirtual 138, 0, 489, 955, 16518) else none)) else (if pc < 45 then (if pc = 44 then some (.ireturn, 0, 0, 0, 0) else none) else (if pc = 45 then some (.aload_n 0, 0, 0, 0, 0) else none)))) else (if pc < 54 then (if pc < 50 then (if pc < 49 then (if pc = 46 then some (.getfield 643, 0, 37, 366, 0) else none) else (if pc = 49 then some (.iload_n 1, 0, 0, 0, 0) else none)) else (if pc < 53 then (if pc = 50 then some (.invokevirtual 141, 0, 492, 959, 41094) else none) else (if pc = 53 then some (.ireturn, 0, 0, 0, 0) else none))) else (if pc < 58 then (if pc < 55 then (if pc = 54 then some (.aload_n 0, 0, 0, 0, 0) else none) else (if pc = 55 then some (.getfield 643, 0, 37, 366, 0) else none)) else (if pc < 59 then (if pc = 58 then some (.iload_n 1, 0, 0, 0, 0) else none) else (if pc < 62 then (if pc = 59 then some (.invokevirtual 142, 0, 495, 960, 41094) else none) else (if pc = 62 then some (.ireturn, 0, 0, 0, 0) else none)))))) else (if pc < 77 then (if pc < 71 then (if pc < 67 then (if pc < 64 then (if pc = 63 then some (.aload_n 0, 0, 0, 0, 0) else none) else (if pc = 64 then some (.getfield 643, 0, 37, 366, 0) else none)) else (if pc < 68 then (if pc = 67 then some (.iload_n 1, 0, 0, 0, 0) else none) else (if pc = 68 then some (.invokevirtual 143, 0, 498, 964, 16518) else none))) else (if pc < 73 then (if pc < 72 then (if pc = 71 then some (.ireturn, 0, 0, 0, 0) else none) else (if pc = 72 then some (.aload_n 0, 0, 0, 0, 0) else none)) else (if pc < 76 then (if pc = 73 then some (.getfield 643, 0, 37, 366, 0) else none) else (if pc = 76 then some (.iload_n 1, 0, 0, 0, 0) else none)))) else (if pc < 85 then (if pc < 81 then (if pc < 80 then (if pc = 77 then some (.invokevirtual 144, 0, 501, 968, 16518) else none) else (if pc = 80 then some (.ireturn, 0, 0, 0, 0) else none)) else (if pc < 82 then (if pc = 81 then some (.aload_n 0, 0, 0, 0, 0) else none) else (if pc = 82 then some (.getfield 643, 0, 37, 366, 0) else none))) else (if pc < 87 then (if pc < 86 then (if pc = 85 then some (.iload_n 1, 0, 0, 0, 0) else none) else (if pc = 86 then some (.aload_n 0, 0, 0, 0, 0) else none)) else (if pc < 90 then (if pc = 87 then some (.getfield 649, 0, 73, 372, 0) else none) else (if pc < 93 then (if pc = 90 then some (.invokevirtual 146, 0, 296, 896, 24838) else none) else (if pc = 93 then some (.ireturn, 0, 0, 0, 0) else none))))))
def hm_i54 (pc : Nat) : Option hm_Row := if pc < 94 then hm_j54 pc else none
/-- CurvekeyHouse.storeFact(I)I -/
def hm_j55 (pc : Nat) : Option hm_Row := if pc < 72 then (if pc < 56 then (if pc < 48 then (if pc < 44 then (if pc < 1 then (if pc = 0 then some (.iload_n 1, 0, 0, 0, 0) else none) else (if pc = 1 then some (.tableswitch 97 (0) (6) #[44, 52, 57, 65, 73, 81, 89], 0, 0, 0, 0) else none)) else (if pc < 45 then (if pc = 44 then some (.aload_n 0, 0, 0, 0, 0) else none) else (if pc = 45 then some (.getfield 640, 0, 14, 363, 0) else none))) else (if pc < 52 then (if pc < 51 then (if pc = 48 then some (.invokevirtual 85, 0, 504, 510, 8194) else none) else (if pc = 51 then some (.ireturn, 0, 0, 0, 0) else none)) else (if pc < 53 then (if pc = 52 then some (.aload_n 0, 0, 0, 0, 0) else none) else (if pc = 53 then some (.getfield 648, 0, 69, 371, 0) else none)))) else (if pc < 64 then (if pc < 58 then (if pc < 57 then (if pc = 56 then some (.ireturn, 0, 0, 0, 0) else none) else (if pc = 57 then some (.aload_n 0, 0, 0, 0, 0) else none)) else (if pc < 61 then (if pc = 58 then some (.getfield 643, 0, 37, 366, 0) else none) else (if pc = 61 then some (.invokevirtual 134, 0, 352, 514, 8198) else none))) else (if pc < 66 then (if pc < 65 then (if pc = 64 then some (.ireturn, 0, 0, 0, 0) else none) else (if pc = 65 then some (.aload_n 0, 0, 0, 0, 0) else none)) else (if pc < 69 then (if pc = 66 then some (.getfield 641, 0, 21, 364, 0) else none) else (if pc = 69 then some (.invokevirtual 157, 0, 84, 518, 8199) else none))))) else (if pc < 88 then (if pc < 80 then (if pc < 74 then (if pc < 73 then (if pc = 72 then some (.ireturn, 0, 0, 0, 0) else none) else (if pc = 73 then some (.aload_n 0, 0, 0, 0, 0) else none)) else (if pc < 77 then (if pc = 74 then some (.getfield 641, 0, 21, 364, 0) else none) else (if pc = 77 then some (.invokevirtual 158, 0, 380, 522, 8199) else none))) else (if pc < 82 then (if pc < 81 then (if pc = 80 then some (.ireturn, 0, 0, 0, 0) else none) else (if pc = 81 then some (.aload_n 0, 0, 0, 0, 0) else none)) else (if pc < 85 then (if pc = 82 then some (.getfield 643, 0, 37, 366, 0) else none) else (if pc = 85 then some (.invokevirtual 133, 0, 214, 526, 8198) else none)))) else (if pc < 96 then (if pc < 90 then (if pc < 89 then (if pc = 88 then some (.ireturn, 0, 0, 0, 0) else none) else (if pc = 89 then some (.aload_n 0, 0, 0, 0, 0) else none)) else (if pc < 93 then (if pc = 90 then some (.getfield 643, 0, 37, 366, 0) else none) else (if pc = 93 then some (.invokevirtual 135, 0, 507, 530, 8198) else none))) else (if pc < 98 then (if pc < 97 then (if pc = 96 then some (.ireturn, 0, 0, 0, 0) else none) else (if pc = 97 then some (.aload_n 0, 0, 0, 0, 0) else none)) else (if pc < 101 then (if pc = 98 then some (.getfield 642, 0, 28, 365, 0) else none) else (if pc < 104 then (if pc = 101 then some (.invokevirtual 113, 0, 205, 534, 8196) else none) else (if pc = 104 then some (.ireturn, 0, 0, 0, 0) else none))))))
def hm_i55 (pc : Nat) : Option hm_Row := if pc < 105 then hm_j55 pc else none
/-- CurvekeyHouse.countFact(I)I -/
def hm_j56 (pc : Nat) : Option hm_Row := if pc < 67 then (if pc < 53 then (if pc < 45 then (if pc < 1 then (if pc = 0 then some (.iload_n 1, 0, 0, 0, 0) else none) else (if pc < 44 then (if pc = 1 then some (.tableswitch 88 (8) (14) #[44, 52, 57, 62, 67, 75, 83], 0, 0, 0, 0) else none) else (if pc = 44 then some (.aload_n 0, 0, 0, 0, 0) else none))) else (if pc < 51 then (if pc < 48 then (if pc = 45 then some (.getfield 642, 0, 28, 365, 0) else none) else (if pc = 48 then some (.invokevirtual 112, 0, 276, 542, 8196) else none)) else (if pc < 52 then (if pc = 51 then some (.ireturn, 0, 0, 0, 0) else none) else (if pc = 52 then some (.aload_n 0, 0, 0, 0, 0) else none)))) else (if pc < 61 then (if pc < 57 then (if pc < 56 then (if pc = 53 then some (.getfield 651, 0, 157, 374, 0) else none) else (if pc = 56 then some (.ireturn, 0, 0, 0, 0) else none)) else (if pc < 58 then (if pc = 57 then some (.aload_n 0, 0, 0, 0, 0) else none) else (if pc = 58 then some (.getfield 650, 0, 154, 373, 0) else none))) else (if pc < 63 then (if pc < 62 then (if pc = 61 then some (.ireturn, 0, 0, 0, 0) else none) else (if pc = 62 then some (.aload_n 0, 0, 0, 0, 0) else none)) else (if pc < 66 then (if pc = 63 then some (.getfield 649, 0, 73, 372, 0) else none) else (if pc = 66 then some (.ireturn, 0, 0, 0, 0) else none))))) else (if pc < 82 then (if pc < 74 then (if pc < 68 then (if pc = 67 then some (.aload_n 0, 0, 0, 0, 0) else none) else (if pc < 71 then (if pc = 68 then some (.getfield 645, 0, 51, 368, 0) else none) else (if pc = 71 then some (.invokevirtual 186, 0, 510, 546, 8201) else none))) else (if pc < 76 then (if pc < 75 then (if pc = 74 then some (.ireturn, 0, 0, 0, 0) else none) else (if pc = 75 then some (.aload_n 0, 0, 0, 0, 0) else none)) else (if pc < 79 then (if pc = 76 then some (.getfield 645, 0, 51, 368, 0) else none) else (if pc = 79 then some (.invokevirtual 190, 0, 511, 550, 24585) else none)))) else (if pc < 88 then (if pc < 84 then (if pc < 83 then (if pc = 82 then some (.ireturn, 0, 0, 0, 0) else none) else (if pc = 83 then some (.aload_n 0, 0, 0, 0, 0) else none)) else (if pc < 87 then (if pc = 84 then some (.getfield 652, 0, 160, 375, 0) else none) else (if pc = 87 then some (.ireturn, 0, 0, 0, 0) else none))) else (if pc < 92 then (if pc < 89 then (if pc = 88 then some (.aload_n 0, 0, 0, 0, 0) else none) else (if pc = 89 then some (.getfield 643, 0, 37, 366, 0) else none)) else (if pc < 95 then (if pc = 92 then some (.invokevirtual 136, 0, 514, 555, 8198) else none) else (if pc = 95 then some (.ireturn, 0, 0, 0, 0) else none)))))
def hm_i56 (pc : Nat) : Option hm_Row := if pc < 96 then hm_j56 pc else none
/-- CurvekeyHouse.machineFact(II)I -/
def hm_j57 (pc : Nat) : Option hm_Row := if pc < 45 then (if pc < 33 then (if pc < 28 then (if pc < 1 then (if pc = 0 then some (.iload_n 2, 0, 0, 0, 0) else none) else (if pc = 1 then some (.lookupswitch 54 #[(0, 28), (1, 41)], 0, 0, 0, 0) else none)) else (if pc < 29 then (if pc = 28 then some (.aload_n 0, 0, 0, 0, 0) else none) else (if pc < 32 then (if pc = 29 then some (.getfield 643, 0, 37, 366, 0) else none) else (if pc = 32 then some (.iload_n 1, 0, 0, 0, 0) else none)))) else (if pc < 40 then (if pc < 34 then (if pc = 33 then some (.aload_n 0, 0, 0, 0, 0) else none) else (if pc < 37 then (if pc = 34 then some (.getfield 649, 0, 73, 372, 0) else none) else (if pc = 37 then some (.invokevirtual 147, 0, 302, 1022, 41222) else none))) else (if pc < 41 then (if pc = 40 then some (.ireturn, 0, 0, 0, 0) else none) else (if pc < 42 then (if pc = 41 then some (.aload_n 0, 0, 0, 0, 0) else none) else (if pc = 42 then some (.getfield 643, 0, 37, 366, 0) else none))))) else (if pc < 55 then (if pc < 50 then (if pc < 46 then (if pc = 45 then some (.iload_n 1, 0, 0, 0, 0) else none) else (if pc < 47 then (if pc = 46 then some (.aload_n 0, 0, 0, 0, 0) else none) else (if pc = 47 then some (.getfield 649, 0, 73, 372, 0) else none))) else (if pc < 53 then (if pc = 50 then some (.invokevirtual 148, 0, 517, 1028, 41222) else none) else (if pc < 54 then (if pc = 53 then some (.ireturn, 0, 0, 0, 0) else none) else (if pc = 54 then some (.aload_n 0, 0, 0, 0, 0) else none)))) else (if pc < 60 then (if pc < 58 then (if pc = 55 then some (.getfield 643, 0, 37, 366, 0) else none) else (if pc < 59 then (if pc = 58 then some (.iload_n 1, 0, 0, 0, 0) else none) else (if pc = 59 then some (.aload_n 0, 0, 0, 0, 0) else none))) else (if pc < 63 then (if pc = 60 then some (.getfield 649, 0, 73, 372, 0) else none) else (if pc < 66 then (if pc = 63 then some (.invokevirtual 149, 0, 520, 1032, 33030) else none) else (if pc = 66 then some (.ireturn, 0, 0, 0, 0) else none)))))
def hm_i57 (pc : Nat) : Option hm_Row := if pc < 67 then hm_j57 pc else none
/-- CurvekeyHouse.rivalFact(I)I -/
def hm_j58 (pc : Nat) : Option hm_Row := if pc < 27 then (if pc < 12 then (if pc < 7 then (if pc < 1 then (if pc = 0 then some (.aload_n 0, 0, 0, 0, 0) else none) else (if pc < 4 then (if pc = 1 then some (.getfield 643, 0, 37, 366, 0) else none) else (if pc = 4 then some (.invokevirtual 134, 0, 352, 514, 8198) else none))) else (if pc < 8 then (if pc = 7 then some (.istore_n 2, 0, 0, 0, 0) else none) else (if pc < 9 then (if pc = 8 then some (.iload_n 1, 0, 0, 0, 0) else none) else (if pc = 9 then some (.ifCond .ne 27, 0, 0, 0, 0) else none)))) else (if pc < 17 then (if pc < 13 then (if pc = 12 then some (.aload_n 0, 0, 0, 0, 0) else none) else (if pc < 16 then (if pc = 13 then some (.getfield 644, 0, 44, 367, 0) else none) else (if pc = 16 then some (.aload_n 0, 0, 0, 0, 0) else none))) else (if pc < 21 then (if pc < 20 then (if pc = 17 then some (.invokevirtual 50, 0, 376, 1046, 8202) else none) else (if pc = 20 then some (.iload_n 2, 0, 0, 0, 0) else none)) else (if pc < 24 then (if pc = 21 then some (.invokevirtual 81, 0, 355, 1050, 73985) else none) else (if pc = 24 then some (.goto 51, 0, 0, 0, 0) else none))))) else (if pc < 37 then (if pc < 32 then (if pc < 28 then (if pc = 27 then some (.iload_n 1, 0, 0, 0, 0) else none) else (if pc < 29 then (if pc = 28 then some (.iconst 1, 1, 0, 0, 0) else none) else (if pc = 29 then some (.if_icmp .ne 43, 0, 0, 0, 0) else none))) else (if pc < 33 then (if pc = 32 then some (.aload_n 0, 0, 0, 0, 0) else none) else (if pc < 36 then (if pc = 33 then some (.getfield 644, 0, 44, 367, 0) else none) else (if pc = 36 then some (.iload_n 2, 0, 0, 0, 0) else none)))) else (if pc < 44 then (if pc < 40 then (if pc = 37 then some (.invokevirtual 82, 0, 523, 1069, 41089) else none) else (if pc < 43 then (if pc = 40 then some (.goto 51, 0, 0, 0, 0) else none) else (if pc = 43 then some (.aload_n 0, 0, 0, 0, 0) else none))) else (if pc < 48 then (if pc < 47 then (if pc = 44 then some (.getfield 644, 0, 44, 367, 0) else none) else (if pc = 47 then some (.iload_n 2, 0, 0, 0, 0) else none)) else (if pc < 51 then (if pc = 48 then some (.invokevirtual 83, 0, 526, 1073, 41089) else none) else (if pc = 51 then some (.ireturn, 0, 0, 0, 0) else none)))))
def hm_i58 (pc : Nat) : Option hm_Row := if pc < 52 then hm_j58 pc else none
/-- CurvekeyHouse.arePointsEntered()Z -/
def hm_j59 (pc : Nat) : Option hm_Row := if pc < 42 then (if pc < 20 then (if pc < 6 then (if pc < 3 then (if pc < 1 then (if pc = 0 then some (.iconst 0, 1, 0, 0, 0) else none) else (if pc < 2 then (if pc = 1 then some (.istore_n 1, 0, 0, 0, 0) else none) else (if pc = 2 then some (.iconst 0, 1, 0, 0, 0) else none))) else (if pc < 4 then (if pc = 3 then some (.istore_n 2, 0, 0, 0, 0) else none) else (if pc < 5 then (if pc = 4 then some (.iload_n 2, 0, 0, 0, 0) else none) else (if pc = 5 then some (.aload_n 0, 0, 0, 0, 0) else none)))) else (if pc < 15 then (if pc < 9 then (if pc = 6 then some (.getfield 640, 0, 14, 363, 0) else none) else (if pc < 12 then (if pc = 9 then some (.invokevirtual 87, 0, 163, 501, 8194) else none) else (if pc = 12 then some (.if_icmp .ge 70, 0, 0, 0, 0) else none))) else (if pc < 16 then (if pc = 15 then some (.aload_n 0, 0, 0, 0, 0) else none) else (if pc < 19 then (if pc = 16 then some (.getfield 643, 0, 37, 366, 0) else none) else (if pc = 19 then some (.iload_n 2, 0, 0, 0, 0) else none))))) else (if pc < 30 then (if pc < 25 then (if pc < 23 then (if pc = 20 then some (.invokevirtual 140, 0, 425, 629, 16518) else none) else (if pc < 24 then (if pc = 23 then some (.istore_n 3, 0, 0, 0, 0) else none) else (if pc = 24 then some (.iload_n 3, 0, 0, 0, 0) else none))) else (if pc < 26 then (if pc = 25 then some (.iconst (-1), 1, 0, 0, 0) else none) else (if pc < 29 then (if pc = 26 then some (.if_icmp .eq 51, 0, 0, 0, 0) else none) else (if pc = 29 then some (.aload_n 0, 0, 0, 0, 0) else none)))) else (if pc < 37 then (if pc < 33 then (if pc = 30 then some (.getfield 641, 0, 21, 364, 0) else none) else (if pc < 34 then (if pc = 33 then some (.iload_n 3, 0, 0, 0, 0) else none) else (if pc = 34 then some (.invokevirtual 160, 0, 185, 770, 16519) else none))) else (if pc < 40 then (if pc = 37 then some (.ifCond .eq 49, 0, 0, 0, 0) else none) else (if pc < 41 then (if pc = 40 then some (.aload_n 0, 0, 0, 0, 0) else none) else (if pc = 41 then some (.iload_n 3, 0, 0, 0, 0) else none)))))) else (if pc < 62 then (if pc < 52 then (if pc < 49 then (if pc < 45 then (if pc = 42 then some (.invokevirtual 40, 0, 468, 928, 16522) else none) else (if pc < 46 then (if pc = 45 then some (.iload_n 2, 0, 0, 0, 0) else none) else (if pc = 46 then some (.if_icmp .eq 51, 0, 0, 0, 0) else none))) else (if pc < 50 then (if pc = 49 then some (.iconst 0, 1, 0, 0, 0) else none) else (if pc < 51 then (if pc = 50 then some (.ireturn, 0, 1, 0, 0) else none) else (if pc = 51 then some (.iload_n 1, 0, 0, 0, 0) else none)))) else (if pc < 57 then (if pc < 53 then (if pc = 52 then some (.iload_n 3, 0, 0, 0, 0) else none) else (if pc < 54 then (if pc = 53 then some (.iconst (-1), 1, 0, 0, 0) else none) else (if pc = 54 then some (.if_icmp .ne 61, 0, 0, 0, 0) else none))) else (if pc < 58 then (if pc = 57 then some (.iconst 0, 1, 0, 0, 0) else none) else (if pc < 61 then (if pc = 58 then some (.goto 62, 0, 0, 0, 0) else none) else (if pc = 61 then some (.iconst 1, 1, 0, 0, 0) else none))))) else (if pc < 72 then (if pc < 67 then (if pc < 63 then (if pc = 62 then some (.iadd, 0, 0, 0, 0) else none) else (if pc < 64 then (if pc = 63 then some (.istore_n 1, 0, 0, 0, 0) else none) else (if pc = 64 then some (.iinc 2 (1), 0, 0, 0, 0) else none))) else (if pc < 70 then (if pc = 67 then some (.goto 4, 0, 0, 0, 0) else none) else (if pc < 71 then (if pc = 70 then some (.iload_n 1, 0, 0, 0, 0) else none) else (if pc = 71 then some (.aload_n 0, 0, 0, 0, 0) else none)))) else (if pc < 81 then (if pc < 75 then (if pc = 72 then some (.getfield 641, 0, 21, 364, 0) else none) else (if pc < 78 then (if pc = 75 then some (.invokevirtual 158, 0, 380, 522, 8199) else none) else (if pc = 78 then some (.if_icmp .ne 85, 0, 0, 0, 0) else none))) else (if pc < 85 then (if pc < 82 then (if pc = 81 then some (.iconst 1, 1, 0, 0, 0) else none) else (if pc = 82 then some (.goto 86, 0, 0, 0, 0) else none)) else (if pc < 86 then (if pc = 85 then some (.iconst 0, 1, 0, 0, 0) else none) else (if pc = 86 then some (.ireturn, 0, 1, 0, 0) else none))))))
def hm_i59 (pc : Nat) : Option hm_Row := if pc < 87 then hm_j59 pc else none
/-- CurvekeyHouse.mix(JJ)J -/
def hm_j60 (pc : Nat) : Option hm_Row := if pc < 5 then (if pc < 1 then (if pc = 0 then some (.lload_n 0, 0, 0, 0, 0) else none) else (if pc < 4 then (if pc = 1 then some (.ldc2_w 31, 0, 529, 915, 0) else none) else (if pc = 4 then some (.lmul, 0, 0, 0, 0) else none))) else (if pc < 6 then (if pc = 5 then some (.lload_n 2, 0, 0, 0, 0) else none) else (if pc < 7 then (if pc = 6 then some (.ladd, 0, 0, 0, 0) else none) else (if pc = 7 then some (.lreturn, 0, 0, 0, 0) else none)))
def hm_i60 (pc : Nat) : Option hm_Row := if pc < 8 then hm_j60 pc else none
/-- CurvekeyHouse.mixStore(J)J -/
def hm_j61 (pc : Nat) : Option hm_Row := if pc < 47 then (if pc < 21 then (if pc < 9 then (if pc < 3 then (if pc < 1 then (if pc = 0 then some (.lload_n 1, 0, 0, 0, 0) else none) else (if pc < 2 then (if pc = 1 then some (.lstore_n 3, 0, 0, 0, 0) else none) else (if pc = 2 then some (.iconst 0, 1, 0, 0, 0) else none))) else (if pc < 5 then (if pc = 3 then some (.istore 5, 0, 0, 0, 0) else none) else (if pc < 7 then (if pc = 5 then some (.iload 5, 0, 0, 0, 0) else none) else (if pc = 7 then some (.iconst (16), 2, 0, 0, 0) else none)))) else (if pc < 15 then (if pc < 12 then (if pc = 9 then some (.if_icmp .ge 47, 0, 0, 0, 0) else none) else (if pc < 13 then (if pc = 12 then some (.lload_n 3, 0, 0, 0, 0) else none) else (if pc = 13 then some (.iload 5, 0, 0, 0, 0) else none))) else (if pc < 17 then (if pc = 15 then some (.iconst (8), 2, 0, 0, 0) else none) else (if pc < 20 then (if pc = 17 then some (.if_icmp .ge 30, 0, 0, 0, 0) else none) else (if pc = 20 then some (.aload_n 0, 0, 0, 0, 0) else none))))) else (if pc < 33 then (if pc < 27 then (if pc < 23 then (if pc = 21 then some (.iload 5, 0, 0, 0, 0) else none) else (if pc < 26 then (if pc = 23 then some (.invokevirtual 55, 0, 218, 506, 16522) else none) else (if pc = 26 then some (.i2l, 0, 0, 0, 0) else none))) else (if pc < 30 then (if pc = 27 then some (.goto 37, 0, 0, 0, 0) else none) else (if pc < 31 then (if pc = 30 then some (.aload_n 0, 0, 0, 0, 0) else none) else (if pc = 31 then some (.iload 5, 0, 0, 0, 0) else none)))) else (if pc < 40 then (if pc < 36 then (if pc = 33 then some (.invokevirtual 56, 0, 221, 538, 16522) else none) else (if pc < 37 then (if pc = 36 then some (.i2l, 0, 0, 0, 0) else none) else (if pc = 37 then some (.invokestatic 60, 0, 398, 912, 33034) else none))) else (if pc < 41 then (if pc = 40 then some (.lstore_n 3, 0, 0, 0, 0) else none) else (if pc < 44 then (if pc = 41 then some (.iinc 5 (1), 0, 0, 0, 0) else none) else (if pc = 44 then some (.goto 5, 0, 0, 0, 0) else none)))))) else (if pc < 68 then (if pc < 58 then (if pc < 52 then (if pc < 48 then (if pc = 47 then some (.iconst 0, 1, 0, 0, 0) else none) else (if pc < 50 then (if pc = 48 then some (.istore 5, 0, 0, 0, 0) else none) else (if pc = 50 then some (.iload 5, 0, 0, 0, 0) else none))) else (if pc < 54 then (if pc = 52 then some (.iconst (6), 2, 0, 0, 0) else none) else (if pc < 57 then (if pc = 54 then some (.if_icmp .ge 95, 0, 0, 0, 0) else none) else (if pc = 57 then some (.iconst 0, 1, 0, 0, 0) else none)))) else (if pc < 63 then (if pc < 60 then (if pc = 58 then some (.istore 6, 0, 0, 0, 0) else none) else (if pc < 62 then (if pc = 60 then some (.iload 6, 0, 0, 0, 0) else none) else (if pc = 62 then some (.iconst 4, 1, 0, 0, 0) else none))) else (if pc < 66 then (if pc = 63 then some (.if_icmp .ge 89, 0, 0, 0, 0) else none) else (if pc < 67 then (if pc = 66 then some (.lload_n 3, 0, 0, 0, 0) else none) else (if pc = 67 then some (.aload_n 0, 0, 0, 0, 0) else none))))) else (if pc < 82 then (if pc < 75 then (if pc < 71 then (if pc = 68 then some (.getfield 640, 0, 14, 363, 0) else none) else (if pc < 73 then (if pc = 71 then some (.iload 5, 0, 0, 0, 0) else none) else (if pc = 73 then some (.iload 6, 0, 0, 0, 0) else none))) else (if pc < 78 then (if pc = 75 then some (.invokevirtual 91, 0, 95, 916, 24834) else none) else (if pc < 79 then (if pc = 78 then some (.i2l, 0, 0, 0, 0) else none) else (if pc = 79 then some (.invokestatic 60, 0, 398, 912, 33034) else none)))) else (if pc < 89 then (if pc < 83 then (if pc = 82 then some (.lstore_n 3, 0, 0, 0, 0) else none) else (if pc < 86 then (if pc = 83 then some (.iinc 6 (1), 0, 0, 0, 0) else none) else (if pc = 86 then some (.goto 60, 0, 0, 0, 0) else none))) else (if pc < 95 then (if pc < 92 then (if pc = 89 then some (.iinc 5 (1), 0, 0, 0, 0) else none) else (if pc = 92 then some (.goto 50, 0, 0, 0, 0) else none)) else (if pc < 96 then (if pc = 95 then some (.lload_n 3, 0, 0, 0, 0) else none) else (if pc = 96 then some (.lreturn, 0, 0, 0, 0) else none))))))
def hm_i61 (pc : Nat) : Option hm_Row := if pc < 97 then hm_j61 pc else none
/-- CurvekeyHouse.mixPoints(J)J -/
def hm_j62 (pc : Nat) : Option hm_Row := if pc < 27 then (if pc < 11 then (if pc < 3 then (if pc < 1 then (if pc = 0 then some (.lload_n 1, 0, 0, 0, 0) else none) else (if pc < 2 then (if pc = 1 then some (.lstore_n 3, 0, 0, 0, 0) else none) else (if pc = 2 then some (.iconst 0, 1, 0, 0, 0) else none))) else (if pc < 7 then (if pc < 5 then (if pc = 3 then some (.istore 5, 0, 0, 0, 0) else none) else (if pc = 5 then some (.iload 5, 0, 0, 0, 0) else none)) else (if pc < 8 then (if pc = 7 then some (.aload_n 0, 0, 0, 0, 0) else none) else (if pc = 8 then some (.getfield 641, 0, 21, 364, 0) else none)))) else (if pc < 18 then (if pc < 14 then (if pc = 11 then some (.invokevirtual 157, 0, 84, 518, 8199) else none) else (if pc < 17 then (if pc = 14 then some (.if_icmp .ge 53, 0, 0, 0, 0) else none) else (if pc = 17 then some (.iconst 0, 1, 0, 0, 0) else none))) else (if pc < 22 then (if pc < 20 then (if pc = 18 then some (.istore 6, 0, 0, 0, 0) else none) else (if pc = 20 then some (.iload 6, 0, 0, 0, 0) else none)) else (if pc < 24 then (if pc = 22 then some (.iconst (10), 2, 0, 0, 0) else none) else (if pc = 24 then some (.if_icmp .ge 47, 0, 0, 0, 0) else none))))) else (if pc < 40 then (if pc < 31 then (if pc < 28 then (if pc = 27 then some (.lload_n 3, 0, 0, 0, 0) else none) else (if pc < 29 then (if pc = 28 then some (.aload_n 0, 0, 0, 0, 0) else none) else (if pc = 29 then some (.iload 5, 0, 0, 0, 0) else none))) else (if pc < 36 then (if pc < 33 then (if pc = 31 then some (.iload 6, 0, 0, 0, 0) else none) else (if pc = 33 then some (.invokevirtual 53, 0, 211, 924, 24842) else none)) else (if pc < 37 then (if pc = 36 then some (.i2l, 0, 0, 0, 0) else none) else (if pc = 37 then some (.invokestatic 60, 0, 398, 912, 33034) else none)))) else (if pc < 47 then (if pc < 41 then (if pc = 40 then some (.lstore_n 3, 0, 0, 0, 0) else none) else (if pc < 44 then (if pc = 41 then some (.iinc 6 (1), 0, 0, 0, 0) else none) else (if pc = 44 then some (.goto 20, 0, 0, 0, 0) else none))) else (if pc < 53 then (if pc < 50 then (if pc = 47 then some (.iinc 5 (1), 0, 0, 0, 0) else none) else (if pc = 50 then some (.goto 5, 0, 0, 0, 0) else none)) else (if pc < 54 then (if pc = 53 then some (.lload_n 3, 0, 0, 0, 0) else none) else (if pc = 54 then some (.lreturn, 0, 0, 0, 0) else none)))))
def hm_i62 (pc : Nat) : Option hm_Row := if pc < 55 then hm_j62 pc else none
/-- CurvekeyHouse.mixPages(J)J -/
def hm_j63 (pc : Nat) : Option hm_Row := if pc < 27 then (if pc < 11 then (if pc < 3 then (if pc < 1 then (if pc = 0 then some (.lload_n 1, 0, 0, 0, 0) else none) else (if pc < 2 then (if pc = 1 then some (.lstore_n 3, 0, 0, 0, 0) else none) else (if pc = 2 then some (.iconst 0, 1, 0, 0, 0) else none))) else (if pc < 7 then (if pc < 5 then (if pc = 3 then some (.istore 5, 0, 0, 0, 0) else none) else (if pc = 5 then some (.iload 5, 0, 0, 0, 0) else none)) else (if pc < 8 then (if pc = 7 then some (.aload_n 0, 0, 0, 0, 0) else none) else (if pc = 8 then some (.getfield 643, 0, 37, 366, 0) else none)))) else (if pc < 18 then (if pc < 14 then (if pc = 11 then some (.invokevirtual 133, 0, 214, 526, 8198) else none) else (if pc < 17 then (if pc = 14 then some (.if_icmp .ge 53, 0, 0, 0, 0) else none) else (if pc = 17 then some (.iconst 0, 1, 0, 0, 0) else none))) else (if pc < 22 then (if pc < 20 then (if pc = 18 then some (.istore 6, 0, 0, 0, 0) else none) else (if pc = 20 then some (.iload 6, 0, 0, 0, 0) else none)) else (if pc < 24 then (if pc = 22 then some (.iconst (6), 2, 0, 0, 0) else none) else (if pc = 24 then some (.if_icmp .ge 47, 0, 0, 0, 0) else none))))) else (if pc < 40 then (if pc < 31 then (if pc < 28 then (if pc = 27 then some (.lload_n 3, 0, 0, 0, 0) else none) else (if pc < 29 then (if pc = 28 then some (.aload_n 0, 0, 0, 0, 0) else none) else (if pc = 29 then some (.iload 5, 0, 0, 0, 0) else none))) else (if pc < 36 then (if pc < 33 then (if pc = 31 then some (.iload 6, 0, 0, 0, 0) else none) else (if pc = 33 then some (.invokevirtual 54, 0, 215, 951, 24842) else none)) else (if pc < 37 then (if pc = 36 then some (.i2l, 0, 0, 0, 0) else none) else (if pc = 37 then some (.invokestatic 60, 0, 398, 912, 33034) else none)))) else (if pc < 47 then (if pc < 41 then (if pc = 40 then some (.lstore_n 3, 0, 0, 0, 0) else none) else (if pc < 44 then (if pc = 41 then some (.iinc 6 (1), 0, 0, 0, 0) else none) else (if pc = 44 then some (.goto 20, 0, 0, 0, 0) else none))) else (if pc < 53 then (if pc < 50 then (if pc = 47 then some (.iinc 5 (1), 0, 0, 0, 0) else none) else (if pc = 50 then some (.goto 5, 0, 0, 0, 0) else none)) else (if pc < 54 then (if pc = 53 then some (.lload_n 3, 0, 0, 0, 0) else none) else (if pc = 54 then some (.lreturn, 0, 0, 0, 0) else none)))))
def hm_i63 (pc : Nat) : Option hm_Row := if pc < 55 then hm_j63 pc else none
/-- CurvekeyHouse.mixMachines(J)J -/
def hm_j64 (pc : Nat) : Option hm_Row := if pc < 25 then (if pc < 11 then (if pc < 3 then (if pc < 1 then (if pc = 0 then some (.lload_n 1, 0, 0, 0, 0) else none) else (if pc < 2 then (if pc = 1 then some (.lstore_n 3, 0, 0, 0, 0) else none) else (if pc = 2 then some (.iconst 0, 1, 0, 0, 0) else none))) else (if pc < 7 then (if pc < 5 then (if pc = 3 then some (.istore 5, 0, 0, 0, 0) else none) else (if pc = 5 then some (.iload 5, 0, 0, 0, 0) else none)) else (if pc < 8 then (if pc = 7 then some (.aload_n 0, 0, 0, 0, 0) else none) else (if pc = 8 then some (.getfield 649, 0, 73, 372, 0) else none)))) else (if pc < 19 then (if pc < 15 then (if pc < 14 then (if pc = 11 then some (.if_icmp .ge 49, 0, 0, 0, 0) else none) else (if pc = 14 then some (.iconst 0, 1, 0, 0, 0) else none)) else (if pc < 17 then (if pc = 15 then some (.istore 6, 0, 0, 0, 0) else none) else (if pc = 17 then some (.iload 6, 0, 0, 0, 0) else none))) else (if pc < 23 then (if pc < 20 then (if pc = 19 then some (.iconst 3, 1, 0, 0, 0) else none) else (if pc = 20 then some (.if_icmp .ge 43, 0, 0, 0, 0) else none)) else (if pc < 24 then (if pc = 23 then some (.lload_n 3, 0, 0, 0, 0) else none) else (if pc = 24 then some (.aload_n 0, 0, 0, 0, 0) else none))))) else (if pc < 43 then (if pc < 33 then (if pc < 29 then (if pc < 27 then (if pc = 25 then some (.iload 5, 0, 0, 0, 0) else none) else (if pc = 27 then some (.iload 6, 0, 0, 0, 0) else none)) else (if pc < 32 then (if pc = 29 then some (.invokevirtual 57, 0, 299, 1018, 24842) else none) else (if pc = 32 then some (.i2l, 0, 0, 0, 0) else none))) else (if pc < 37 then (if pc < 36 then (if pc = 33 then some (.invokestatic 60, 0, 398, 912, 33034) else none) else (if pc = 36 then some (.lstore_n 3, 0, 0, 0, 0) else none)) else (if pc < 40 then (if pc = 37 then some (.iinc 6 (1), 0, 0, 0, 0) else none) else (if pc = 40 then some (.goto 17, 0, 0, 0, 0) else none)))) else (if pc < 51 then (if pc < 49 then (if pc < 46 then (if pc = 43 then some (.iinc 5 (1), 0, 0, 0, 0) else none) else (if pc = 46 then some (.goto 5, 0, 0, 0, 0) else none)) else (if pc < 50 then (if pc = 49 then some (.lload_n 3, 0, 0, 0, 0) else none) else (if pc = 50 then some (.aload_n 0, 0, 0, 0, 0) else none))) else (if pc < 55 then (if pc < 54 then (if pc = 51 then some (.invokevirtual 23, 0, 531, 1036, 40970) else none) else (if pc = 54 then some (.i2l, 0, 0, 0, 0) else none)) else (if pc < 58 then (if pc = 55 then some (.invokestatic 60, 0, 398, 912, 33034) else none) else (if pc = 58 then some (.lreturn, 0, 0, 0, 0) else none)))))
def hm_i64 (pc : Nat) : Option hm_Row := if pc < 59 then hm_j64 pc else none
/-- CurvekeyHouse$Box.<init>(IIII)V -/
def hm_j65 (pc : Nat) : Option hm_Row := if pc < 11 then (if pc < 5 then (if pc < 1 then (if pc = 0 then some (.aload_n 0, 0, 0, 0, 0) else none) else (if pc < 4 then (if pc = 1 then some (.invokespecial 1000, 0, 1, 580, 0) else none) else (if pc = 4 then some (.aload_n 0, 0, 0, 0, 0) else none))) else (if pc < 9 then (if pc < 6 then (if pc = 5 then some (.iload_n 1, 0, 0, 0, 0) else none) else (if pc = 6 then some (.putfield 0, 0, 7, 581, 0) else none)) else (if pc < 10 then (if pc = 9 then some (.aload_n 0, 0, 0, 0, 0) else none) else (if pc = 10 then some (.iload_n 2, 0, 0, 0, 0) else none)))) else (if pc < 19 then (if pc < 15 then (if pc < 14 then (if pc = 11 then some (.putfield 1, 0, 13, 582, 0) else none) else (if pc = 14 then some (.aload_n 0, 0, 0, 0, 0) else none)) else (if pc < 16 then (if pc = 15 then some (.iload_n 3, 0, 0, 0, 0) else none) else (if pc = 16 then some (.putfield 2, 0, 16, 583, 0) else none))) else (if pc < 22 then (if pc < 20 then (if pc = 19 then some (.aload_n 0, 0, 0, 0, 0) else none) else (if pc = 20 then some (.iload 4, 0, 0, 0, 0) else none)) else (if pc < 25 then (if pc = 22 then some (.putfield 3, 0, 19, 584, 0) else none) else (if pc = 25 then some (.return_, 0, 0, 0, 0) else none))))
def hm_i65 (pc : Nat) : Option hm_Row := if pc < 26 then hm_j65 pc else none
/-- CurvekeyHouse$Box.has(II)Z -/
def hm_j66 (pc : Nat) : Option hm_Row := if pc < 23 then (if pc < 10 then (if pc < 5 then (if pc < 1 then (if pc = 0 then some (.iload_n 1, 0, 0, 0, 0) else none) else (if pc < 2 then (if pc = 1 then some (.aload_n 0, 0, 0, 0, 0) else none) else (if pc = 2 then some (.getfield 0, 0, 7, 581, 0) else none))) else (if pc < 8 then (if pc = 5 then some (.if_icmp .lt 46, 0, 0, 0, 0) else none) else (if pc < 9 then (if pc = 8 then some (.iload_n 1, 0, 0, 0, 0) else none) else (if pc = 9 then some (.aload_n 0, 0, 0, 0, 0) else none)))) else (if pc < 17 then (if pc < 13 then (if pc = 10 then some (.getfield 0, 0, 7, 581, 0) else none) else (if pc < 14 then (if pc = 13 then some (.aload_n 0, 0, 0, 0, 0) else none) else (if pc = 14 then some (.getfield 2, 0, 16, 583, 0) else none))) else (if pc < 21 then (if pc < 18 then (if pc = 17 then some (.iadd, 0, 0, 0, 0) else none) else (if pc = 18 then some (.if_icmp .ge 46, 0, 0, 0, 0) else none)) else (if pc < 22 then (if pc = 21 then some (.iload_n 2, 0, 0, 0, 0) else none) else (if pc = 22 then some (.aload_n 0, 0, 0, 0, 0) else none))))) else (if pc < 35 then (if pc < 30 then (if pc < 26 then (if pc = 23 then some (.getfield 1, 0, 13, 582, 0) else none) else (if pc < 29 then (if pc = 26 then some (.if_icmp .lt 46, 0, 0, 0, 0) else none) else (if pc = 29 then some (.iload_n 2, 0, 0, 0, 0) else none))) else (if pc < 31 then (if pc = 30 then some (.aload_n 0, 0, 0, 0, 0) else none) else (if pc < 34 then (if pc = 31 then some (.getfield 1, 0, 13, 582, 0) else none) else (if pc = 34 then some (.aload_n 0, 0, 0, 0, 0) else none)))) else (if pc < 42 then (if pc < 38 then (if pc = 35 then some (.getfield 3, 0, 19, 584, 0) else none) else (if pc < 39 then (if pc = 38 then some (.iadd, 0, 0, 0, 0) else none) else (if pc = 39 then some (.if_icmp .ge 46, 0, 0, 0, 0) else none))) else (if pc < 46 then (if pc < 43 then (if pc = 42 then some (.iconst 1, 1, 0, 0, 0) else none) else (if pc = 43 then some (.goto 47, 0, 0, 0, 0) else none)) else (if pc < 47 then (if pc = 46 then some (.iconst 0, 1, 0, 0, 0) else none) else (if pc = 47 then some (.ireturn, 0, 1, 0, 0) else none)))))
def hm_i66 (pc : Nat) : Option hm_Row := if pc < 48 then hm_j66 pc else none
/-- CurvekeyHouse$Box.meets(III)Z -/
def hm_j67 (pc : Nat) : Option hm_Row := if pc < 25 then (if pc < 13 then (if pc < 5 then (if pc < 1 then (if pc = 0 then some (.iload_n 1, 0, 0, 0, 0) else none) else (if pc < 2 then (if pc = 1 then some (.aload_n 0, 0, 0, 0, 0) else none) else (if pc = 2 then some (.getfield 0, 0, 7, 581, 0) else none))) else (if pc < 9 then (if pc < 6 then (if pc = 5 then some (.aload_n 0, 0, 0, 0, 0) else none) else (if pc = 6 then some (.getfield 2, 0, 16, 583, 0) else none)) else (if pc < 10 then (if pc = 9 then some (.iadd, 0, 0, 0, 0) else none) else (if pc = 10 then some (.if_icmp .ge 50, 0, 0, 0, 0) else none)))) else (if pc < 17 then (if pc < 15 then (if pc < 14 then (if pc = 13 then some (.iload_n 1, 0, 0, 0, 0) else none) else (if pc = 14 then some (.iload_n 3, 0, 0, 0, 0) else none)) else (if pc < 16 then (if pc = 15 then some (.iadd, 0, 0, 0, 0) else none) else (if pc = 16 then some (.aload_n 0, 0, 0, 0, 0) else none))) else (if pc < 23 then (if pc < 20 then (if pc = 17 then some (.getfield 0, 0, 7, 581, 0) else none) else (if pc = 20 then some (.if_icmp .le 50, 0, 0, 0, 0) else none)) else (if pc < 24 then (if pc = 23 then some (.iload_n 2, 0, 0, 0, 0) else none) else (if pc = 24 then some (.aload_n 0, 0, 0, 0, 0) else none))))) else (if pc < 38 then (if pc < 32 then (if pc < 28 then (if pc = 25 then some (.getfield 1, 0, 13, 582, 0) else none) else (if pc < 29 then (if pc = 28 then some (.aload_n 0, 0, 0, 0, 0) else none) else (if pc = 29 then some (.getfield 3, 0, 19, 584, 0) else none))) else (if pc < 36 then (if pc < 33 then (if pc = 32 then some (.iadd, 0, 0, 0, 0) else none) else (if pc = 33 then some (.if_icmp .ge 50, 0, 0, 0, 0) else none)) else (if pc < 37 then (if pc = 36 then some (.iload_n 2, 0, 0, 0, 0) else none) else (if pc = 37 then some (.iload_n 3, 0, 0, 0, 0) else none)))) else (if pc < 46 then (if pc < 40 then (if pc < 39 then (if pc = 38 then some (.iadd, 0, 0, 0, 0) else none) else (if pc = 39 then some (.aload_n 0, 0, 0, 0, 0) else none)) else (if pc < 43 then (if pc = 40 then some (.getfield 1, 0, 13, 582, 0) else none) else (if pc = 43 then some (.if_icmp .le 50, 0, 0, 0, 0) else none))) else (if pc < 50 then (if pc < 47 then (if pc = 46 then some (.iconst 1, 1, 0, 0, 0) else none) else (if pc = 47 then some (.goto 51, 0, 0, 0, 0) else none)) else (if pc < 51 then (if pc = 50 then some (.iconst 0, 1, 0, 0, 0) else none) else (if pc = 51 then some (.ireturn, 0, 1, 0, 0) else none)))))
def hm_i67 (pc : Nat) : Option hm_Row := if pc < 52 then hm_j67 pc else none
/-- CurvekeyHouse$Cells.<init>(I)V -/
def hm_j68 (pc : Nat) : Option hm_Row := if pc < 12 then (if pc < 5 then (if pc < 1 then (if pc = 0 then some (.aload_n 0, 0, 0, 0, 0) else none) else (if pc < 4 then (if pc = 1 then some (.invokespecial 1000, 0, 3, 288, 0) else none) else (if pc = 4 then some (.aload_n 0, 0, 0, 0, 0) else none))) else (if pc < 8 then (if pc = 5 then some (.new 8, 0, 9, 289, 0) else none) else (if pc < 9 then (if pc = 8 then some (.dup, 0, 0, 0, 0) else none) else (if pc = 9 then some (.iconst (1365), 3, 0, 0, 0) else none)))) else (if pc < 19 then (if pc < 15 then (if pc = 12 then some (.invokespecial 177, 0, 11, 290, 16520) else none) else (if pc < 18 then (if pc = 15 then some (.putfield 64, 0, 14, 296, 0) else none) else (if pc = 18 then some (.aload_n 0, 0, 0, 0, 0) else none))) else (if pc < 20 then (if pc = 19 then some (.iload_n 1, 0, 0, 0, 0) else none) else (if pc < 23 then (if pc = 20 then some (.invokevirtual 69, 0, 20, 291, 16513) else none) else (if pc = 23 then some (.return_, 0, 0, 0, 0) else none))))
def hm_i68 (pc : Nat) : Option hm_Row := if pc < 24 then hm_j68 pc else none
/-- CurvekeyHouse$Cells.clear(I)V -/
def hm_j69 (pc : Nat) : Option hm_Row := if pc < 6 then (if pc < 2 then (if pc < 1 then (if pc = 0 then some (.aload_n 0, 0, 0, 0, 0) else none) else (if pc = 1 then some (.iload_n 1, 0, 0, 0, 0) else none)) else (if pc < 5 then (if pc = 2 then some (.putfield 65, 0, 23, 297, 0) else none) else (if pc = 5 then some (.aload_n 0, 0, 0, 0, 0) else none))) else (if pc < 10 then (if pc < 9 then (if pc = 6 then some (.getfield 64, 0, 14, 296, 0) else none) else (if pc = 9 then some (.iconst 0, 1, 0, 0, 0) else none)) else (if pc < 13 then (if pc = 10 then some (.invokevirtual 181, 0, 27, 295, 24712) else none) else (if pc = 13 then some (.return_, 0, 0, 0, 0) else none)))
def hm_i69 (pc : Nat) : Option hm_Row := if pc < 14 then hm_j69 pc else none
/-- CurvekeyHouse$Cells.isLevel(I)Z -/
def hm_j70 (pc : Nat) : Option hm_Row := if pc < 9 then (if pc < 4 then (if pc < 1 then (if pc = 0 then some (.iload_n 1, 0, 0, 0, 0) else none) else (if pc = 1 then some (.ifCond .lt 16, 0, 0, 0, 0) else none)) else (if pc < 5 then (if pc = 4 then some (.iload_n 1, 0, 0, 0, 0) else none) else (if pc < 6 then (if pc = 5 then some (.aload_n 0, 0, 0, 0, 0) else none) else (if pc = 6 then some (.getfield 65, 0, 23, 297, 0) else none)))) else (if pc < 13 then (if pc < 12 then (if pc = 9 then some (.if_icmp .gt 16, 0, 0, 0, 0) else none) else (if pc = 12 then some (.iconst 1, 1, 0, 0, 0) else none)) else (if pc < 16 then (if pc = 13 then some (.goto 17, 0, 0, 0, 0) else none) else (if pc < 17 then (if pc = 16 then some (.iconst 0, 1, 0, 0, 0) else none) else (if pc = 17 then some (.ireturn, 0, 1, 0, 0) else none))))
def hm_i70 (pc : Nat) : Option hm_Row := if pc < 18 then hm_j70 pc else none
/-- CurvekeyHouse$Cells.isCell(II)Z -/
def hm_j71 (pc : Nat) : Option hm_Row := if pc < 13 then (if pc < 5 then (if pc < 1 then (if pc = 0 then some (.aload_n 0, 0, 0, 0, 0) else none) else (if pc < 2 then (if pc = 1 then some (.iload_n 1, 0, 0, 0, 0) else none) else (if pc = 2 then some (.invokevirtual 70, 0, 30, 871, 16513) else none))) else (if pc < 9 then (if pc < 8 then (if pc = 5 then some (.ifCond .eq 24, 0, 0, 0, 0) else none) else (if pc = 8 then some (.iload_n 2, 0, 0, 0, 0) else none)) else (if pc < 12 then (if pc = 9 then some (.ifCond .lt 24, 0, 0, 0, 0) else none) else (if pc = 12 then some (.iload_n 2, 0, 0, 0, 0) else none)))) else (if pc < 20 then (if pc < 14 then (if pc = 13 then some (.iload_n 1, 0, 0, 0, 0) else none) else (if pc < 17 then (if pc = 14 then some (.invokestatic 72, 0, 34, 726, 8321) else none) else (if pc = 17 then some (.if_icmp .ge 24, 0, 0, 0, 0) else none))) else (if pc < 24 then (if pc < 21 then (if pc = 20 then some (.iconst 1, 1, 0, 0, 0) else none) else (if pc = 21 then some (.goto 25, 0, 0, 0, 0) else none)) else (if pc < 25 then (if pc = 24 then some (.iconst 0, 1, 0, 0, 0) else none) else (if pc = 25 then some (.ireturn, 0, 1, 0, 0) else none))))
def hm_i71 (pc : Nat) : Option hm_Row := if pc < 26 then hm_j71 pc else none
/-- CurvekeyHouse$Cells.cellsOf(I)I -/
def hm_j72 (pc : Nat) : Option hm_Row := if pc < 3 then (if pc < 1 then (if pc = 0 then some (.iconst 1, 1, 0, 0, 0) else none) else (if pc < 2 then (if pc = 1 then some (.iconst 2, 1, 0, 0, 0) else none) else (if pc = 2 then some (.iload_n 0, 0, 0, 0, 0) else none))) else (if pc < 4 then (if pc = 3 then some (.imul, 0, 0, 0, 0) else none) else (if pc < 5 then (if pc = 4 then some (.ishl, 0, 0, 0, 0) else none) else (if pc = 5 then some (.ireturn, 0, 0, 0, 0) else none)))
def hm_i72 (pc : Nat) : Option hm_Row := if pc < 6 then hm_j72 pc else none
/-- CurvekeyHouse$Cells.indexOf(II)I -/
def hm_j73 (pc : Nat) : Option hm_Row := if pc < 6 then (if pc < 4 then (if pc < 1 then (if pc = 0 then some (.iload_n 0, 0, 0, 0, 0) else none) else (if pc = 1 then some (.invokestatic 72, 0, 34, 726, 8321) else none)) else (if pc < 5 then (if pc = 4 then some (.iconst 1, 1, 0, 0, 0) else none) else (if pc = 5 then some (.isub, 0, 0, 0, 0) else none))) else (if pc < 8 then (if pc < 7 then (if pc = 6 then some (.iconst 3, 1, 0, 0, 0) else none) else (if pc = 7 then some (.idiv, 0, 0, 0, 0) else none)) else (if pc < 9 then (if pc = 8 then some (.iload_n 1, 0, 0, 0, 0) else none) else (if pc < 10 then (if pc = 9 then some (.iadd, 0, 0, 0, 0) else none) else (if pc = 10 then some (.ireturn, 0, 0, 0, 0) else none))))
def hm_i73 (pc : Nat) : Option hm_Row := if pc < 11 then hm_j73 pc else none
/-- CurvekeyHouse$Cells.cellAt(III)I -/
def hm_j74 (pc : Nat) : Option hm_Row := if pc < 11 then (if pc < 5 then (if pc < 1 then (if pc = 0 then some (.aload_n 0, 0, 0, 0, 0) else none) else (if pc < 4 then (if pc = 1 then some (.getfield 65, 0, 23, 297, 0) else none) else (if pc = 4 then some (.iload_n 1, 0, 0, 0, 0) else none))) else (if pc < 8 then (if pc < 6 then (if pc = 5 then some (.isub, 0, 0, 0, 0) else none) else (if pc = 6 then some (.istore 4, 0, 0, 0, 0) else none)) else (if pc < 9 then (if pc = 8 then some (.iload_n 3, 0, 0, 0, 0) else none) else (if pc = 9 then some (.iload 4, 0, 0, 0, 0) else none)))) else (if pc < 15 then (if pc < 13 then (if pc < 12 then (if pc = 11 then some (.ishr, 0, 0, 0, 0) else none) else (if pc = 12 then some (.iload_n 1, 0, 0, 0, 0) else none)) else (if pc < 14 then (if pc = 13 then some (.ishl, 0, 0, 0, 0) else none) else (if pc = 14 then some (.iload_n 2, 0, 0, 0, 0) else none))) else (if pc < 18 then (if pc < 17 then (if pc = 15 then some (.iload 4, 0, 0, 0, 0) else none) else (if pc = 17 then some (.ishr, 0, 0, 0, 0) else none)) else (if pc < 19 then (if pc = 18 then some (.iadd, 0, 0, 0, 0) else none) else (if pc = 19 then some (.ireturn, 0, 0, 0, 0) else none))))
def hm_i74 (pc : Nat) : Option hm_Row := if pc < 20 then hm_j74 pc else none
/-- CurvekeyHouse$Cells.countIn(II)I -/
def hm_j75 (pc : Nat) : Option hm_Row := if pc < 5 then (if pc < 1 then (if pc = 0 then some (.aload_n 0, 0, 0, 0, 0) else none) else (if pc < 4 then (if pc = 1 then some (.getfield 64, 0, 14, 296, 0) else none) else (if pc = 4 then some (.iload_n 1, 0, 0, 0, 0) else none))) else (if pc < 9 then (if pc < 6 then (if pc = 5 then some (.iload_n 2, 0, 0, 0, 0) else none) else (if pc = 6 then some (.invokestatic 73, 0, 38, 723, 16641) else none)) else (if pc < 12 then (if pc = 9 then some (.invokevirtual 178, 0, 42, 887, 16520) else none) else (if pc = 12 then some (.ireturn, 0, 0, 0, 0) else none)))
def hm_i75 (pc : Nat) : Option hm_Row := if pc < 13 then hm_j75 pc else none
/-- CurvekeyHouse$Cells.count(III)V -/
def hm_j76 (pc : Nat) : Option hm_Row := if pc < 19 then (if pc < 9 then (if pc < 3 then (if pc < 1 then (if pc = 0 then some (.iconst 0, 1, 0, 0, 0) else none) else (if pc = 1 then some (.istore 4, 0, 0, 0, 0) else none)) else (if pc < 5 then (if pc = 3 then some (.iload 4, 0, 0, 0, 0) else none) else (if pc < 6 then (if pc = 5 then some (.aload_n 0, 0, 0, 0, 0) else none) else (if pc = 6 then some (.getfield 65, 0, 23, 297, 0) else none)))) else (if pc < 13 then (if pc < 12 then (if pc = 9 then some (.if_icmp .gt 39, 0, 0, 0, 0) else none) else (if pc = 12 then some (.aload_n 0, 0, 0, 0, 0) else none)) else (if pc < 16 then (if pc = 13 then some (.getfield 64, 0, 14, 296, 0) else none) else (if pc < 18 then (if pc = 16 then some (.iload 4, 0, 0, 0, 0) else none) else (if pc = 18 then some (.aload_n 0, 0, 0, 0, 0) else none))))) else (if pc < 29 then (if pc < 22 then (if pc < 21 then (if pc = 19 then some (.iload 4, 0, 0, 0, 0) else none) else (if pc = 21 then some (.iload_n 1, 0, 0, 0, 0) else none)) else (if pc < 23 then (if pc = 22 then some (.iload_n 2, 0, 0, 0, 0) else none) else (if pc < 26 then (if pc = 23 then some (.invokevirtual 74, 0, 45, 719, 41345) else none) else (if pc = 26 then some (.invokestatic 73, 0, 38, 723, 16641) else none)))) else (if pc < 33 then (if pc < 30 then (if pc = 29 then some (.iload_n 3, 0, 0, 0, 0) else none) else (if pc = 30 then some (.invokevirtual 180, 0, 49, 729, 24840) else none)) else (if pc < 36 then (if pc = 33 then some (.iinc 4 (1), 0, 0, 0, 0) else none) else (if pc < 39 then (if pc = 36 then some (.goto 3, 0, 0, 0, 0) else none) else (if pc = 39 then some (.return_, 0, 0, 0, 0) else none)))))
def hm_i76 (pc : Nat) : Option hm_Row := if pc < 40 then hm_j76 pc else none
/-- CurvekeyHouse$Cells.deepestWith(III)I -/
def hm_j77 (pc : Nat) : Option hm_Row := if pc < 18 then (if pc < 11 then (if pc < 4 then (if pc < 1 then (if pc = 0 then some (.aload_n 0, 0, 0, 0, 0) else none) else (if pc = 1 then some (.getfield 65, 0, 23, 297, 0) else none)) else (if pc < 6 then (if pc = 4 then some (.istore 4, 0, 0, 0, 0) else none) else (if pc < 8 then (if pc = 6 then some (.iload 4, 0, 0, 0, 0) else none) else (if pc = 8 then some (.ifCond .lt 38, 0, 0, 0, 0) else none)))) else (if pc < 14 then (if pc < 12 then (if pc = 11 then some (.aload_n 0, 0, 0, 0, 0) else none) else (if pc = 12 then some (.iload 4, 0, 0, 0, 0) else none)) else (if pc < 15 then (if pc = 14 then some (.aload_n 0, 0, 0, 0, 0) else none) else (if pc < 17 then (if pc = 15 then some (.iload 4, 0, 0, 0, 0) else none) else (if pc = 17 then some (.iload_n 1, 0, 0, 0, 0) else none))))) else (if pc < 29 then (if pc < 22 then (if pc < 19 then (if pc = 18 then some (.iload_n 2, 0, 0, 0, 0) else none) else (if pc = 19 then some (.invokevirtual 74, 0, 45, 719, 41345) else none)) else (if pc < 25 then (if pc = 22 then some (.invokevirtual 75, 0, 53, 1064, 24833) else none) else (if pc < 26 then (if pc = 25 then some (.iload_n 3, 0, 0, 0, 0) else none) else (if pc = 26 then some (.if_icmp .lt 32, 0, 0, 0, 0) else none)))) else (if pc < 35 then (if pc < 31 then (if pc = 29 then some (.iload 4, 0, 0, 0, 0) else none) else (if pc < 32 then (if pc = 31 then some (.ireturn, 0, 0, 0, 0) else none) else (if pc = 32 then some (.iinc 4 (-1), 0, 0, 0, 0) else none))) else (if pc < 38 then (if pc = 35 then some (.goto 6, 0, 0, 0, 0) else none) else (if pc < 39 then (if pc = 38 then some (.iconst (-1), 1, 0, 0, 0) else none) else (if pc = 39 then some (.ireturn, 0, 0, 0, 0) else none)))))
def hm_i77 (pc : Nat) : Option hm_Row := if pc < 40 then hm_j77 pc else none
/-- CurvekeyHouse$Cells.isLeaf(III)Z -/
def hm_j78 (pc : Nat) : Option hm_Row := if pc < 27 then (if pc < 10 then (if pc < 6 then (if pc < 4 then (if pc < 1 then (if pc = 0 then some (.iload_n 1, 0, 0, 0, 0) else none) else (if pc = 1 then some (.ifCond .eq 20, 0, 0, 0, 0) else none)) else (if pc < 5 then (if pc = 4 then some (.aload_n 0, 0, 0, 0, 0) else none) else (if pc = 5 then some (.iload_n 1, 0, 0, 0, 0) else none))) else (if pc < 8 then (if pc < 7 then (if pc = 6 then some (.iconst 1, 1, 0, 0, 0) else none) else (if pc = 7 then some (.isub, 0, 0, 0, 0) else none)) else (if pc < 9 then (if pc = 8 then some (.iload_n 1, 0, 0, 0, 0) else none) else (if pc = 9 then some (.iload_n 2, 0, 0, 0, 0) else none)))) else (if pc < 20 then (if pc < 16 then (if pc < 13 then (if pc = 10 then some (.invokestatic 80, 0, 56, 1061, 16641) else none) else (if pc = 13 then some (.invokevirtual 75, 0, 53, 1064, 24833) else none)) else (if pc < 17 then (if pc = 16 then some (.iload_n 3, 0, 0, 0, 0) else none) else (if pc = 17 then some (.if_icmp .le 24, 0, 0, 0, 0) else none))) else (if pc < 24 then (if pc < 21 then (if pc = 20 then some (.iconst 1, 1, 0, 0, 0) else none) else (if pc = 21 then some (.goto 25, 0, 0, 0, 0) else none)) else (if pc < 25 then (if pc = 24 then some (.iconst 0, 1, 0, 0, 0) else none) else (if pc = 25 then some (.istore 4, 0, 0, 0, 0) else none))))) else (if pc < 42 then (if pc < 34 then (if pc < 32 then (if pc < 29 then (if pc = 27 then some (.iload 4, 0, 0, 0, 0) else none) else (if pc = 29 then some (.ifCond .eq 54, 0, 0, 0, 0) else none)) else (if pc < 33 then (if pc = 32 then some (.iload_n 1, 0, 0, 0, 0) else none) else (if pc = 33 then some (.aload_n 0, 0, 0, 0, 0) else none))) else (if pc < 40 then (if pc < 37 then (if pc = 34 then some (.getfield 65, 0, 23, 297, 0) else none) else (if pc = 37 then some (.if_icmp .eq 50, 0, 0, 0, 0) else none)) else (if pc < 41 then (if pc = 40 then some (.aload_n 0, 0, 0, 0, 0) else none) else (if pc = 41 then some (.iload_n 1, 0, 0, 0, 0) else none)))) else (if pc < 50 then (if pc < 46 then (if pc < 43 then (if pc = 42 then some (.iload_n 2, 0, 0, 0, 0) else none) else (if pc = 43 then some (.invokevirtual 75, 0, 53, 1064, 24833) else none)) else (if pc < 47 then (if pc = 46 then some (.iload_n 3, 0, 0, 0, 0) else none) else (if pc = 47 then some (.if_icmp .gt 54, 0, 0, 0, 0) else none))) else (if pc < 54 then (if pc < 51 then (if pc = 50 then some (.iconst 1, 1, 0, 0, 0) else none) else (if pc = 51 then some (.goto 55, 0, 0, 0, 0) else none)) else (if pc < 55 then (if pc = 54 then some (.iconst 0, 1, 0, 0, 0) else none) else (if pc = 55 then some (.ireturn, 0, 1, 0, 0) else none)))))
def hm_i78 (pc : Nat) : Option hm_Row := if pc < 56 then hm_j78 pc else none
/-- CurvekeyHouse$Cells.columnOf(II)I -/
def hm_j79 (pc : Nat) : Option hm_Row := if pc < 4 then (if pc < 2 then (if pc < 1 then (if pc = 0 then some (.iload_n 1, 0, 0, 0, 0) else none) else (if pc = 1 then some (.iconst 1, 1, 0, 0, 0) else none)) else (if pc < 3 then (if pc = 2 then some (.iload_n 0, 0, 0, 0, 0) else none) else (if pc = 3 then some (.ishl, 0, 0, 0, 0) else none))) else (if pc < 6 then (if pc < 5 then (if pc = 4 then some (.iconst 1, 1, 0, 0, 0) else none) else (if pc = 5 then some (.isub, 0, 0, 0, 0) else none)) else (if pc < 7 then (if pc = 6 then some (.iand, 0, 0, 0, 0) else none) else (if pc = 7 then some (.ireturn, 0, 0, 0, 0) else none)))
def hm_i79 (pc : Nat) : Option hm_Row := if pc < 8 then hm_j79 pc else none
/-- CurvekeyHouse$Cells.parentOf(II)I -/
def hm_j80 (pc : Nat) : Option hm_Row := if pc < 8 then (if pc < 4 then (if pc < 2 then (if pc < 1 then (if pc = 0 then some (.iload_n 1, 0, 0, 0, 0) else none) else (if pc = 1 then some (.iload_n 0, 0, 0, 0, 0) else none)) else (if pc < 3 then (if pc = 2 then some (.ishr, 0, 0, 0, 0) else none) else (if pc = 3 then some (.iconst 1, 1, 0, 0, 0) else none))) else (if pc < 6 then (if pc < 5 then (if pc = 4 then some (.ishr, 0, 0, 0, 0) else none) else (if pc = 5 then some (.iload_n 0, 0, 0, 0, 0) else none)) else (if pc < 7 then (if pc = 6 then some (.iconst 1, 1, 0, 0, 0) else none) else (if pc = 7 then some (.isub, 0, 0, 0, 0) else none)))) else (if pc < 14 then (if pc < 10 then (if pc < 9 then (if pc = 8 then some (.ishl, 0, 0, 0, 0) else none) else (if pc = 9 then some (.iload_n 0, 0, 0, 0, 0) else none)) else (if pc < 11 then (if pc = 10 then some (.iload_n 1, 0, 0, 0, 0) else none) else (if pc = 11 then some (.invokestatic 79, 0, 59, 1054, 16641) else none))) else (if pc < 16 then (if pc < 15 then (if pc = 14 then some (.iconst 1, 1, 0, 0, 0) else none) else (if pc = 15 then some (.ishr, 0, 0, 0, 0) else none)) else (if pc < 17 then (if pc = 16 then some (.iadd, 0, 0, 0, 0) else none) else (if pc = 17 then some (.ireturn, 0, 0, 0, 0) else none))))
def hm_i80 (pc : Nat) : Option hm_Row := if pc < 18 then hm_j80 pc else none
/-- CurvekeyHouse$Cells.leavesIn(LCurvekeyHouse$Box;I)I -/
def hm_j81 (pc : Nat) : Option hm_Row := if pc < 50 then (if pc < 23 then (if pc < 8 then (if pc < 3 then (if pc < 1 then (if pc = 0 then some (.iconst 0, 1, 0, 0, 0) else none) else (if pc < 2 then (if pc = 1 then some (.istore_n 3, 0, 0, 0, 0) else none) else (if pc = 2 then some (.iconst 0, 1, 0, 0, 0) else none))) else (if pc < 5 then (if pc = 3 then some (.istore 4, 0, 0, 0, 0) else none) else (if pc < 7 then (if pc = 5 then some (.iload 4, 0, 0, 0, 0) else none) else (if pc = 7 then some (.aload_n 0, 0, 0, 0, 0) else none)))) else (if pc < 15 then (if pc < 11 then (if pc = 8 then some (.getfield 65, 0, 23, 297, 0) else none) else (if pc < 14 then (if pc = 11 then some (.if_icmp .gt 100, 0, 0, 0, 0) else none) else (if pc = 14 then some (.aload_n 0, 0, 0, 0, 0) else none))) else (if pc < 20 then (if pc < 18 then (if pc = 15 then some (.getfield 65, 0, 23, 297, 0) else none) else (if pc = 18 then some (.iload 4, 0, 0, 0, 0) else none)) else (if pc < 21 then (if pc = 20 then some (.isub, 0, 0, 0, 0) else none) else (if pc = 21 then some (.istore 5, 0, 0, 0, 0) else none))))) else (if pc < 36 then (if pc < 28 then (if pc < 24 then (if pc = 23 then some (.iconst 0, 1, 0, 0, 0) else none) else (if pc < 26 then (if pc = 24 then some (.istore 6, 0, 0, 0, 0) else none) else (if pc = 26 then some (.iload 6, 0, 0, 0, 0) else none))) else (if pc < 30 then (if pc = 28 then some (.iload 4, 0, 0, 0, 0) else none) else (if pc < 33 then (if pc = 30 then some (.invokestatic 72, 0, 34, 726, 8321) else none) else (if pc = 33 then some (.if_icmp .ge 94, 0, 0, 0, 0) else none)))) else (if pc < 43 then (if pc < 38 then (if pc = 36 then some (.iload 4, 0, 0, 0, 0) else none) else (if pc < 40 then (if pc = 38 then some (.iload 6, 0, 0, 0, 0) else none) else (if pc = 40 then some (.invokestatic 79, 0, 59, 1054, 16641) else none))) else (if pc < 46 then (if pc < 45 then (if pc = 43 then some (.iload 5, 0, 0, 0, 0) else none) else (if pc = 45 then some (.ishl, 0, 0, 0, 0) else none)) else (if pc < 48 then (if pc = 46 then some (.istore 7, 0, 0, 0, 0) else none) else (if pc = 48 then some (.iload 6, 0, 0, 0, 0) else none)))))) else (if pc < 73 then (if pc < 59 then (if pc < 55 then (if pc < 52 then (if pc = 50 then some (.iload 4, 0, 0, 0, 0) else none) else (if pc < 53 then (if pc = 52 then some (.ishr, 0, 0, 0, 0) else none) else (if pc = 53 then some (.iload 5, 0, 0, 0, 0) else none))) else (if pc < 56 then (if pc = 55 then some (.ishl, 0, 0, 0, 0) else none) else (if pc < 58 then (if pc = 56 then some (.istore 8, 0, 0, 0, 0) else none) else (if pc = 58 then some (.aload_n 0, 0, 0, 0, 0) else none)))) else (if pc < 64 then (if pc < 61 then (if pc = 59 then some (.iload 4, 0, 0, 0, 0) else none) else (if pc < 63 then (if pc = 61 then some (.iload 6, 0, 0, 0, 0) else none) else (if pc = 63 then some (.iload_n 2, 0, 0, 0, 0) else none))) else (if pc < 70 then (if pc < 67 then (if pc = 64 then some (.invokevirtual 78, 0, 62, 1057, 41345) else none) else (if pc = 67 then some (.ifCond .eq 88, 0, 0, 0, 0) else none)) else (if pc < 71 then (if pc = 70 then some (.aload_n 1, 0, 0, 0, 0) else none) else (if pc = 71 then some (.iload 7, 0, 0, 0, 0) else none))))) else (if pc < 85 then (if pc < 78 then (if pc < 75 then (if pc = 73 then some (.iload 8, 0, 0, 0, 0) else none) else (if pc < 76 then (if pc = 75 then some (.iconst 1, 1, 0, 0, 0) else none) else (if pc = 76 then some (.iload 5, 0, 0, 0, 0) else none))) else (if pc < 79 then (if pc = 78 then some (.ishl, 0, 0, 0, 0) else none) else (if pc < 82 then (if pc = 79 then some (.invokevirtual 67, 0, 66, 1065, 33152) else none) else (if pc = 82 then some (.ifCond .eq 88, 0, 0, 0, 0) else none)))) else (if pc < 94 then (if pc < 88 then (if pc = 85 then some (.iinc 3 (1), 0, 0, 0, 0) else none) else (if pc < 91 then (if pc = 88 then some (.iinc 6 (1), 0, 0, 0, 0) else none) else (if pc = 91 then some (.goto 26, 0, 0, 0, 0) else none))) else (if pc < 100 then (if pc < 97 then (if pc = 94 then some (.iinc 4 (1), 0, 0, 0, 0) else none) else (if pc = 97 then some (.goto 5, 0, 0, 0, 0) else none)) else (if pc < 101 then (if pc = 100 then some (.iload_n 3, 0, 0, 0, 0) else none) else (if pc = 101 then some (.ireturn, 0, 0, 0, 0) else none))))))
def hm_i81 (pc : Nat) : Option hm_Row := if pc < 102 then hm_j81 pc else none
/-- CurvekeyHouse$Cells.deepestLeaf(I)I -/
def hm_j82 (pc : Nat) : Option hm_Row := if pc < 24 then (if pc < 9 then (if pc < 3 then (if pc < 1 then (if pc = 0 then some (.iconst 0, 1, 0, 0, 0) else none) else (if pc < 2 then (if pc = 1 then some (.istore_n 2, 0, 0, 0, 0) else none) else (if pc = 2 then some (.iconst 0, 1, 0, 0, 0) else none))) else (if pc < 5 then (if pc < 4 then (if pc = 3 then some (.istore_n 3, 0, 0, 0, 0) else none) else (if pc = 4 then some (.iload_n 3, 0, 0, 0, 0) else none)) else (if pc < 6 then (if pc = 5 then some (.aload_n 0, 0, 0, 0, 0) else none) else (if pc = 6 then some (.getfield 65, 0, 23, 297, 0) else none)))) else (if pc < 15 then (if pc < 12 then (if pc = 9 then some (.if_icmp .gt 49, 0, 0, 0, 0) else none) else (if pc < 13 then (if pc = 12 then some (.iconst 0, 1, 0, 0, 0) else none) else (if pc = 13 then some (.istore 4, 0, 0, 0, 0) else none))) else (if pc < 18 then (if pc < 17 then (if pc = 15 then some (.iload 4, 0, 0, 0, 0) else none) else (if pc = 17 then some (.iload_n 3, 0, 0, 0, 0) else none)) else (if pc < 21 then (if pc = 18 then some (.invokestatic 72, 0, 34, 726, 8321) else none) else (if pc = 21 then some (.if_icmp .ge 43, 0, 0, 0, 0) else none))))) else (if pc < 36 then (if pc < 28 then (if pc < 25 then (if pc = 24 then some (.aload_n 0, 0, 0, 0, 0) else none) else (if pc < 26 then (if pc = 25 then some (.iload_n 3, 0, 0, 0, 0) else none) else (if pc = 26 then some (.iload 4, 0, 0, 0, 0) else none))) else (if pc < 32 then (if pc < 29 then (if pc = 28 then some (.iload_n 1, 0, 0, 0, 0) else none) else (if pc = 29 then some (.invokevirtual 78, 0, 62, 1057, 41345) else none)) else (if pc < 35 then (if pc = 32 then some (.ifCond .eq 37, 0, 0, 0, 0) else none) else (if pc = 35 then some (.iload_n 3, 0, 0, 0, 0) else none)))) else (if pc < 43 then (if pc < 37 then (if pc = 36 then some (.istore_n 2, 0, 0, 0, 0) else none) else (if pc < 40 then (if pc = 37 then some (.iinc 4 (1), 0, 0, 0, 0) else none) else (if pc = 40 then some (.goto 15, 0, 0, 0, 0) else none))) else (if pc < 49 then (if pc < 46 then (if pc = 43 then some (.iinc 3 (1), 0, 0, 0, 0) else none) else (if pc = 46 then some (.goto 4, 0, 0, 0, 0) else none)) else (if pc < 50 then (if pc = 49 then some (.iload_n 2, 0, 0, 0, 0) else none) else (if pc = 50 then some (.ireturn, 0, 0, 0, 0) else none)))))
def hm_i82 (pc : Nat) : Option hm_Row := if pc < 51 then hm_j82 pc else none
/-- CurvekeyHouse$Cells.emptyLeaves(I)I -/
def hm_j83 (pc : Nat) : Option hm_Row := if pc < 26 then (if pc < 12 then (if pc < 4 then (if pc < 2 then (if pc < 1 then (if pc = 0 then some (.iconst 0, 1, 0, 0, 0) else none) else (if pc = 1 then some (.istore_n 2, 0, 0, 0, 0) else none)) else (if pc < 3 then (if pc = 2 then some (.iconst 0, 1, 0, 0, 0) else none) else (if pc = 3 then some (.istore_n 3, 0, 0, 0, 0) else none))) else (if pc < 6 then (if pc < 5 then (if pc = 4 then some (.iload_n 3, 0, 0, 0, 0) else none) else (if pc = 5 then some (.aload_n 0, 0, 0, 0, 0) else none)) else (if pc < 9 then (if pc = 6 then some (.getfield 65, 0, 23, 297, 0) else none) else (if pc = 9 then some (.if_icmp .gt 60, 0, 0, 0, 0) else none)))) else (if pc < 18 then (if pc < 15 then (if pc < 13 then (if pc = 12 then some (.iconst 0, 1, 0, 0, 0) else none) else (if pc = 13 then some (.istore 4, 0, 0, 0, 0) else none)) else (if pc < 17 then (if pc = 15 then some (.iload 4, 0, 0, 0, 0) else none) else (if pc = 17 then some (.iload_n 3, 0, 0, 0, 0) else none))) else (if pc < 24 then (if pc < 21 then (if pc = 18 then some (.invokestatic 72, 0, 34, 726, 8321) else none) else (if pc = 21 then some (.if_icmp .ge 54, 0, 0, 0, 0) else none)) else (if pc < 25 then (if pc = 24 then some (.aload_n 0, 0, 0, 0, 0) else none) else (if pc = 25 then some (.iload_n 3, 0, 0, 0, 0) else none))))) else (if pc < 42 then (if pc < 35 then (if pc < 29 then (if pc < 28 then (if pc = 26 then some (.iload 4, 0, 0, 0, 0) else none) else (if pc = 28 then some (.iload_n 1, 0, 0, 0, 0) else none)) else (if pc < 32 then (if pc = 29 then some (.invokevirtual 78, 0, 62, 1057, 41345) else none) else (if pc = 32 then some (.ifCond .eq 48, 0, 0, 0, 0) else none))) else (if pc < 37 then (if pc < 36 then (if pc = 35 then some (.aload_n 0, 0, 0, 0, 0) else none) else (if pc = 36 then some (.iload_n 3, 0, 0, 0, 0) else none)) else (if pc < 39 then (if pc = 37 then some (.iload 4, 0, 0, 0, 0) else none) else (if pc = 39 then some (.invokevirtual 75, 0, 53, 1064, 24833) else none)))) else (if pc < 54 then (if pc < 48 then (if pc < 45 then (if pc = 42 then some (.ifCond .ne 48, 0, 0, 0, 0) else none) else (if pc = 45 then some (.iinc 2 (1), 0, 0, 0, 0) else none)) else (if pc < 51 then (if pc = 48 then some (.iinc 4 (1), 0, 0, 0, 0) else none) else (if pc = 51 then some (.goto 15, 0, 0, 0, 0) else none))) else (if pc < 60 then (if pc < 57 then (if pc = 54 then some (.iinc 3 (1), 0, 0, 0, 0) else none) else (if pc = 57 then some (.goto 4, 0, 0, 0, 0) else none)) else (if pc < 61 then (if pc = 60 then some (.iload_n 2, 0, 0, 0, 0) else none) else (if pc = 61 then some (.ireturn, 0, 0, 0, 0) else none)))))
def hm_i83 (pc : Nat) : Option hm_Row := if pc < 62 then hm_j83 pc else none
/-- CurvekeyHouse$Curves.<init>(I)V -/
def hm_j84 (pc : Nat) : Option hm_Row := if pc < 62 then (if pc < 30 then (if pc < 14 then (if pc < 5 then (if pc < 1 then (if pc = 0 then some (.aload_n 0, 0, 0, 0, 0) else none) else (if pc < 4 then (if pc = 1 then some (.invokespecial 1000, 0, 3, 77, 0) else none) else (if pc = 4 then some (.aload_n 0, 0, 0, 0, 0) else none))) else (if pc < 9 then (if pc < 8 then (if pc = 5 then some (.new 8, 0, 9, 78, 0) else none) else (if pc = 8 then some (.dup, 0, 0, 0, 0) else none)) else (if pc < 11 then (if pc = 9 then some (.iconst (16), 2, 0, 0, 0) else none) else (if pc = 11 then some (.invokespecial 177, 0, 11, 80, 16520) else none)))) else (if pc < 21 then (if pc < 17 then (if pc = 14 then some (.putfield 128, 0, 14, 153, 0) else none) else (if pc < 18 then (if pc = 17 then some (.aload_n 0, 0, 0, 0, 0) else none) else (if pc = 18 then some (.new 8, 0, 9, 78, 0) else none))) else (if pc < 24 then (if pc < 22 then (if pc = 21 then some (.dup, 0, 0, 0, 0) else none) else (if pc = 22 then some (.iconst (16), 2, 0, 0, 0) else none)) else (if pc < 27 then (if pc = 24 then some (.invokespecial 177, 0, 11, 80, 16520) else none) else (if pc = 27 then some (.putfield 129, 0, 20, 154, 0) else none))))) else (if pc < 45 then (if pc < 35 then (if pc < 31 then (if pc = 30 then some (.aload_n 0, 0, 0, 0, 0) else none) else (if pc < 34 then (if pc = 31 then some (.new 8, 0, 9, 78, 0) else none) else (if pc = 34 then some (.dup, 0, 0, 0, 0) else none))) else (if pc < 41 then (if pc < 38 then (if pc = 35 then some (.iconst (6144), 3, 0, 0, 0) else none) else (if pc = 38 then some (.invokespecial 177, 0, 11, 80, 16520) else none)) else (if pc < 44 then (if pc = 41 then some (.putfield 130, 0, 23, 155, 0) else none) else (if pc = 44 then some (.aload_n 0, 0, 0, 0, 0) else none)))) else (if pc < 52 then (if pc < 48 then (if pc = 45 then some (.new 8, 0, 9, 78, 0) else none) else (if pc < 49 then (if pc = 48 then some (.dup, 0, 0, 0, 0) else none) else (if pc = 49 then some (.iconst (6144), 3, 0, 0, 0) else none))) else (if pc < 58 then (if pc < 55 then (if pc = 52 then some (.invokespecial 177, 0, 11, 80, 16520) else none) else (if pc = 55 then some (.putfield 131, 0, 26, 156, 0) else none)) else (if pc < 59 then (if pc = 58 then some (.aload_n 0, 0, 0, 0, 0) else none) else (if pc = 59 then some (.new 8, 0, 9, 78, 0) else none)))))) else (if pc < 85 then (if pc < 74 then (if pc < 68 then (if pc < 63 then (if pc = 62 then some (.dup, 0, 0, 0, 0) else none) else (if pc < 65 then (if pc = 63 then some (.iconst (24), 2, 0, 0, 0) else none) else (if pc = 65 then some (.invokespecial 177, 0, 11, 80, 16520) else none))) else (if pc < 72 then (if pc < 71 then (if pc = 68 then some (.putfield 132, 0, 29, 157, 0) else none) else (if pc = 71 then some (.iconst 0, 1, 0, 0, 0) else none)) else (if pc < 73 then (if pc = 72 then some (.istore_n 2, 0, 0, 0, 0) else none) else (if pc = 73 then some (.iload_n 2, 0, 0, 0, 0) else none)))) else (if pc < 81 then (if pc < 77 then (if pc = 74 then some (.getstatic 0, 0, 32, 89, 0) else none) else (if pc < 78 then (if pc = 77 then some (.arraylength, 0, 0, 0, 0) else none) else (if pc = 78 then some (.if_icmp .ge 104, 0, 0, 0, 0) else none))) else (if pc < 83 then (if pc < 82 then (if pc = 81 then some (.aload_n 0, 0, 0, 0, 0) else none) else (if pc = 82 then some (.iconst 2, 1, 0, 0, 0) else none)) else (if pc < 84 then (if pc = 83 then some (.iload_n 2, 0, 0, 0, 0) else none) else (if pc = 84 then some (.iconst 4, 1, 0, 0, 0) else none))))) else (if pc < 94 then (if pc < 88 then (if pc < 86 then (if pc = 85 then some (.idiv, 0, 0, 0, 0) else none) else (if pc < 87 then (if pc = 86 then some (.iadd, 0, 0, 0, 0) else none) else (if pc = 87 then some (.iload_n 2, 0, 0, 0, 0) else none))) else (if pc < 90 then (if pc < 89 then (if pc = 88 then some (.iconst 4, 1, 0, 0, 0) else none) else (if pc = 89 then some (.irem, 0, 0, 0, 0) else none)) else (if pc < 93 then (if pc = 90 then some (.getstatic 0, 0, 32, 89, 0) else none) else (if pc = 93 then some (.iload_n 2, 0, 0, 0, 0) else none)))) else (if pc < 104 then (if pc < 98 then (if pc < 95 then (if pc = 94 then some (.iaload, 0, 0, 0, 0) else none) else (if pc = 95 then some (.invokevirtual 93, 0, 36, 91, 41346) else none)) else (if pc < 101 then (if pc = 98 then some (.iinc 2 (1), 0, 0, 0, 0) else none) else (if pc = 101 then some (.goto 73, 0, 0, 0, 0) else none))) else (if pc < 106 then (if pc < 105 then (if pc = 104 then some (.aload_n 0, 0, 0, 0, 0) else none) else (if pc = 105 then some (.iload_n 1, 0, 0, 0, 0) else none)) else (if pc < 109 then (if pc = 106 then some (.invokevirtual 92, 0, 40, 99, 24706) else none) else (if pc = 109 then some (.return_, 0, 0, 0, 0) else none))))))
def hm_i84 (pc : Nat) : Option hm_Row := if pc < 110 then hm_j84 pc else none
/-- CurvekeyHouse$Curves.order()I -/
def hm_j85 (pc : Nat) : Option hm_Row := if pc < 1 then (if pc = 0 then some (.aload_n 0, 0, 0, 0, 0) else none) else (if pc < 4 then (if pc = 1 then some (.getfield 133, 0, 43, 158, 0) else none) else (if pc = 4 then some (.ireturn, 0, 0, 0, 0) else none))
def hm_i85 (pc : Nat) : Option hm_Row := if pc < 5 then hm_j85 pc else none
/-- CurvekeyHouse$Curves.side()I -/
def hm_j86 (pc : Nat) : Option hm_Row := if pc < 1 then (if pc = 0 then some (.aload_n 0, 0, 0, 0, 0) else none) else (if pc < 4 then (if pc = 1 then some (.getfield 134, 0, 47, 159, 0) else none) else (if pc = 4 then some (.ireturn, 0, 0, 0, 0) else none))
def hm_i86 (pc : Nat) : Option hm_Row := if pc < 5 then hm_j86 pc else none
/-- CurvekeyHouse$Curves.keyCount()I -/
def hm_j87 (pc : Nat) : Option hm_Row := if pc < 5 then (if pc < 1 then (if pc = 0 then some (.aload_n 0, 0, 0, 0, 0) else none) else (if pc < 4 then (if pc = 1 then some (.getfield 134, 0, 47, 159, 0) else none) else (if pc = 4 then some (.aload_n 0, 0, 0, 0, 0) else none))) else (if pc < 8 then (if pc = 5 then some (.getfield 134, 0, 47, 159, 0) else none) else (if pc < 9 then (if pc = 8 then some (.imul, 0, 0, 0, 0) else none) else (if pc = 9 then some (.ireturn, 0, 0, 0, 0) else none)))
def hm_i87 (pc : Nat) : Option hm_Row := if pc < 10 then hm_j87 pc else none
/-- CurvekeyHouse$Curves.keyOf(III)I -/
def hm_j88 (pc : Nat) : Option hm_Row := if pc < 11 then (if pc < 5 then (if pc < 1 then (if pc = 0 then some (.aload_n 0, 0, 0, 0, 0) else none) else (if pc < 4 then (if pc = 1 then some (.getfield 130, 0, 23, 155, 0) else none) else (if pc = 4 then some (.iload_n 1, 0, 0, 0, 0) else none))) else (if pc < 9 then (if pc < 8 then (if pc = 5 then some (.iconst (1024), 3, 0, 0, 0) else none) else (if pc = 8 then some (.imul, 0, 0, 0, 0) else none)) else (if pc < 10 then (if pc = 9 then some (.iload_n 3, 0, 0, 0, 0) else none) else (if pc = 10 then some (.aload_n 0, 0, 0, 0, 0) else none)))) else (if pc < 16 then (if pc < 14 then (if pc = 11 then some (.getfield 134, 0, 47, 159, 0) else none) else (if pc < 15 then (if pc = 14 then some (.imul, 0, 0, 0, 0) else none) else (if pc = 15 then some (.iadd, 0, 0, 0, 0) else none))) else (if pc < 18 then (if pc < 17 then (if pc = 16 then some (.iload_n 2, 0, 0, 0, 0) else none) else (if pc = 17 then some (.iadd, 0, 0, 0, 0) else none)) else (if pc < 21 then (if pc = 18 then some (.invokevirtual 178, 0, 50, 115, 16520) else none) else (if pc = 21 then some (.ireturn, 0, 0, 0, 0) else none))))
def hm_i88 (pc : Nat) : Option hm_Row := if pc < 22 then hm_j88 pc else none
/-- CurvekeyHouse$Curves.xOf(II)I -/
def hm_j89 (pc : Nat) : Option hm_Row := if pc < 11 then (if pc < 5 then (if pc < 1 then (if pc = 0 then some (.aload_n 0, 0, 0, 0, 0) else none) else (if pc < 4 then (if pc = 1 then some (.getfield 131, 0, 26, 156, 0) else none) else (if pc = 4 then some (.iload_n 1, 0, 0, 0, 0) else none))) else (if pc < 9 then (if pc < 8 then (if pc = 5 then some (.iconst (1024), 3, 0, 0, 0) else none) else (if pc = 8 then some (.imul, 0, 0, 0, 0) else none)) else (if pc < 10 then (if pc = 9 then some (.iload_n 2, 0, 0, 0, 0) else none) else (if pc = 10 then some (.iadd, 0, 0, 0, 0) else none)))) else (if pc < 18 then (if pc < 14 then (if pc = 11 then some (.invokevirtual 178, 0, 50, 115, 16520) else none) else (if pc < 15 then (if pc = 14 then some (.aload_n 0, 0, 0, 0, 0) else none) else (if pc = 15 then some (.getfield 134, 0, 47, 159, 0) else none))) else (if pc < 20 then (if pc < 19 then (if pc = 18 then some (.iconst 1, 1, 0, 0, 0) else none) else (if pc = 19 then some (.isub, 0, 0, 0, 0) else none)) else (if pc < 21 then (if pc = 20 then some (.iand, 0, 0, 0, 0) else none) else (if pc = 21 then some (.ireturn, 0, 0, 0, 0) else none))))
def hm_i89 (pc : Nat) : Option hm_Row := if pc < 22 then hm_j89 pc else none
/-- CurvekeyHouse$Curves.yOf(II)I -/
def hm_j90 (pc : Nat) : Option hm_Row := if pc < 10 then (if pc < 5 then (if pc < 1 then (if pc = 0 then some (.aload_n 0, 0, 0, 0, 0) else none) else (if pc < 4 then (if pc = 1 then some (.getfield 131, 0, 26, 156, 0) else none) else (if pc = 4 then some (.iload_n 1, 0, 0, 0, 0) else none))) else (if pc < 8 then (if pc = 5 then some (.iconst (1024), 3, 0, 0, 0) else none) else (if pc < 9 then (if pc = 8 then some (.imul, 0, 0, 0, 0) else none) else (if pc = 9 then some (.iload_n 2, 0, 0, 0, 0) else none)))) else (if pc < 15 then (if pc < 11 then (if pc = 10 then some (.iadd, 0, 0, 0, 0) else none) else (if pc < 14 then (if pc = 11 then some (.invokevirtual 178, 0, 50, 115, 16520) else none) else (if pc = 14 then some (.aload_n 0, 0, 0, 0, 0) else none))) else (if pc < 18 then (if pc = 15 then some (.getfield 133, 0, 43, 158, 0) else none) else (if pc < 19 then (if pc = 18 then some (.ishr, 0, 0, 0, 0) else none) else (if pc = 19 then some (.ireturn, 0, 0, 0, 0) else none))))
def hm_i90 (pc : Nat) : Option hm_Row := if pc < 20 then hm_j90 pc else none
/-- CurvekeyHouse$Curves.factOf(II)I -/
def hm_j91 (pc : Nat) : Option hm_Row := if pc < 6 then (if pc < 4 then (if pc < 1 then (if pc = 0 then some (.aload_n 0, 0, 0, 0, 0) else none) else (if pc = 1 then some (.getfield 132, 0, 29, 157, 0) else none)) else (if pc < 5 then (if pc = 4 then some (.iload_n 1, 0, 0, 0, 0) else none) else (if pc = 5 then some (.iconst 4, 1, 0, 0, 0) else none))) else (if pc < 8 then (if pc < 7 then (if pc = 6 then some (.imul, 0, 0, 0, 0) else none) else (if pc = 7 then some (.iload_n 2, 0, 0, 0, 0) else none)) else (if pc < 9 then (if pc = 8 then some (.iadd, 0, 0, 0, 0) else none) else (if pc < 12 then (if pc = 9 then some (.invokevirtual 178, 0, 50, 115, 16520) else none) else (if pc = 12 then some (.ireturn, 0, 0, 0, 0) else none))))
def hm_i91 (pc : Nat) : Option hm_Row := if pc < 13 then hm_j91 pc else none
/-- CurvekeyHouse$Curves.resize(I)V -/
def hm_j92 (pc : Nat) : Option hm_Row := if pc < 18 then (if pc < 10 then (if pc < 5 then (if pc < 1 then (if pc = 0 then some (.iload_n 1, 0, 0, 0, 0) else none) else (if pc < 2 then (if pc = 1 then some (.aload_n 0, 0, 0, 0, 0) else none) else (if pc = 2 then some (.getfield 133, 0, 43, 158, 0) else none))) else (if pc < 8 then (if pc = 5 then some (.if_icmp .ne 9, 0, 0, 0, 0) else none) else (if pc < 9 then (if pc = 8 then some (.return_, 0, 0, 0, 0) else none) else (if pc = 9 then some (.aload_n 0, 0, 0, 0, 0) else none)))) else (if pc < 15 then (if pc < 11 then (if pc = 10 then some (.iload_n 1, 0, 0, 0, 0) else none) else (if pc < 14 then (if pc = 11 then some (.putfield 133, 0, 43, 158, 0) else none) else (if pc = 14 then some (.aload_n 0, 0, 0, 0, 0) else none))) else (if pc < 16 then (if pc = 15 then some (.iconst 1, 1, 0, 0, 0) else none) else (if pc < 17 then (if pc = 16 then some (.iload_n 1, 0, 0, 0, 0) else none) else (if pc = 17 then some (.ishl, 0, 0, 0, 0) else none))))) else (if pc < 29 then (if pc < 23 then (if pc < 21 then (if pc = 18 then some (.putfield 134, 0, 47, 159, 0) else none) else (if pc < 22 then (if pc = 21 then some (.iconst 0, 1, 0, 0, 0) else none) else (if pc = 22 then some (.istore_n 2, 0, 0, 0, 0) else none))) else (if pc < 24 then (if pc = 23 then some (.iload_n 2, 0, 0, 0, 0) else none) else (if pc < 26 then (if pc = 24 then some (.iconst (6), 2, 0, 0, 0) else none) else (if pc = 26 then some (.if_icmp .ge 40, 0, 0, 0, 0) else none)))) else (if pc < 34 then (if pc < 30 then (if pc = 29 then some (.aload_n 0, 0, 0, 0, 0) else none) else (if pc < 31 then (if pc = 30 then some (.iload_n 2, 0, 0, 0, 0) else none) else (if pc = 31 then some (.invokevirtual 94, 0, 54, 103, 49282) else none))) else (if pc < 37 then (if pc = 34 then some (.iinc 2 (1), 0, 0, 0, 0) else none) else (if pc < 40 then (if pc = 37 then some (.goto 23, 0, 0, 0, 0) else none) else (if pc = 40 then some (.return_, 0, 0, 0, 0) else none)))))
def hm_i92 (pc : Nat) : Option hm_Row := if pc < 41 then hm_j92 pc else none
/-- CurvekeyHouse$Curves.enterStep(III)V -/
def hm_j93 (pc : Nat) : Option hm_Row := if pc < 12 then (if pc < 5 then (if pc < 2 then (if pc < 1 then (if pc = 0 then some (.iconst 4, 1, 0, 0, 0) else none) else (if pc = 1 then some (.iload_n 1, 0, 0, 0, 0) else none)) else (if pc < 3 then (if pc = 2 then some (.iconst 2, 1, 0, 0, 0) else none) else (if pc < 4 then (if pc = 3 then some (.isub, 0, 0, 0, 0) else none) else (if pc = 4 then some (.imul, 0, 0, 0, 0) else none)))) else (if pc < 8 then (if pc < 6 then (if pc = 5 then some (.iload_n 3, 0, 0, 0, 0) else none) else (if pc < 7 then (if pc = 6 then some (.iconst 3, 1, 0, 0, 0) else none) else (if pc = 7 then some (.ishr, 0, 0, 0, 0) else none))) else (if pc < 9 then (if pc = 8 then some (.iadd, 0, 0, 0, 0) else none) else (if pc < 11 then (if pc = 9 then some (.istore 4, 0, 0, 0, 0) else none) else (if pc = 11 then some (.aload_n 0, 0, 0, 0, 0) else none))))) else (if pc < 25 then (if pc < 18 then (if pc < 15 then (if pc = 12 then some (.getfield 128, 0, 14, 153, 0) else none) else (if pc < 17 then (if pc = 15 then some (.iload 4, 0, 0, 0, 0) else none) else (if pc = 17 then some (.iload_n 2, 0, 0, 0, 0) else none))) else (if pc < 21 then (if pc = 18 then some (.invokevirtual 179, 0, 57, 95, 24840) else none) else (if pc < 22 then (if pc = 21 then some (.aload_n 0, 0, 0, 0, 0) else none) else (if pc = 22 then some (.getfield 129, 0, 20, 154, 0) else none)))) else (if pc < 30 then (if pc < 27 then (if pc = 25 then some (.iload 4, 0, 0, 0, 0) else none) else (if pc < 28 then (if pc = 27 then some (.iload_n 3, 0, 0, 0, 0) else none) else (if pc = 28 then some (.iconst (7), 2, 0, 0, 0) else none))) else (if pc < 31 then (if pc = 30 then some (.iand, 0, 0, 0, 0) else none) else (if pc < 34 then (if pc = 31 then some (.invokevirtual 179, 0, 57, 95, 24840) else none) else (if pc = 34 then some (.return_, 0, 0, 0, 0) else none)))))
def hm_i93 (pc : Nat) : Option hm_Row := if pc < 35 then hm_j93 pc else none
/-- CurvekeyHouse$Curves.walk(I)V -/
def hm_j94 (pc : Nat) : Option hm_Row := if pc < 68 then (if pc < 33 then (if pc < 16 then (if pc < 7 then (if pc < 4 then (if pc < 1 then (if pc = 0 then some (.iload_n 1, 0, 0, 0, 0) else none) else (if pc = 1 then some (.iconst (1024), 3, 0, 0, 0) else none)) else (if pc < 5 then (if pc = 4 then some (.imul, 0, 0, 0, 0) else none) else (if pc < 6 then (if pc = 5 then some (.istore_n 2, 0, 0, 0, 0) else none) else (if pc = 6 then some (.iconst 0, 1, 0, 0, 0) else none)))) else (if pc < 9 then (if pc < 8 then (if pc = 7 then some (.istore_n 3, 0, 0, 0, 0) else none) else (if pc = 8 then some (.iload_n 3, 0, 0, 0, 0) else none)) else (if pc < 10 then (if pc = 9 then some (.aload_n 0, 0, 0, 0, 0) else none) else (if pc < 13 then (if pc = 10 then some (.getfield 134, 0, 47, 159, 0) else none) else (if pc = 13 then some (.if_icmp .ge 90, 0, 0, 0, 0) else none))))) else (if pc < 25 then (if pc < 19 then (if pc < 17 then (if pc = 16 then some (.iconst 0, 1, 0, 0, 0) else none) else (if pc = 17 then some (.istore 4, 0, 0, 0, 0) else none)) else (if pc < 21 then (if pc = 19 then some (.iload 4, 0, 0, 0, 0) else none) else (if pc < 22 then (if pc = 21 then some (.aload_n 0, 0, 0, 0, 0) else none) else (if pc = 22 then some (.getfield 134, 0, 47, 159, 0) else none)))) else (if pc < 29 then (if pc < 28 then (if pc = 25 then some (.if_icmp .ge 84, 0, 0, 0, 0) else none) else (if pc = 28 then some (.aload_n 0, 0, 0, 0, 0) else none)) else (if pc < 30 then (if pc = 29 then some (.iload_n 1, 0, 0, 0, 0) else none) else (if pc < 32 then (if pc = 30 then some (.iload 4, 0, 0, 0, 0) else none) else (if pc = 32 then some (.iload_n 3, 0, 0, 0, 0) else none)))))) else (if pc < 50 then (if pc < 43 then (if pc < 38 then (if pc < 36 then (if pc = 33 then some (.invokevirtual 95, 0, 84, 107, 33154) else none) else (if pc = 36 then some (.istore 5, 0, 0, 0, 0) else none)) else (if pc < 39 then (if pc = 38 then some (.aload_n 0, 0, 0, 0, 0) else none) else (if pc < 42 then (if pc = 39 then some (.getfield 130, 0, 23, 155, 0) else none) else (if pc = 42 then some (.iload_n 2, 0, 0, 0, 0) else none)))) else (if pc < 45 then (if pc < 44 then (if pc = 43 then some (.iload_n 3, 0, 0, 0, 0) else none) else (if pc = 44 then some (.aload_n 0, 0, 0, 0, 0) else none)) else (if pc < 48 then (if pc = 45 then some (.getfield 134, 0, 47, 159, 0) else none) else (if pc < 49 then (if pc = 48 then some (.imul, 0, 0, 0, 0) else none) else (if pc = 49 then some (.iadd, 0, 0, 0, 0) else none))))) else (if pc < 59 then (if pc < 53 then (if pc < 52 then (if pc = 50 then some (.iload 4, 0, 0, 0, 0) else none) else (if pc = 52 then some (.iadd, 0, 0, 0, 0) else none)) else (if pc < 55 then (if pc = 53 then some (.iload 5, 0, 0, 0, 0) else none) else (if pc < 58 then (if pc = 55 then some (.invokevirtual 179, 0, 57, 95, 24840) else none) else (if pc = 58 then some (.aload_n 0, 0, 0, 0, 0) else none)))) else (if pc < 65 then (if pc < 62 then (if pc = 59 then some (.getfield 131, 0, 26, 156, 0) else none) else (if pc < 63 then (if pc = 62 then some (.iload_n 2, 0, 0, 0, 0) else none) else (if pc = 63 then some (.iload 5, 0, 0, 0, 0) else none))) else (if pc < 66 then (if pc = 65 then some (.iadd, 0, 0, 0, 0) else none) else (if pc < 67 then (if pc = 66 then some (.iload_n 3, 0, 0, 0, 0) else none) else (if pc = 67 then some (.aload_n 0, 0, 0, 0, 0) else none))))))) else (if pc < 110 then (if pc < 91 then (if pc < 78 then (if pc < 72 then (if pc < 71 then (if pc = 68 then some (.getfield 134, 0, 47, 159, 0) else none) else (if pc = 71 then some (.imul, 0, 0, 0, 0) else none)) else (if pc < 74 then (if pc = 72 then some (.iload 4, 0, 0, 0, 0) else none) else (if pc < 75 then (if pc = 74 then some (.iadd, 0, 0, 0, 0) else none) else (if pc = 75 then some (.invokevirtual 179, 0, 57, 95, 24840) else none)))) else (if pc < 84 then (if pc < 81 then (if pc = 78 then some (.iinc 4 (1), 0, 0, 0, 0) else none) else (if pc = 81 then some (.goto 19, 0, 0, 0, 0) else none)) else (if pc < 87 then (if pc = 84 then some (.iinc 3 (1), 0, 0, 0, 0) else none) else (if pc < 90 then (if pc = 87 then some (.goto 8, 0, 0, 0, 0) else none) else (if pc = 90 then some (.aload_n 0, 0, 0, 0, 0) else none))))) else (if pc < 98 then (if pc < 95 then (if pc < 94 then (if pc = 91 then some (.getfield 132, 0, 29, 157, 0) else none) else (if pc = 94 then some (.iload_n 1, 0, 0, 0, 0) else none)) else (if pc < 96 then (if pc = 95 then some (.iconst 4, 1, 0, 0, 0) else none) else (if pc < 97 then (if pc = 96 then some (.imul, 0, 0, 0, 0) else none) else (if pc = 97 then some (.aload_n 0, 0, 0, 0, 0) else none)))) else (if pc < 105 then (if pc < 99 then (if pc = 98 then some (.iload_n 1, 0, 0, 0, 0) else none) else (if pc < 102 then (if pc = 99 then some (.invokevirtual 97, 0, 87, 119, 32898) else none) else (if pc = 102 then some (.invokevirtual 179, 0, 57, 95, 24840) else none))) else (if pc < 106 then (if pc = 105 then some (.aload_n 0, 0, 0, 0, 0) else none) else (if pc < 107 then (if pc = 106 then some (.iload_n 1, 0, 0, 0, 0) else none) else (if pc = 107 then some (.invokevirtual 99, 0, 90, 142, 65666) else none)))))) else (if pc < 122 then (if pc < 117 then (if pc < 114 then (if pc < 111 then (if pc = 110 then some (.aload_n 0, 0, 0, 0, 0) else none) else (if pc = 111 then some (.getfield 132, 0, 29, 157, 0) else none)) else (if pc < 115 then (if pc = 114 then some (.iload_n 1, 0, 0, 0, 0) else none) else (if pc < 116 then (if pc = 115 then some (.iconst 4, 1, 0, 0, 0) else none) else (if pc = 116 then some (.imul, 0, 0, 0, 0) else none)))) else (if pc < 119 then (if pc < 118 then (if pc = 117 then some (.iconst 3, 1, 0, 0, 0) else none) else (if pc = 118 then some (.iadd, 0, 0, 0, 0) else none)) else (if pc < 120 then (if pc = 119 then some (.aload_n 0, 0, 0, 0, 0) else none) else (if pc < 121 then (if pc = 120 then some (.iload_n 1, 0, 0, 0, 0) else none) else (if pc = 121 then some (.iconst 0, 1, 0, 0, 0) else none))))) else (if pc < 131 then (if pc < 126 then (if pc < 123 then (if pc = 122 then some (.aload_n 0, 0, 0, 0, 0) else none) else (if pc = 123 then some (.invokevirtual 87, 0, 61, 123, 8194) else none)) else (if pc < 127 then (if pc = 126 then some (.iconst 1, 1, 0, 0, 0) else none) else (if pc < 128 then (if pc = 127 then some (.isub, 0, 0, 0, 0) else none) else (if pc = 128 then some (.invokevirtual 98, 0, 93, 127, 49538) else none)))) else (if pc < 138 then (if pc < 134 then (if pc = 131 then some (.ifCond .eq 138, 0, 0, 0, 0) else none) else (if pc < 135 then (if pc = 134 then some (.iconst 1, 1, 0, 0, 0) else none) else (if pc = 135 then some (.goto 139, 0, 0, 0, 0) else none))) else (if pc < 139 then (if pc = 138 then some (.iconst 0, 1, 0, 0, 0) else none) else (if pc < 142 then (if pc = 139 then some (.invokevirtual 179, 0, 57, 95, 24840) else none) else (if pc = 142 then some (.return_, 0, 0, 0, 0) else none)))))))
def hm_i94 (pc : Nat) : Option hm_Row := if pc < 143 then hm_j94 pc else none
/-- CurvekeyHouse$Curves.reckon(III)I -/
def hm_j95 (pc : Nat) : Option hm_Row := if pc < 26 then (if pc < 13 then (if pc < 6 then (if pc < 4 then (if pc < 1 then (if pc = 0 then some (.iload_n 1, 0, 0, 0, 0) else none) else (if pc = 1 then some (.ifCond .ne 13, 0, 0, 0, 0) else none)) else (if pc < 5 then (if pc = 4 then some (.iload_n 3, 0, 0, 0, 0) else none) else (if pc = 5 then some (.aload_n 0, 0, 0, 0, 0) else none))) else (if pc < 10 then (if pc < 9 then (if pc = 6 then some (.getfield 134, 0, 47, 159, 0) else none) else (if pc = 9 then some (.imul, 0, 0, 0, 0) else none)) else (if pc < 11 then (if pc = 10 then some (.iload_n 2, 0, 0, 0, 0) else none) else (if pc < 12 then (if pc = 11 then some (.iadd, 0, 0, 0, 0) else none) else (if pc = 12 then some (.ireturn, 0, 0, 0, 0) else none))))) else (if pc < 19 then (if pc < 15 then (if pc < 14 then (if pc = 13 then some (.iload_n 1, 0, 0, 0, 0) else none) else (if pc = 14 then some (.iconst 1, 1, 0, 0, 0) else none)) else (if pc < 18 then (if pc = 15 then some (.if_icmp .ne 44, 0, 0, 0, 0) else none) else (if pc = 18 then some (.iload_n 3, 0, 0, 0, 0) else none))) else (if pc < 23 then (if pc < 20 then (if pc = 19 then some (.aload_n 0, 0, 0, 0, 0) else none) else (if pc = 20 then some (.getfield 134, 0, 47, 159, 0) else none)) else (if pc < 24 then (if pc = 23 then some (.imul, 0, 0, 0, 0) else none) else (if pc < 25 then (if pc = 24 then some (.iload_n 3, 0, 0, 0, 0) else none) else (if pc = 25 then some (.iconst 1, 1, 0, 0, 0) else none)))))) else (if pc < 41 then (if pc < 34 then (if pc < 30 then (if pc < 27 then (if pc = 26 then some (.iand, 0, 0, 0, 0) else none) else (if pc = 27 then some (.ifCond .ne 34, 0, 0, 0, 0) else none)) else (if pc < 31 then (if pc = 30 then some (.iload_n 2, 0, 0, 0, 0) else none) else (if pc = 31 then some (.goto 42, 0, 0, 0, 0) else none))) else (if pc < 38 then (if pc < 35 then (if pc = 34 then some (.aload_n 0, 0, 0, 0, 0) else none) else (if pc = 35 then some (.getfield 134, 0, 47, 159, 0) else none)) else (if pc < 39 then (if pc = 38 then some (.iconst 1, 1, 0, 0, 0) else none) else (if pc < 40 then (if pc = 39 then some (.isub, 0, 0, 0, 0) else none) else (if pc = 40 then some (.iload_n 2, 0, 0, 0, 0) else none))))) else (if pc < 45 then (if pc < 43 then (if pc < 42 then (if pc = 41 then some (.isub, 0, 0, 0, 0) else none) else (if pc = 42 then some (.iadd, 0, 0, 0, 0) else none)) else (if pc < 44 then (if pc = 43 then some (.ireturn, 0, 0, 0, 0) else none) else (if pc = 44 then some (.aload_n 0, 0, 0, 0, 0) else none))) else (if pc < 47 then (if pc < 46 then (if pc = 45 then some (.iload_n 1, 0, 0, 0, 0) else none) else (if pc = 46 then some (.iload_n 2, 0, 0, 0, 0) else none)) else (if pc < 48 then (if pc = 47 then some (.iload_n 3, 0, 0, 0, 0) else none) else (if pc < 51 then (if pc = 48 then some (.invokevirtual 96, 0, 97, 111, 115074) else none) else (if pc = 51 then some (.ireturn, 0, 0, 0, 0) else none))))))
def hm_i95 (pc : Nat) : Option hm_Row := if pc < 52 then hm_j95 pc else none
/-- CurvekeyHouse$Curves.fold(III)I -/
def hm_j96 (pc : Nat) : Option hm_Row := if pc < 116 then (if pc < 54 then (if pc < 26 then (if pc < 10 then (if pc < 4 then (if pc < 1 then (if pc = 0 then some (.iconst 0, 1, 0, 0, 0) else none) else (if pc < 3 then (if pc = 1 then some (.istore 4, 0, 0, 0, 0) else none) else (if pc = 3 then some (.iload_n 2, 0, 0, 0, 0) else none))) else (if pc < 7 then (if pc < 6 then (if pc = 4 then some (.istore 5, 0, 0, 0, 0) else none) else (if pc = 6 then some (.iload_n 3, 0, 0, 0, 0) else none)) else (if pc < 9 then (if pc = 7 then some (.istore 6, 0, 0, 0, 0) else none) else (if pc = 9 then some (.aload_n 0, 0, 0, 0, 0) else none)))) else (if pc < 17 then (if pc < 14 then (if pc < 13 then (if pc = 10 then some (.getfield 134, 0, 47, 159, 0) else none) else (if pc = 13 then some (.iconst 2, 1, 0, 0, 0) else none)) else (if pc < 15 then (if pc = 14 then some (.idiv, 0, 0, 0, 0) else none) else (if pc = 15 then some (.istore 7, 0, 0, 0, 0) else none))) else (if pc < 22 then (if pc < 19 then (if pc = 17 then some (.iload 7, 0, 0, 0, 0) else none) else (if pc = 19 then some (.ifCond .le 227, 0, 0, 0, 0) else none)) else (if pc < 24 then (if pc = 22 then some (.iload 5, 0, 0, 0, 0) else none) else (if pc = 24 then some (.iload 7, 0, 0, 0, 0) else none))))) else (if pc < 43 then (if pc < 34 then (if pc < 30 then (if pc < 29 then (if pc = 26 then some (.if_icmp .lt 33, 0, 0, 0, 0) else none) else (if pc = 29 then some (.iconst 1, 1, 0, 0, 0) else none)) else (if pc < 33 then (if pc = 30 then some (.goto 34, 0, 0, 0, 0) else none) else (if pc = 33 then some (.iconst 0, 1, 0, 0, 0) else none))) else (if pc < 38 then (if pc < 36 then (if pc = 34 then some (.istore 8, 0, 0, 0, 0) else none) else (if pc = 36 then some (.iload 6, 0, 0, 0, 0) else none)) else (if pc < 40 then (if pc = 38 then some (.iload 7, 0, 0, 0, 0) else none) else (if pc = 40 then some (.if_icmp .lt 47, 0, 0, 0, 0) else none)))) else (if pc < 50 then (if pc < 47 then (if pc < 44 then (if pc = 43 then some (.iconst 1, 1, 0, 0, 0) else none) else (if pc = 44 then some (.goto 48, 0, 0, 0, 0) else none)) else (if pc < 48 then (if pc = 47 then some (.iconst 0, 1, 0, 0, 0) else none) else (if pc = 48 then some (.istore 9, 0, 0, 0, 0) else none))) else (if pc < 52 then (if pc < 51 then (if pc = 50 then some (.iconst 4, 1, 0, 0, 0) else none) else (if pc = 51 then some (.iload_n 1, 0, 0, 0, 0) else none)) else (if pc < 53 then (if pc = 52 then some (.iconst 2, 1, 0, 0, 0) else none) else (if pc = 53 then some (.isub, 0, 0, 0, 0) else none)))))) else (if pc < 80 then (if pc < 66 then (if pc < 60 then (if pc < 55 then (if pc = 54 then some (.imul, 0, 0, 0, 0) else none) else (if pc < 57 then (if pc = 55 then some (.iload 8, 0, 0, 0, 0) else none) else (if pc = 57 then some (.ifCond .eq 64, 0, 0, 0, 0) else none))) else (if pc < 64 then (if pc < 61 then (if pc = 60 then some (.iconst 1, 1, 0, 0, 0) else none) else (if pc = 61 then some (.goto 65, 0, 0, 0, 0) else none)) else (if pc < 65 then (if pc = 64 then some (.iconst 0, 1, 0, 0, 0) else none) else (if pc = 65 then some (.iadd, 0, 0, 0, 0) else none)))) else (if pc < 75 then (if pc < 71 then (if pc < 68 then (if pc = 66 then some (.iload 9, 0, 0, 0, 0) else none) else (if pc = 68 then some (.ifCond .eq 75, 0, 0, 0, 0) else none)) else (if pc < 72 then (if pc = 71 then some (.iconst 2, 1, 0, 0, 0) else none) else (if pc = 72 then some (.goto 76, 0, 0, 0, 0) else none))) else (if pc < 77 then (if pc < 76 then (if pc = 75 then some (.iconst 0, 1, 0, 0, 0) else none) else (if pc = 76 then some (.iadd, 0, 0, 0, 0) else none)) else (if pc < 79 then (if pc = 77 then some (.istore 10, 0, 0, 0, 0) else none) else (if pc = 79 then some (.aload_n 0, 0, 0, 0, 0) else none))))) else (if pc < 99 then (if pc < 90 then (if pc < 85 then (if pc < 83 then (if pc = 80 then some (.getfield 129, 0, 20, 154, 0) else none) else (if pc = 83 then some (.iload 10, 0, 0, 0, 0) else none)) else (if pc < 88 then (if pc = 85 then some (.invokevirtual 178, 0, 50, 115, 16520) else none) else (if pc = 88 then some (.istore 11, 0, 0, 0, 0) else none))) else (if pc < 95 then (if pc < 92 then (if pc = 90 then some (.iload 8, 0, 0, 0, 0) else none) else (if pc = 92 then some (.ifCond .eq 103, 0, 0, 0, 0) else none)) else (if pc < 97 then (if pc = 95 then some (.iload 5, 0, 0, 0, 0) else none) else (if pc = 97 then some (.iload 7, 0, 0, 0, 0) else none)))) else (if pc < 107 then (if pc < 103 then (if pc < 100 then (if pc = 99 then some (.isub, 0, 0, 0, 0) else none) else (if pc = 100 then some (.goto 105, 0, 0, 0, 0) else none)) else (if pc < 105 then (if pc = 103 then some (.iload 5, 0, 0, 0, 0) else none) else (if pc = 105 then some (.istore 12, 0, 0, 0, 0) else none))) else (if pc < 112 then (if pc < 109 then (if pc = 107 then some (.iload 9, 0, 0, 0, 0) else none) else (if pc = 109 then some (.ifCond .eq 120, 0, 0, 0, 0) else none)) else (if pc < 114 then (if pc = 112 then some (.iload 6, 0, 0, 0, 0) else none) else (if pc = 114 then some (.iload 7, 0, 0, 0, 0) else none))))))) else (if pc < 175 then (if pc < 144 then (if pc < 128 then (if pc < 122 then (if pc < 117 then (if pc = 116 then some (.isub, 0, 0, 0, 0) else none) else (if pc < 120 then (if pc = 117 then some (.goto 122, 0, 0, 0, 0) else none) else (if pc = 120 then some (.iload 6, 0, 0, 0, 0) else none))) else (if pc < 126 then (if pc < 124 then (if pc = 122 then some (.istore 13, 0, 0, 0, 0) else none) else (if pc = 124 then some (.iload 11, 0, 0, 0, 0) else none)) else (if pc < 127 then (if pc = 126 then some (.iconst 1, 1, 0, 0, 0) else none) else (if pc = 127 then some (.iand, 0, 0, 0, 0) else none)))) else (if pc < 138 then (if pc < 133 then (if pc < 131 then (if pc = 128 then some (.ifCond .ne 136, 0, 0, 0, 0) else none) else (if pc = 131 then some (.iload 12, 0, 0, 0, 0) else none)) else (if pc < 136 then (if pc = 133 then some (.goto 138, 0, 0, 0, 0) else none) else (if pc = 136 then some (.iload 13, 0, 0, 0, 0) else none))) else (if pc < 142 then (if pc < 140 then (if pc = 138 then some (.istore 5, 0, 0, 0, 0) else none) else (if pc = 140 then some (.iload 11, 0, 0, 0, 0) else none)) else (if pc < 143 then (if pc = 142 then some (.iconst 1, 1, 0, 0, 0) else none) else (if pc = 143 then some (.iand, 0, 0, 0, 0) else none))))) else (if pc < 160 then (if pc < 154 then (if pc < 149 then (if pc < 147 then (if pc = 144 then some (.ifCond .ne 152, 0, 0, 0, 0) else none) else (if pc = 147 then some (.iload 13, 0, 0, 0, 0) else none)) else (if pc < 152 then (if pc = 149 then some (.goto 154, 0, 0, 0, 0) else none) else (if pc = 152 then some (.iload 12, 0, 0, 0, 0) else none))) else (if pc < 158 then (if pc < 156 then (if pc = 154 then some (.istore 6, 0, 0, 0, 0) else none) else (if pc = 156 then some (.iload 11, 0, 0, 0, 0) else none)) else (if pc < 159 then (if pc = 158 then some (.iconst 2, 1, 0, 0, 0) else none) else (if pc = 159 then some (.iand, 0, 0, 0, 0) else none)))) else (if pc < 170 then (if pc < 165 then (if pc < 163 then (if pc = 160 then some (.ifCond .ne 168, 0, 0, 0, 0) else none) else (if pc = 163 then some (.iload 5, 0, 0, 0, 0) else none)) else (if pc < 168 then (if pc = 165 then some (.goto 175, 0, 0, 0, 0) else none) else (if pc = 168 then some (.iload 7, 0, 0, 0, 0) else none))) else (if pc < 172 then (if pc < 171 then (if pc = 170 then some (.iconst 1, 1, 0, 0, 0) else none) else (if pc = 171 then some (.isub, 0, 0, 0, 0) else none)) else (if pc < 174 then (if pc = 172 then some (.iload 5, 0, 0, 0, 0) else none) else (if pc = 174 then some (.isub, 0, 0, 0, 0) else none)))))) else (if pc < 201 then (if pc < 189 then (if pc < 180 then (if pc < 177 then (if pc = 175 then some (.istore 5, 0, 0, 0, 0) else none) else (if pc < 179 then (if pc = 177 then some (.iload 11, 0, 0, 0, 0) else none) else (if pc = 179 then some (.iconst 4, 1, 0, 0, 0) else none))) else (if pc < 184 then (if pc < 181 then (if pc = 180 then some (.iand, 0, 0, 0, 0) else none) else (if pc = 181 then some (.ifCond .ne 189, 0, 0, 0, 0) else none)) else (if pc < 186 then (if pc = 184 then some (.iload 6, 0, 0, 0, 0) else none) else (if pc = 186 then some (.goto 196, 0, 0, 0, 0) else none)))) else (if pc < 195 then (if pc < 192 then (if pc < 191 then (if pc = 189 then some (.iload 7, 0, 0, 0, 0) else none) else (if pc = 191 then some (.iconst 1, 1, 0, 0, 0) else none)) else (if pc < 193 then (if pc = 192 then some (.isub, 0, 0, 0, 0) else none) else (if pc = 193 then some (.iload 6, 0, 0, 0, 0) else none))) else (if pc < 198 then (if pc < 196 then (if pc = 195 then some (.isub, 0, 0, 0, 0) else none) else (if pc = 196 then some (.istore 6, 0, 0, 0, 0) else none)) else (if pc < 200 then (if pc = 198 then some (.iload 4, 0, 0, 0, 0) else none) else (if pc = 200 then some (.aload_n 0, 0, 0, 0, 0) else none))))) else (if pc < 216 then (if pc < 211 then (if pc < 206 then (if pc < 204 then (if pc = 201 then some (.getfield 128, 0, 14, 153, 0) else none) else (if pc = 204 then some (.iload 10, 0, 0, 0, 0) else none)) else (if pc < 209 then (if pc = 206 then some (.invokevirtual 178, 0, 50, 115, 16520) else none) else (if pc = 209 then some (.iload 7, 0, 0, 0, 0) else none))) else (if pc < 214 then (if pc < 212 then (if pc = 211 then some (.imul, 0, 0, 0, 0) else none) else (if pc = 212 then some (.iload 7, 0, 0, 0, 0) else none)) else (if pc < 215 then (if pc = 214 then some (.imul, 0, 0, 0, 0) else none) else (if pc = 215 then some (.iadd, 0, 0, 0, 0) else none)))) else (if pc < 222 then (if pc < 220 then (if pc < 218 then (if pc = 216 then some (.istore 4, 0, 0, 0, 0) else none) else (if pc = 218 then some (.iload 7, 0, 0, 0, 0) else none)) else (if pc < 221 then (if pc = 220 then some (.iconst 2, 1, 0, 0, 0) else none) else (if pc = 221 then some (.idiv, 0, 0, 0, 0) else none))) else (if pc < 227 then (if pc < 224 then (if pc = 222 then some (.istore 7, 0, 0, 0, 0) else none) else (if pc = 224 then some (.goto 17, 0, 0, 0, 0) else none)) else (if pc < 229 then (if pc = 227 then some (.iload 4, 0, 0, 0, 0) else none) else (if pc = 229 then some (.ireturn, 0, 0, 0, 0) else none)))))))
def hm_i96 (pc : Nat) : Option hm_Row := if pc < 230 then hm_j96 pc else none
/-- CurvekeyHouse$Curves.jumps(I)I -/
def hm_j97 (pc : Nat) : Option hm_Row := if pc < 15 then (if pc < 5 then (if pc < 2 then (if pc < 1 then (if pc = 0 then some (.iconst 0, 1, 0, 0, 0) else none) else (if pc = 1 then some (.istore_n 2, 0, 0, 0, 0) else none)) else (if pc < 3 then (if pc = 2 then some (.iconst 0, 1, 0, 0, 0) else none) else (if pc < 4 then (if pc = 3 then some (.istore_n 3, 0, 0, 0, 0) else none) else (if pc = 4 then some (.iload_n 3, 0, 0, 0, 0) else none)))) else (if pc < 8 then (if pc < 6 then (if pc = 5 then some (.iconst 1, 1, 0, 0, 0) else none) else (if pc < 7 then (if pc = 6 then some (.iadd, 0, 0, 0, 0) else none) else (if pc = 7 then some (.aload_n 0, 0, 0, 0, 0) else none))) else (if pc < 11 then (if pc = 8 then some (.invokevirtual 87, 0, 61, 123, 8194) else none) else (if pc < 14 then (if pc = 11 then some (.if_icmp .ge 35, 0, 0, 0, 0) else none) else (if pc = 14 then some (.aload_n 0, 0, 0, 0, 0) else none))))) else (if pc < 23 then (if pc < 18 then (if pc < 16 then (if pc = 15 then some (.iload_n 1, 0, 0, 0, 0) else none) else (if pc < 17 then (if pc = 16 then some (.iload_n 3, 0, 0, 0, 0) else none) else (if pc = 17 then some (.iload_n 3, 0, 0, 0, 0) else none))) else (if pc < 19 then (if pc = 18 then some (.iconst 1, 1, 0, 0, 0) else none) else (if pc < 20 then (if pc = 19 then some (.iadd, 0, 0, 0, 0) else none) else (if pc = 20 then some (.invokevirtual 98, 0, 93, 127, 49538) else none)))) else (if pc < 32 then (if pc < 26 then (if pc = 23 then some (.ifCond .ne 29, 0, 0, 0, 0) else none) else (if pc < 29 then (if pc = 26 then some (.iinc 2 (1), 0, 0, 0, 0) else none) else (if pc = 29 then some (.iinc 3 (1), 0, 0, 0, 0) else none))) else (if pc < 35 then (if pc = 32 then some (.goto 4, 0, 0, 0, 0) else none) else (if pc < 36 then (if pc = 35 then some (.iload_n 2, 0, 0, 0, 0) else none) else (if pc = 36 then some (.ireturn, 0, 0, 0, 0) else none)))))
def hm_i97 (pc : Nat) : Option hm_Row := if pc < 37 then hm_j97 pc else none
/-- CurvekeyHouse$Curves.isBeside(III)Z -/
def hm_j98 (pc : Nat) : Option hm_Row := if pc < 24 then (if pc < 9 then (if pc < 3 then (if pc < 1 then (if pc = 0 then some (.aload_n 0, 0, 0, 0, 0) else none) else (if pc < 2 then (if pc = 1 then some (.iload_n 1, 0, 0, 0, 0) else none) else (if pc = 2 then some (.iload_n 2, 0, 0, 0, 0) else none))) else (if pc < 7 then (if pc < 6 then (if pc = 3 then some (.invokevirtual 89, 0, 65, 131, 24834) else none) else (if pc = 6 then some (.aload_n 0, 0, 0, 0, 0) else none)) else (if pc < 8 then (if pc = 7 then some (.iload_n 1, 0, 0, 0, 0) else none) else (if pc = 8 then some (.iload_n 3, 0, 0, 0, 0) else none)))) else (if pc < 18 then (if pc < 13 then (if pc < 12 then (if pc = 9 then some (.invokevirtual 89, 0, 65, 131, 24834) else none) else (if pc = 12 then some (.isub, 0, 0, 0, 0) else none)) else (if pc < 16 then (if pc = 13 then some (.invokestatic 1003, 0, 100, 135, 0) else none) else (if pc = 16 then some (.istore 4, 0, 0, 0, 0) else none))) else (if pc < 20 then (if pc < 19 then (if pc = 18 then some (.aload_n 0, 0, 0, 0, 0) else none) else (if pc = 19 then some (.iload_n 1, 0, 0, 0, 0) else none)) else (if pc < 21 then (if pc = 20 then some (.iload_n 2, 0, 0, 0, 0) else none) else (if pc = 21 then some (.invokevirtual 90, 0, 69, 138, 24834) else none))))) else (if pc < 38 then (if pc < 30 then (if pc < 26 then (if pc < 25 then (if pc = 24 then some (.aload_n 0, 0, 0, 0, 0) else none) else (if pc = 25 then some (.iload_n 1, 0, 0, 0, 0) else none)) else (if pc < 27 then (if pc = 26 then some (.iload_n 3, 0, 0, 0, 0) else none) else (if pc = 27 then some (.invokevirtual 90, 0, 69, 138, 24834) else none))) else (if pc < 34 then (if pc < 31 then (if pc = 30 then some (.isub, 0, 0, 0, 0) else none) else (if pc = 31 then some (.invokestatic 1003, 0, 100, 135, 0) else none)) else (if pc < 36 then (if pc = 34 then some (.istore 5, 0, 0, 0, 0) else none) else (if pc = 36 then some (.iload 4, 0, 0, 0, 0) else none)))) else (if pc < 45 then (if pc < 41 then (if pc < 40 then (if pc = 38 then some (.iload 5, 0, 0, 0, 0) else none) else (if pc = 40 then some (.iadd, 0, 0, 0, 0) else none)) else (if pc < 42 then (if pc = 41 then some (.iconst 1, 1, 0, 0, 0) else none) else (if pc = 42 then some (.if_icmp .ne 49, 0, 0, 0, 0) else none))) else (if pc < 49 then (if pc < 46 then (if pc = 45 then some (.iconst 1, 1, 0, 0, 0) else none) else (if pc = 46 then some (.goto 50, 0, 0, 0, 0) else none)) else (if pc < 50 then (if pc = 49 then some (.iconst 0, 1, 0, 0, 0) else none) else (if pc = 50 then some (.ireturn, 0, 1, 0, 0) else none)))))
def hm_i98 (pc : Nat) : Option hm_Row := if pc < 51 then hm_j98 pc else none
/-- CurvekeyHouse$Curves.weighNeighbours(I)V -/
def hm_j99 (pc : Nat) : Option hm_Row := if pc < 84 then (if pc < 41 then (if pc < 19 then (if pc < 7 then (if pc < 3 then (if pc < 1 then (if pc = 0 then some (.iconst 0, 1, 0, 0, 0) else none) else (if pc < 2 then (if pc = 1 then some (.istore_n 2, 0, 0, 0, 0) else none) else (if pc = 2 then some (.iconst 0, 1, 0, 0, 0) else none))) else (if pc < 4 then (if pc = 3 then some (.istore_n 3, 0, 0, 0, 0) else none) else (if pc < 5 then (if pc = 4 then some (.iconst 0, 1, 0, 0, 0) else none) else (if pc = 5 then some (.istore 4, 0, 0, 0, 0) else none)))) else (if pc < 13 then (if pc < 9 then (if pc = 7 then some (.iload 4, 0, 0, 0, 0) else none) else (if pc < 10 then (if pc = 9 then some (.aload_n 0, 0, 0, 0, 0) else none) else (if pc = 10 then some (.getfield 134, 0, 47, 159, 0) else none))) else (if pc < 16 then (if pc = 13 then some (.if_icmp .ge 142, 0, 0, 0, 0) else none) else (if pc < 17 then (if pc = 16 then some (.iconst 0, 1, 0, 0, 0) else none) else (if pc = 17 then some (.istore 5, 0, 0, 0, 0) else none))))) else (if pc < 31 then (if pc < 25 then (if pc < 21 then (if pc = 19 then some (.iload 5, 0, 0, 0, 0) else none) else (if pc < 22 then (if pc = 21 then some (.aload_n 0, 0, 0, 0, 0) else none) else (if pc = 22 then some (.getfield 134, 0, 47, 159, 0) else none))) else (if pc < 28 then (if pc = 25 then some (.if_icmp .ge 136, 0, 0, 0, 0) else none) else (if pc < 30 then (if pc = 28 then some (.iload 5, 0, 0, 0, 0) else none) else (if pc = 30 then some (.iconst 1, 1, 0, 0, 0) else none)))) else (if pc < 36 then (if pc < 32 then (if pc = 31 then some (.iadd, 0, 0, 0, 0) else none) else (if pc < 33 then (if pc = 32 then some (.aload_n 0, 0, 0, 0, 0) else none) else (if pc = 33 then some (.getfield 134, 0, 47, 159, 0) else none))) else (if pc < 39 then (if pc = 36 then some (.if_icmp .ge 66, 0, 0, 0, 0) else none) else (if pc < 40 then (if pc = 39 then some (.aload_n 0, 0, 0, 0, 0) else none) else (if pc = 40 then some (.iload_n 1, 0, 0, 0, 0) else none)))))) else (if pc < 63 then (if pc < 52 then (if pc < 48 then (if pc < 43 then (if pc = 41 then some (.iload 5, 0, 0, 0, 0) else none) else (if pc < 45 then (if pc = 43 then some (.iload 4, 0, 0, 0, 0) else none) else (if pc = 45 then some (.invokevirtual 88, 0, 103, 146, 33154) else none))) else (if pc < 49 then (if pc = 48 then some (.aload_n 0, 0, 0, 0, 0) else none) else (if pc < 50 then (if pc = 49 then some (.iload_n 1, 0, 0, 0, 0) else none) else (if pc = 50 then some (.iload 5, 0, 0, 0, 0) else none)))) else (if pc < 56 then (if pc < 53 then (if pc = 52 then some (.iconst 1, 1, 0, 0, 0) else none) else (if pc < 54 then (if pc = 53 then some (.iadd, 0, 0, 0, 0) else none) else (if pc = 54 then some (.iload 4, 0, 0, 0, 0) else none))) else (if pc < 59 then (if pc = 56 then some (.invokevirtual 88, 0, 103, 146, 33154) else none) else (if pc < 60 then (if pc = 59 then some (.isub, 0, 0, 0, 0) else none) else (if pc = 60 then some (.invokestatic 1003, 0, 100, 135, 0) else none))))) else (if pc < 73 then (if pc < 69 then (if pc < 66 then (if pc = 63 then some (.goto 67, 0, 0, 0, 0) else none) else (if pc < 67 then (if pc = 66 then some (.iconst 0, 1, 0, 0, 0) else none) else (if pc = 67 then some (.istore 6, 0, 0, 0, 0) else none))) else (if pc < 71 then (if pc = 69 then some (.iload 4, 0, 0, 0, 0) else none) else (if pc < 72 then (if pc = 71 then some (.iconst 1, 1, 0, 0, 0) else none) else (if pc = 72 then some (.iadd, 0, 0, 0, 0) else none)))) else (if pc < 80 then (if pc < 74 then (if pc = 73 then some (.aload_n 0, 0, 0, 0, 0) else none) else (if pc < 77 then (if pc = 74 then some (.getfield 134, 0, 47, 159, 0) else none) else (if pc = 77 then some (.if_icmp .ge 107, 0, 0, 0, 0) else none))) else (if pc < 81 then (if pc = 80 then some (.aload_n 0, 0, 0, 0, 0) else none) else (if pc < 82 then (if pc = 81 then some (.iload_n 1, 0, 0, 0, 0) else none) else (if pc = 82 then some (.iload 5, 0, 0, 0, 0) else none))))))) else (if pc < 128 then (if pc < 107 then (if pc < 95 then (if pc < 90 then (if pc < 86 then (if pc = 84 then some (.iload 4, 0, 0, 0, 0) else none) else (if pc < 89 then (if pc = 86 then some (.invokevirtual 88, 0, 103, 146, 33154) else none) else (if pc = 89 then some (.aload_n 0, 0, 0, 0, 0) else none))) else (if pc < 91 then (if pc = 90 then some (.iload_n 1, 0, 0, 0, 0) else none) else (if pc < 93 then (if pc = 91 then some (.iload 5, 0, 0, 0, 0) else none) else (if pc = 93 then some (.iload 4, 0, 0, 0, 0) else none)))) else (if pc < 100 then (if pc < 96 then (if pc = 95 then some (.iconst 1, 1, 0, 0, 0) else none) else (if pc < 97 then (if pc = 96 then some (.iadd, 0, 0, 0, 0) else none) else (if pc = 97 then some (.invokevirtual 88, 0, 103, 146, 33154) else none))) else (if pc < 101 then (if pc = 100 then some (.isub, 0, 0, 0, 0) else none) else (if pc < 104 then (if pc = 101 then some (.invokestatic 1003, 0, 100, 135, 0) else none) else (if pc = 104 then some (.goto 108, 0, 0, 0, 0) else none))))) else (if pc < 118 then (if pc < 111 then (if pc < 108 then (if pc = 107 then some (.iconst 0, 1, 0, 0, 0) else none) else (if pc < 110 then (if pc = 108 then some (.istore 7, 0, 0, 0, 0) else none) else (if pc = 110 then some (.iload_n 2, 0, 0, 0, 0) else none))) else (if pc < 113 then (if pc = 111 then some (.iload 6, 0, 0, 0, 0) else none) else (if pc < 115 then (if pc = 113 then some (.iload 7, 0, 0, 0, 0) else none) else (if pc = 115 then some (.invokestatic 1001, 0, 76, 150, 0) else none)))) else (if pc < 123 then (if pc < 121 then (if pc = 118 then some (.invokestatic 1001, 0, 76, 150, 0) else none) else (if pc < 122 then (if pc = 121 then some (.istore_n 2, 0, 0, 0, 0) else none) else (if pc = 122 then some (.iload_n 3, 0, 0, 0, 0) else none))) else (if pc < 125 then (if pc = 123 then some (.iload 6, 0, 0, 0, 0) else none) else (if pc < 127 then (if pc = 125 then some (.iload 7, 0, 0, 0, 0) else none) else (if pc = 127 then some (.iadd, 0, 0, 0, 0) else none)))))) else (if pc < 150 then (if pc < 142 then (if pc < 133 then (if pc < 129 then (if pc = 128 then some (.iadd, 0, 0, 0, 0) else none) else (if pc < 130 then (if pc = 129 then some (.istore_n 3, 0, 0, 0, 0) else none) else (if pc = 130 then some (.iinc 5 (1), 0, 0, 0, 0) else none))) else (if pc < 136 then (if pc = 133 then some (.goto 19, 0, 0, 0, 0) else none) else (if pc < 139 then (if pc = 136 then some (.iinc 4 (1), 0, 0, 0, 0) else none) else (if pc = 139 then some (.goto 7, 0, 0, 0, 0) else none)))) else (if pc < 147 then (if pc < 143 then (if pc = 142 then some (.aload_n 0, 0, 0, 0, 0) else none) else (if pc < 146 then (if pc = 143 then some (.getfield 132, 0, 29, 157, 0) else none) else (if pc = 146 then some (.iload_n 1, 0, 0, 0, 0) else none))) else (if pc < 148 then (if pc = 147 then some (.iconst 4, 1, 0, 0, 0) else none) else (if pc < 149 then (if pc = 148 then some (.imul, 0, 0, 0, 0) else none) else (if pc = 149 then some (.iconst 1, 1, 0, 0, 0) else none))))) else (if pc < 160 then (if pc < 155 then (if pc < 151 then (if pc = 150 then some (.iadd, 0, 0, 0, 0) else none) else (if pc < 152 then (if pc = 151 then some (.iload_n 2, 0, 0, 0, 0) else none) else (if pc = 152 then some (.invokevirtual 179, 0, 57, 95, 24840) else none))) else (if pc < 156 then (if pc = 155 then some (.aload_n 0, 0, 0, 0, 0) else none) else (if pc < 159 then (if pc = 156 then some (.getfield 132, 0, 29, 157, 0) else none) else (if pc = 159 then some (.iload_n 1, 0, 0, 0, 0) else none)))) else (if pc < 163 then (if pc < 161 then (if pc = 160 then some (.iconst 4, 1, 0, 0, 0) else none) else (if pc < 162 then (if pc = 161 then some (.imul, 0, 0, 0, 0) else none) else (if pc = 162 then some (.iconst 2, 1, 0, 0, 0) else none))) else (if pc < 165 then (if pc < 164 then (if pc = 163 then some (.iadd, 0, 0, 0, 0) else none) else (if pc = 164 then some (.iload_n 3, 0, 0, 0, 0) else none)) else (if pc < 168 then (if pc = 165 then some (.invokevirtual 179, 0, 57, 95, 24840) else none) else (if pc = 168 then some (.return_, 0, 0, 0, 0) else none)))))))
def hm_i99 (pc : Nat) : Option hm_Row := if pc < 169 then hm_j99 pc else none
/-- CurvekeyHouse$Cut.<init>()V -/
def hm_j100 (pc : Nat) : Option hm_Row := if pc < 15 then (if pc < 5 then (if pc < 1 then (if pc = 0 then some (.aload_n 0, 0, 0, 0, 0) else none) else (if pc < 4 then (if pc = 1 then some (.invokespecial 1000, 0, 3, 332, 0) else none) else (if pc = 4 then some (.aload_n 0, 0, 0, 0, 0) else none))) else (if pc < 9 then (if pc < 8 then (if pc = 5 then some (.new 8, 0, 9, 333, 0) else none) else (if pc = 8 then some (.dup, 0, 0, 0, 0) else none)) else (if pc < 12 then (if pc = 9 then some (.iconst (1024), 3, 0, 0, 0) else none) else (if pc = 12 then some (.invokespecial 177, 0, 11, 334, 16520) else none)))) else (if pc < 23 then (if pc < 19 then (if pc < 18 then (if pc = 15 then some (.putfield 192, 0, 14, 335, 0) else none) else (if pc = 18 then some (.aload_n 0, 0, 0, 0, 0) else none)) else (if pc < 22 then (if pc = 19 then some (.new 8, 0, 9, 333, 0) else none) else (if pc = 22 then some (.dup, 0, 0, 0, 0) else none))) else (if pc < 29 then (if pc < 26 then (if pc = 23 then some (.iconst (1024), 3, 0, 0, 0) else none) else (if pc = 26 then some (.invokespecial 177, 0, 11, 334, 16520) else none)) else (if pc < 32 then (if pc = 29 then some (.putfield 193, 0, 20, 336, 0) else none) else (if pc = 32 then some (.return_, 0, 0, 0, 0) else none))))
def hm_i100 (pc : Nat) : Option hm_Row := if pc < 33 then hm_j100 pc else none
/-- CurvekeyHouse$Cut.size()I -/
def hm_j101 (pc : Nat) : Option hm_Row := if pc < 1 then (if pc = 0 then some (.aload_n 0, 0, 0, 0, 0) else none) else (if pc < 4 then (if pc = 1 then some (.getfield 194, 0, 23, 337, 0) else none) else (if pc = 4 then some (.ireturn, 0, 0, 0, 0) else none))
def hm_i101 (pc : Nat) : Option hm_Row := if pc < 5 then hm_j101 pc else none
/-- CurvekeyHouse$Cut.falseKeys()I -/
def hm_j102 (pc : Nat) : Option hm_Row := if pc < 1 then (if pc = 0 then some (.aload_n 0, 0, 0, 0, 0) else none) else (if pc < 4 then (if pc = 1 then some (.getfield 195, 0, 27, 338, 0) else none) else (if pc = 4 then some (.ireturn, 0, 0, 0, 0) else none))
def hm_i102 (pc : Nat) : Option hm_Row := if pc < 5 then hm_j102 pc else none
/-- CurvekeyHouse$Cut.lastBegin()I -/
def hm_j103 (pc : Nat) : Option hm_Row := if pc < 8 then (if pc < 4 then (if pc < 1 then (if pc = 0 then some (.aload_n 0, 0, 0, 0, 0) else none) else (if pc = 1 then some (.getfield 192, 0, 14, 335, 0) else none)) else (if pc < 5 then (if pc = 4 then some (.aload_n 0, 0, 0, 0, 0) else none) else (if pc = 5 then some (.getfield 194, 0, 23, 337, 0) else none))) else (if pc < 10 then (if pc < 9 then (if pc = 8 then some (.iconst 1, 1, 0, 0, 0) else none) else (if pc = 9 then some (.isub, 0, 0, 0, 0) else none)) else (if pc < 13 then (if pc = 10 then some (.invokevirtual 178, 0, 30, 1133, 16520) else none) else (if pc = 13 then some (.ireturn, 0, 0, 0, 0) else none)))
def hm_i103 (pc : Nat) : Option hm_Row := if pc < 14 then hm_j103 pc else none
/-- CurvekeyHouse$Cut.lay(LCurvekeyHouse$Curves;ILCurvekeyHouse$Box;)V -/
def hm_j104 (pc : Nat) : Option hm_Row := if pc < 52 then (if pc < 25 then (if pc < 11 then (if pc < 5 then (if pc < 1 then (if pc = 0 then some (.aload_n 0, 0, 0, 0, 0) else none) else (if pc < 2 then (if pc = 1 then some (.iconst 0, 1, 0, 0, 0) else none) else (if pc = 2 then some (.putfield 194, 0, 23, 337, 0) else none))) else (if pc < 7 then (if pc < 6 then (if pc = 5 then some (.aload_n 0, 0, 0, 0, 0) else none) else (if pc = 6 then some (.iconst 0, 1, 0, 0, 0) else none)) else (if pc < 10 then (if pc = 7 then some (.putfield 195, 0, 27, 338, 0) else none) else (if pc = 10 then some (.iconst 0, 1, 0, 0, 0) else none)))) else (if pc < 16 then (if pc < 13 then (if pc = 11 then some (.istore 4, 0, 0, 0, 0) else none) else (if pc < 14 then (if pc = 13 then some (.iconst 0, 1, 0, 0, 0) else none) else (if pc = 14 then some (.istore 5, 0, 0, 0, 0) else none))) else (if pc < 19 then (if pc < 18 then (if pc = 16 then some (.iload 5, 0, 0, 0, 0) else none) else (if pc = 18 then some (.aload_n 1, 0, 0, 0, 0) else none)) else (if pc < 22 then (if pc = 19 then some (.invokevirtual 87, 0, 34, 1116, 8194) else none) else (if pc = 22 then some (.if_icmp .ge 108, 0, 0, 0, 0) else none))))) else (if pc < 35 then (if pc < 28 then (if pc < 26 then (if pc = 25 then some (.aload_n 3, 0, 0, 0, 0) else none) else (if pc < 27 then (if pc = 26 then some (.aload_n 1, 0, 0, 0, 0) else none) else (if pc = 27 then some (.iload_n 2, 0, 0, 0, 0) else none))) else (if pc < 33 then (if pc < 30 then (if pc = 28 then some (.iload 5, 0, 0, 0, 0) else none) else (if pc = 30 then some (.invokevirtual 89, 0, 40, 1117, 24834) else none)) else (if pc < 34 then (if pc = 33 then some (.aload_n 1, 0, 0, 0, 0) else none) else (if pc = 34 then some (.iload_n 2, 0, 0, 0, 0) else none)))) else (if pc < 43 then (if pc < 37 then (if pc = 35 then some (.iload 5, 0, 0, 0, 0) else none) else (if pc < 40 then (if pc = 37 then some (.invokevirtual 90, 0, 44, 1118, 24834) else none) else (if pc = 40 then some (.invokevirtual 66, 0, 47, 1119, 24832) else none))) else (if pc < 47 then (if pc < 45 then (if pc = 43 then some (.istore 6, 0, 0, 0, 0) else none) else (if pc = 45 then some (.iload 6, 0, 0, 0, 0) else none)) else (if pc < 50 then (if pc = 47 then some (.ifCond .eq 78, 0, 0, 0, 0) else none) else (if pc = 50 then some (.iload 4, 0, 0, 0, 0) else none)))))) else (if pc < 80 then (if pc < 68 then (if pc < 59 then (if pc < 55 then (if pc = 52 then some (.ifCond .ne 78, 0, 0, 0, 0) else none) else (if pc < 56 then (if pc = 55 then some (.aload_n 0, 0, 0, 0, 0) else none) else (if pc = 56 then some (.getfield 192, 0, 14, 335, 0) else none))) else (if pc < 63 then (if pc < 60 then (if pc = 59 then some (.aload_n 0, 0, 0, 0, 0) else none) else (if pc = 60 then some (.getfield 194, 0, 23, 337, 0) else none)) else (if pc < 65 then (if pc = 63 then some (.iload 5, 0, 0, 0, 0) else none) else (if pc = 65 then some (.invokevirtual 179, 0, 53, 1120, 24840) else none)))) else (if pc < 73 then (if pc < 69 then (if pc = 68 then some (.aload_n 0, 0, 0, 0, 0) else none) else (if pc < 70 then (if pc = 69 then some (.dup, 0, 0, 0, 0) else none) else (if pc = 70 then some (.getfield 194, 0, 23, 337, 0) else none))) else (if pc < 75 then (if pc < 74 then (if pc = 73 then some (.iconst 1, 1, 0, 0, 0) else none) else (if pc = 74 then some (.iadd, 0, 0, 0, 0) else none)) else (if pc < 78 then (if pc = 75 then some (.putfield 194, 0, 23, 337, 0) else none) else (if pc = 78 then some (.iload 6, 0, 0, 0, 0) else none))))) else (if pc < 93 then (if pc < 87 then (if pc < 83 then (if pc = 80 then some (.ifCond .eq 98, 0, 0, 0, 0) else none) else (if pc < 84 then (if pc = 83 then some (.aload_n 0, 0, 0, 0, 0) else none) else (if pc = 84 then some (.getfield 193, 0, 20, 336, 0) else none))) else (if pc < 91 then (if pc < 88 then (if pc = 87 then some (.aload_n 0, 0, 0, 0, 0) else none) else (if pc = 88 then some (.getfield 194, 0, 23, 337, 0) else none)) else (if pc < 92 then (if pc = 91 then some (.iconst 1, 1, 0, 0, 0) else none) else (if pc = 92 then some (.isub, 0, 0, 0, 0) else none)))) else (if pc < 100 then (if pc < 95 then (if pc = 93 then some (.iload 5, 0, 0, 0, 0) else none) else (if pc < 98 then (if pc = 95 then some (.invokevirtual 179, 0, 53, 1120, 24840) else none) else (if pc = 98 then some (.iload 6, 0, 0, 0, 0) else none))) else (if pc < 105 then (if pc < 102 then (if pc = 100 then some (.istore 4, 0, 0, 0, 0) else none) else (if pc = 102 then some (.iinc 5 (1), 0, 0, 0, 0) else none)) else (if pc < 108 then (if pc = 105 then some (.goto 16, 0, 0, 0, 0) else none) else (if pc = 108 then some (.return_, 0, 0, 0, 0) else none))))))
def hm_i104 (pc : Nat) : Option hm_Row := if pc < 109 then hm_j104 pc else none
/-- CurvekeyHouse$Cut.joinTo(I)V -/
def hm_j105 (pc : Nat) : Option hm_Row := if pc < 11 then (if pc < 5 then (if pc < 1 then (if pc = 0 then some (.aload_n 0, 0, 0, 0, 0) else none) else (if pc < 4 then (if pc = 1 then some (.getfield 194, 0, 23, 337, 0) else none) else (if pc = 4 then some (.iload_n 1, 0, 0, 0, 0) else none))) else (if pc < 7 then (if pc < 6 then (if pc = 5 then some (.isub, 0, 0, 0, 0) else none) else (if pc = 6 then some (.istore_n 2, 0, 0, 0, 0) else none)) else (if pc < 8 then (if pc = 7 then some (.iload_n 2, 0, 0, 0, 0) else none) else (if pc = 8 then some (.ifCond .le 25, 0, 0, 0, 0) else none)))) else (if pc < 16 then (if pc < 12 then (if pc = 11 then some (.aload_n 0, 0, 0, 0, 0) else none) else (if pc < 13 then (if pc = 12 then some (.aload_n 0, 0, 0, 0, 0) else none) else (if pc = 13 then some (.invokevirtual 107, 0, 57, 1125, 24579) else none))) else (if pc < 22 then (if pc < 19 then (if pc = 16 then some (.invokevirtual 108, 0, 60, 1134, 16515) else none) else (if pc = 19 then some (.iinc 2 (-1), 0, 0, 0, 0) else none)) else (if pc < 25 then (if pc = 22 then some (.goto 7, 0, 0, 0, 0) else none) else (if pc = 25 then some (.return_, 0, 0, 0, 0) else none))))
def hm_i105 (pc : Nat) : Option hm_Row := if pc < 26 then hm_j105 pc else none
/-- CurvekeyHouse$Cut.gapBehind(I)I -/
def hm_j106 (pc : Nat) : Option hm_Row := if pc < 11 then (if pc < 5 then (if pc < 1 then (if pc = 0 then some (.aload_n 0, 0, 0, 0, 0) else none) else (if pc < 4 then (if pc = 1 then some (.getfield 192, 0, 14, 335, 0) else none) else (if pc = 4 then some (.iload_n 1, 0, 0, 0, 0) else none))) else (if pc < 7 then (if pc < 6 then (if pc = 5 then some (.iconst 1, 1, 0, 0, 0) else none) else (if pc = 6 then some (.iadd, 0, 0, 0, 0) else none)) else (if pc < 10 then (if pc = 7 then some (.invokevirtual 178, 0, 30, 1133, 16520) else none) else (if pc = 10 then some (.aload_n 0, 0, 0, 0, 0) else none)))) else (if pc < 18 then (if pc < 14 then (if pc = 11 then some (.getfield 193, 0, 20, 336, 0) else none) else (if pc < 15 then (if pc = 14 then some (.iload_n 1, 0, 0, 0, 0) else none) else (if pc = 15 then some (.invokevirtual 178, 0, 30, 1133, 16520) else none))) else (if pc < 20 then (if pc < 19 then (if pc = 18 then some (.isub, 0, 0, 0, 0) else none) else (if pc = 19 then some (.iconst 1, 1, 0, 0, 0) else none)) else (if pc < 21 then (if pc = 20 then some (.isub, 0, 0, 0, 0) else none) else (if pc = 21 then some (.ireturn, 0, 0, 0, 0) else none))))
def hm_i106 (pc : Nat) : Option hm_Row := if pc < 22 then hm_j106 pc else none
/-- CurvekeyHouse$Cut.closest()I -/
def hm_j107 (pc : Nat) : Option hm_Row := if pc < 15 then (if pc < 5 then (if pc < 2 then (if pc < 1 then (if pc = 0 then some (.iconst 0, 1, 0, 0, 0) else none) else (if pc = 1 then some (.istore_n 1, 0, 0, 0, 0) else none)) else (if pc < 3 then (if pc = 2 then some (.iconst 1, 1, 0, 0, 0) else none) else (if pc < 4 then (if pc = 3 then some (.istore_n 2, 0, 0, 0, 0) else none) else (if pc = 4 then some (.iload_n 2, 0, 0, 0, 0) else none)))) else (if pc < 8 then (if pc < 6 then (if pc = 5 then some (.iconst 1, 1, 0, 0, 0) else none) else (if pc < 7 then (if pc = 6 then some (.iadd, 0, 0, 0, 0) else none) else (if pc = 7 then some (.aload_n 0, 0, 0, 0, 0) else none))) else (if pc < 11 then (if pc = 8 then some (.getfield 194, 0, 23, 337, 0) else none) else (if pc < 14 then (if pc = 11 then some (.if_icmp .ge 35, 0, 0, 0, 0) else none) else (if pc = 14 then some (.aload_n 0, 0, 0, 0, 0) else none))))) else (if pc < 27 then (if pc < 20 then (if pc < 16 then (if pc = 15 then some (.iload_n 2, 0, 0, 0, 0) else none) else (if pc < 19 then (if pc = 16 then some (.invokevirtual 106, 0, 63, 1129, 16515) else none) else (if pc = 19 then some (.aload_n 0, 0, 0, 0, 0) else none))) else (if pc < 21 then (if pc = 20 then some (.iload_n 1, 0, 0, 0, 0) else none) else (if pc < 24 then (if pc = 21 then some (.invokevirtual 106, 0, 63, 1129, 16515) else none) else (if pc = 24 then some (.if_icmp .ge 29, 0, 0, 0, 0) else none)))) else (if pc < 32 then (if pc < 28 then (if pc = 27 then some (.iload_n 2, 0, 0, 0, 0) else none) else (if pc < 29 then (if pc = 28 then some (.istore_n 1, 0, 0, 0, 0) else none) else (if pc = 29 then some (.iinc 2 (1), 0, 0, 0, 0) else none))) else (if pc < 35 then (if pc = 32 then some (.goto 4, 0, 0, 0, 0) else none) else (if pc < 36 then (if pc = 35 then some (.iload_n 1, 0, 0, 0, 0) else none) else (if pc = 36 then some (.ireturn, 0, 0, 0, 0) else none)))))
def hm_i107 (pc : Nat) : Option hm_Row := if pc < 37 then hm_j107 pc else none
/-- CurvekeyHouse$Cut.joinBehind(I)V -/
def hm_j108 (pc : Nat) : Option hm_Row := if pc < 22 then (if pc < 11 then (if pc < 5 then (if pc < 1 then (if pc = 0 then some (.aload_n 0, 0, 0, 0, 0) else none) else (if pc < 2 then (if pc = 1 then some (.dup, 0, 0, 0, 0) else none) else (if pc = 2 then some (.getfield 195, 0, 27, 338, 0) else none))) else (if pc < 7 then (if pc < 6 then (if pc = 5 then some (.aload_n 0, 0, 0, 0, 0) else none) else (if pc = 6 then some (.iload_n 1, 0, 0, 0, 0) else none)) else (if pc < 10 then (if pc = 7 then some (.invokevirtual 106, 0, 63, 1129, 16515) else none) else (if pc = 10 then some (.iadd, 0, 0, 0, 0) else none)))) else (if pc < 18 then (if pc < 14 then (if pc = 11 then some (.putfield 195, 0, 27, 338, 0) else none) else (if pc < 15 then (if pc = 14 then some (.aload_n 0, 0, 0, 0, 0) else none) else (if pc = 15 then some (.getfield 192, 0, 14, 335, 0) else none))) else (if pc < 20 then (if pc < 19 then (if pc = 18 then some (.iload_n 1, 0, 0, 0, 0) else none) else (if pc = 19 then some (.iconst 1, 1, 0, 0, 0) else none)) else (if pc < 21 then (if pc = 20 then some (.iadd, 0, 0, 0, 0) else none) else (if pc = 21 then some (.aload_n 0, 0, 0, 0, 0) else none))))) else (if pc < 37 then (if pc < 29 then (if pc < 25 then (if pc = 22 then some (.getfield 194, 0, 23, 337, 0) else none) else (if pc < 28 then (if pc = 25 then some (.invokevirtual 183, 0, 66, 1138, 33032) else none) else (if pc = 28 then some (.aload_n 0, 0, 0, 0, 0) else none))) else (if pc < 33 then (if pc < 32 then (if pc = 29 then some (.getfield 193, 0, 20, 336, 0) else none) else (if pc = 32 then some (.iload_n 1, 0, 0, 0, 0) else none)) else (if pc < 34 then (if pc = 33 then some (.aload_n 0, 0, 0, 0, 0) else none) else (if pc = 34 then some (.getfield 194, 0, 23, 337, 0) else none)))) else (if pc < 45 then (if pc < 41 then (if pc < 40 then (if pc = 37 then some (.invokevirtual 183, 0, 66, 1138, 33032) else none) else (if pc = 40 then some (.aload_n 0, 0, 0, 0, 0) else none)) else (if pc < 42 then (if pc = 41 then some (.dup, 0, 0, 0, 0) else none) else (if pc = 42 then some (.getfield 194, 0, 23, 337, 0) else none))) else (if pc < 47 then (if pc < 46 then (if pc = 45 then some (.iconst 1, 1, 0, 0, 0) else none) else (if pc = 46 then some (.isub, 0, 0, 0, 0) else none)) else (if pc < 50 then (if pc = 47 then some (.putfield 194, 0, 23, 337, 0) else none) else (if pc = 50 then some (.return_, 0, 0, 0, 0) else none)))))
def hm_i108 (pc : Nat) : Option hm_Row := if pc < 51 then hm_j108 pc else none
/-- CurvekeyHouse$Cut.pagesRead(LCurvekeyHouse$Pages;)I -/
def hm_j109 (pc : Nat) : Option hm_Row := if pc < 35 then (if pc < 16 then (if pc < 5 then (if pc < 2 then (if pc < 1 then (if pc = 0 then some (.iconst 0, 1, 0, 0, 0) else none) else (if pc = 1 then some (.istore_n 2, 0, 0, 0, 0) else none)) else (if pc < 3 then (if pc = 2 then some (.iconst (-1), 1, 0, 0, 0) else none) else (if pc < 4 then (if pc = 3 then some (.istore_n 3, 0, 0, 0, 0) else none) else (if pc = 4 then some (.iconst 0, 1, 0, 0, 0) else none)))) else (if pc < 9 then (if pc < 7 then (if pc = 5 then some (.istore 4, 0, 0, 0, 0) else none) else (if pc = 7 then some (.iload 4, 0, 0, 0, 0) else none)) else (if pc < 10 then (if pc = 9 then some (.aload_n 0, 0, 0, 0, 0) else none) else (if pc < 13 then (if pc = 10 then some (.getfield 194, 0, 23, 337, 0) else none) else (if pc = 13 then some (.if_icmp .ge 66, 0, 0, 0, 0) else none))))) else (if pc < 21 then (if pc < 18 then (if pc < 17 then (if pc = 16 then some (.iload_n 3, 0, 0, 0, 0) else none) else (if pc = 17 then some (.iconst 1, 1, 0, 0, 0) else none)) else (if pc < 19 then (if pc = 18 then some (.iadd, 0, 0, 0, 0) else none) else (if pc < 20 then (if pc = 19 then some (.aload_n 1, 0, 0, 0, 0) else none) else (if pc = 20 then some (.aload_n 0, 0, 0, 0, 0) else none)))) else (if pc < 26 then (if pc < 24 then (if pc = 21 then some (.getfield 192, 0, 14, 335, 0) else none) else (if pc = 24 then some (.iload 4, 0, 0, 0, 0) else none)) else (if pc < 29 then (if pc = 26 then some (.invokevirtual 178, 0, 30, 1133, 16520) else none) else (if pc < 32 then (if pc = 29 then some (.invokevirtual 139, 0, 69, 1151, 32902) else none) else (if pc = 32 then some (.invokestatic 1001, 0, 74, 1152, 0) else none)))))) else (if pc < 53 then (if pc < 44 then (if pc < 38 then (if pc < 37 then (if pc = 35 then some (.istore 5, 0, 0, 0, 0) else none) else (if pc = 37 then some (.aload_n 1, 0, 0, 0, 0) else none)) else (if pc < 39 then (if pc = 38 then some (.aload_n 0, 0, 0, 0, 0) else none) else (if pc < 42 then (if pc = 39 then some (.getfield 193, 0, 20, 336, 0) else none) else (if pc = 42 then some (.iload 4, 0, 0, 0, 0) else none)))) else (if pc < 50 then (if pc < 47 then (if pc = 44 then some (.invokevirtual 178, 0, 30, 1133, 16520) else none) else (if pc = 47 then some (.invokevirtual 139, 0, 69, 1151, 32902) else none)) else (if pc < 51 then (if pc = 50 then some (.istore_n 3, 0, 0, 0, 0) else none) else (if pc < 52 then (if pc = 51 then some (.iload_n 2, 0, 0, 0, 0) else none) else (if pc = 52 then some (.iload_n 3, 0, 0, 0, 0) else none))))) else (if pc < 59 then (if pc < 56 then (if pc < 55 then (if pc = 53 then some (.iload 5, 0, 0, 0, 0) else none) else (if pc = 55 then some (.isub, 0, 0, 0, 0) else none)) else (if pc < 57 then (if pc = 56 then some (.iconst 1, 1, 0, 0, 0) else none) else (if pc < 58 then (if pc = 57 then some (.iadd, 0, 0, 0, 0) else none) else (if pc = 58 then some (.iadd, 0, 0, 0, 0) else none)))) else (if pc < 63 then (if pc < 60 then (if pc = 59 then some (.istore_n 2, 0, 0, 0, 0) else none) else (if pc = 60 then some (.iinc 4 (1), 0, 0, 0, 0) else none)) else (if pc < 66 then (if pc = 63 then some (.goto 7, 0, 0, 0, 0) else none) else (if pc < 67 then (if pc = 66 then some (.iload_n 2, 0, 0, 0, 0) else none) else (if pc = 67 then some (.ireturn, 0, 0, 0, 0) else none))))))
def hm_i109 (pc : Nat) : Option hm_Row := if pc < 68 then hm_j109 pc else none
/-- CurvekeyHouse$History.<init>()V -/
def hm_j110 (pc : Nat) : Option hm_Row := if pc < 57 then (if pc < 26 then (if pc < 12 then (if pc < 5 then (if pc < 1 then (if pc = 0 then some (.aload_n 0, 0, 0, 0, 0) else none) else (if pc < 4 then (if pc = 1 then some (.invokespecial 1000, 0, 3, 210, 0) else none) else (if pc = 4 then some (.aload_n 0, 0, 0, 0, 0) else none))) else (if pc < 8 then (if pc = 5 then some (.new 8, 0, 9, 211, 0) else none) else (if pc < 9 then (if pc = 8 then some (.dup, 0, 0, 0, 0) else none) else (if pc = 9 then some (.iconst (2048), 3, 0, 0, 0) else none)))) else (if pc < 19 then (if pc < 15 then (if pc = 12 then some (.invokespecial 177, 0, 11, 212, 16520) else none) else (if pc < 18 then (if pc = 15 then some (.putfield 256, 0, 14, 213, 0) else none) else (if pc = 18 then some (.aload_n 0, 0, 0, 0, 0) else none))) else (if pc < 22 then (if pc = 19 then some (.new 8, 0, 9, 211, 0) else none) else (if pc < 23 then (if pc = 22 then some (.dup, 0, 0, 0, 0) else none) else (if pc = 23 then some (.iconst (2048), 3, 0, 0, 0) else none))))) else (if pc < 40 then (if pc < 33 then (if pc < 29 then (if pc = 26 then some (.invokespecial 177, 0, 11, 212, 16520) else none) else (if pc < 32 then (if pc = 29 then some (.putfield 257, 0, 20, 214, 0) else none) else (if pc = 32 then some (.aload_n 0, 0, 0, 0, 0) else none))) else (if pc < 36 then (if pc = 33 then some (.new 8, 0, 9, 211, 0) else none) else (if pc < 37 then (if pc = 36 then some (.dup, 0, 0, 0, 0) else none) else (if pc = 37 then some (.iconst (2048), 3, 0, 0, 0) else none)))) else (if pc < 47 then (if pc < 43 then (if pc = 40 then some (.invokespecial 177, 0, 11, 212, 16520) else none) else (if pc < 46 then (if pc = 43 then some (.putfield 258, 0, 23, 215, 0) else none) else (if pc = 46 then some (.aload_n 0, 0, 0, 0, 0) else none))) else (if pc < 51 then (if pc < 50 then (if pc = 47 then some (.new 8, 0, 9, 211, 0) else none) else (if pc = 50 then some (.dup, 0, 0, 0, 0) else none)) else (if pc < 54 then (if pc = 51 then some (.iconst (2048), 3, 0, 0, 0) else none) else (if pc = 54 then some (.invokespecial 177, 0, 11, 212, 16520) else none)))))) else (if pc < 86 then (if pc < 70 then (if pc < 64 then (if pc < 60 then (if pc = 57 then some (.putfield 259, 0, 26, 216, 0) else none) else (if pc < 61 then (if pc = 60 then some (.aload_n 0, 0, 0, 0, 0) else none) else (if pc = 61 then some (.new 8, 0, 9, 211, 0) else none))) else (if pc < 65 then (if pc = 64 then some (.dup, 0, 0, 0, 0) else none) else (if pc < 67 then (if pc = 65 then some (.iconst (80), 2, 0, 0, 0) else none) else (if pc = 67 then some (.invokespecial 177, 0, 11, 212, 16520) else none)))) else (if pc < 77 then (if pc < 73 then (if pc = 70 then some (.putfield 260, 0, 29, 217, 0) else none) else (if pc < 74 then (if pc = 73 then some (.aload_n 0, 0, 0, 0, 0) else none) else (if pc = 74 then some (.new 8, 0, 9, 211, 0) else none))) else (if pc < 80 then (if pc < 78 then (if pc = 77 then some (.dup, 0, 0, 0, 0) else none) else (if pc = 78 then some (.iconst (80), 2, 0, 0, 0) else none)) else (if pc < 83 then (if pc = 80 then some (.invokespecial 177, 0, 11, 212, 16520) else none) else (if pc = 83 then some (.putfield 261, 0, 32, 218, 0) else none))))) else (if pc < 99 then (if pc < 91 then (if pc < 87 then (if pc = 86 then some (.aload_n 0, 0, 0, 0, 0) else none) else (if pc < 90 then (if pc = 87 then some (.new 8, 0, 9, 211, 0) else none) else (if pc = 90 then some (.dup, 0, 0, 0, 0) else none))) else (if pc < 93 then (if pc = 91 then some (.iconst (80), 2, 0, 0, 0) else none) else (if pc < 96 then (if pc = 93 then some (.invokespecial 177, 0, 11, 212, 16520) else none) else (if pc = 96 then some (.putfield 262, 0, 35, 219, 0) else none)))) else (if pc < 104 then (if pc < 100 then (if pc = 99 then some (.aload_n 0, 0, 0, 0, 0) else none) else (if pc < 103 then (if pc = 100 then some (.new 8, 0, 9, 211, 0) else none) else (if pc = 103 then some (.dup, 0, 0, 0, 0) else none))) else (if pc < 109 then (if pc < 106 then (if pc = 104 then some (.iconst (80), 2, 0, 0, 0) else none) else (if pc = 106 then some (.invokespecial 177, 0, 11, 212, 16520) else none)) else (if pc < 112 then (if pc = 109 then some (.putfield 263, 0, 38, 220, 0) else none) else (if pc = 112 then some (.return_, 0, 0, 0, 0) else none))))))
def hm_i110 (pc : Nat) : Option hm_Row := if pc < 113 then hm_j110 pc else none
/-- CurvekeyHouse$History.clear()V -/
def hm_j111 (pc : Nat) : Option hm_Row := if pc < 5 then (if pc < 1 then (if pc = 0 then some (.aload_n 0, 0, 0, 0, 0) else none) else (if pc < 2 then (if pc = 1 then some (.iconst 0, 1, 0, 0, 0) else none) else (if pc = 2 then some (.putfield 264, 0, 41, 221, 0) else none))) else (if pc < 7 then (if pc < 6 then (if pc = 5 then some (.aload_n 0, 0, 0, 0, 0) else none) else (if pc = 6 then some (.iconst 0, 1, 0, 0, 0) else none)) else (if pc < 10 then (if pc = 7 then some (.putfield 265, 0, 45, 222, 0) else none) else (if pc = 10 then some (.return_, 0, 0, 0, 0) else none)))
def hm_i111 (pc : Nat) : Option hm_Row := if pc < 11 then hm_j111 pc else none
/-- CurvekeyHouse$History.size()I -/
def hm_j112 (pc : Nat) : Option hm_Row := if pc < 1 then (if pc = 0 then some (.aload_n 0, 0, 0, 0, 0) else none) else (if pc < 4 then (if pc = 1 then some (.getfield 264, 0, 41, 221, 0) else none) else (if pc = 4 then some (.ireturn, 0, 0, 0, 0) else none))
def hm_i112 (pc : Nat) : Option hm_Row := if pc < 5 then hm_j112 pc else none
/-- CurvekeyHouse$History.version()I -/
def hm_j113 (pc : Nat) : Option hm_Row := if pc < 1 then (if pc = 0 then some (.aload_n 0, 0, 0, 0, 0) else none) else (if pc < 4 then (if pc = 1 then some (.getfield 265, 0, 45, 222, 0) else none) else (if pc = 4 then some (.ireturn, 0, 0, 0, 0) else none))
def hm_i113 (pc : Nat) : Option hm_Row := if pc < 5 then hm_j113 pc else none
/-- CurvekeyHouse$History.spellsOf(I)I -/
def hm_j114 (pc : Nat) : Option hm_Row := if pc < 4 then (if pc < 1 then (if pc = 0 then some (.aload_n 0, 0, 0, 0, 0) else none) else (if pc = 1 then some (.getfield 261, 0, 32, 218, 0) else none)) else (if pc < 5 then (if pc = 4 then some (.iload_n 1, 0, 0, 0, 0) else none) else (if pc < 8 then (if pc = 5 then some (.invokevirtual 178, 0, 48, 598, 16520) else none) else (if pc = 8 then some (.ireturn, 0, 0, 0, 0) else none)))
def hm_i114 (pc : Nat) : Option hm_Row := if pc < 9 then hm_j114 pc else none
/-- CurvekeyHouse$History.birthOf(I)I -/
def hm_j115 (pc : Nat) : Option hm_Row := if pc < 4 then (if pc < 1 then (if pc = 0 then some (.aload_n 0, 0, 0, 0, 0) else none) else (if pc = 1 then some (.getfield 262, 0, 35, 219, 0) else none)) else (if pc < 5 then (if pc = 4 then some (.iload_n 1, 0, 0, 0, 0) else none) else (if pc < 8 then (if pc = 5 then some (.invokevirtual 178, 0, 48, 598, 16520) else none) else (if pc = 8 then some (.ireturn, 0, 0, 0, 0) else none)))
def hm_i115 (pc : Nat) : Option hm_Row := if pc < 9 then hm_j115 pc else none
/-- CurvekeyHouse$History.endOf(I)I -/
def hm_j116 (pc : Nat) : Option hm_Row := if pc < 4 then (if pc < 1 then (if pc = 0 then some (.aload_n 0, 0, 0, 0, 0) else none) else (if pc = 1 then some (.getfield 263, 0, 38, 220, 0) else none)) else (if pc < 5 then (if pc = 4 then some (.iload_n 1, 0, 0, 0, 0) else none) else (if pc < 8 then (if pc = 5 then some (.invokevirtual 178, 0, 48, 598, 16520) else none) else (if pc = 8 then some (.ireturn, 0, 0, 0, 0) else none)))
def hm_i116 (pc : Nat) : Option hm_Row := if pc < 9 then hm_j116 pc else none
/-- CurvekeyHouse$History.rise()V -/
def hm_j117 (pc : Nat) : Option hm_Row := if pc < 5 then (if pc < 1 then (if pc = 0 then some (.aload_n 0, 0, 0, 0, 0) else none) else (if pc < 2 then (if pc = 1 then some (.dup, 0, 0, 0, 0) else none) else (if pc = 2 then some (.getfield 265, 0, 45, 222, 0) else none))) else (if pc < 7 then (if pc < 6 then (if pc = 5 then some (.iconst 1, 1, 0, 0, 0) else none) else (if pc = 6 then some (.iadd, 0, 0, 0, 0) else none)) else (if pc < 10 then (if pc = 7 then some (.putfield 265, 0, 45, 222, 0) else none) else (if pc = 10 then some (.return_, 0, 0, 0, 0) else none)))
def hm_i117 (pc : Nat) : Option hm_Row := if pc < 11 then hm_j117 pc else none
/-- CurvekeyHouse$History.greet(I)V -/
def hm_j118 (pc : Nat) : Option hm_Row := if pc < 14 then (if pc < 6 then (if pc < 4 then (if pc < 1 then (if pc = 0 then some (.aload_n 0, 0, 0, 0, 0) else none) else (if pc = 1 then some (.getfield 261, 0, 32, 218, 0) else none)) else (if pc < 5 then (if pc = 4 then some (.iload_n 1, 0, 0, 0, 0) else none) else (if pc = 5 then some (.iconst 0, 1, 0, 0, 0) else none))) else (if pc < 10 then (if pc < 9 then (if pc = 6 then some (.invokevirtual 179, 0, 52, 675, 24840) else none) else (if pc = 9 then some (.aload_n 0, 0, 0, 0, 0) else none)) else (if pc < 13 then (if pc = 10 then some (.getfield 262, 0, 35, 219, 0) else none) else (if pc = 13 then some (.iload_n 1, 0, 0, 0, 0) else none)))) else (if pc < 22 then (if pc < 18 then (if pc < 15 then (if pc = 14 then some (.aload_n 0, 0, 0, 0, 0) else none) else (if pc = 15 then some (.getfield 265, 0, 45, 222, 0) else none)) else (if pc < 21 then (if pc = 18 then some (.invokevirtual 179, 0, 52, 675, 24840) else none) else (if pc = 21 then some (.aload_n 0, 0, 0, 0, 0) else none))) else (if pc < 26 then (if pc < 25 then (if pc = 22 then some (.getfield 263, 0, 38, 220, 0) else none) else (if pc = 25 then some (.iload_n 1, 0, 0, 0, 0) else none)) else (if pc < 27 then (if pc = 26 then some (.iconst (-1), 1, 0, 0, 0) else none) else (if pc < 30 then (if pc = 27 then some (.invokevirtual 179, 0, 52, 675, 24840) else none) else (if pc = 30 then some (.return_, 0, 0, 0, 0) else none)))))
def hm_i118 (pc : Nat) : Option hm_Row := if pc < 31 then hm_j118 pc else none
/-- CurvekeyHouse$History.bid(I)V -/
def hm_j119 (pc : Nat) : Option hm_Row := if pc < 5 then (if pc < 1 then (if pc = 0 then some (.aload_n 0, 0, 0, 0, 0) else none) else (if pc < 4 then (if pc = 1 then some (.getfield 263, 0, 38, 220, 0) else none) else (if pc = 4 then some (.iload_n 1, 0, 0, 0, 0) else none))) else (if pc < 9 then (if pc < 6 then (if pc = 5 then some (.aload_n 0, 0, 0, 0, 0) else none) else (if pc = 6 then some (.getfield 265, 0, 45, 222, 0) else none)) else (if pc < 12 then (if pc = 9 then some (.invokevirtual 179, 0, 52, 675, 24840) else none) else (if pc = 12 then some (.return_, 0, 0, 0, 0) else none)))
def hm_i119 (pc : Nat) : Option hm_Row := if pc < 13 then hm_j119 pc else none
/-- CurvekeyHouse$History.begin(III)V -/
def hm_j120 (pc : Nat) : Option hm_Row := if pc < 43 then (if pc < 20 then (if pc < 9 then (if pc < 4 then (if pc < 1 then (if pc = 0 then some (.aload_n 0, 0, 0, 0, 0) else none) else (if pc = 1 then some (.getfield 256, 0, 14, 213, 0) else none)) else (if pc < 5 then (if pc = 4 then some (.aload_n 0, 0, 0, 0, 0) else none) else (if pc < 8 then (if pc = 5 then some (.getfield 264, 0, 41, 221, 0) else none) else (if pc = 8 then some (.iload_n 2, 0, 0, 0, 0) else none)))) else (if pc < 13 then (if pc < 12 then (if pc = 9 then some (.invokevirtual 179, 0, 52, 675, 24840) else none) else (if pc = 12 then some (.aload_n 0, 0, 0, 0, 0) else none)) else (if pc < 16 then (if pc = 13 then some (.getfield 257, 0, 20, 214, 0) else none) else (if pc < 17 then (if pc = 16 then some (.aload_n 0, 0, 0, 0, 0) else none) else (if pc = 17 then some (.getfield 264, 0, 41, 221, 0) else none))))) else (if pc < 29 then (if pc < 24 then (if pc < 21 then (if pc = 20 then some (.iload_n 3, 0, 0, 0, 0) else none) else (if pc = 21 then some (.invokevirtual 179, 0, 52, 675, 24840) else none)) else (if pc < 25 then (if pc = 24 then some (.aload_n 0, 0, 0, 0, 0) else none) else (if pc < 28 then (if pc = 25 then some (.getfield 258, 0, 23, 215, 0) else none) else (if pc = 28 then some (.aload_n 0, 0, 0, 0, 0) else none)))) else (if pc < 36 then (if pc < 32 then (if pc = 29 then some (.getfield 264, 0, 41, 221, 0) else none) else (if pc < 33 then (if pc = 32 then some (.aload_n 0, 0, 0, 0, 0) else none) else (if pc = 33 then some (.getfield 265, 0, 45, 222, 0) else none))) else (if pc < 39 then (if pc = 36 then some (.invokevirtual 179, 0, 52, 675, 24840) else none) else (if pc < 40 then (if pc = 39 then some (.aload_n 0, 0, 0, 0, 0) else none) else (if pc = 40 then some (.getfield 259, 0, 26, 216, 0) else none)))))) else (if pc < 65 then (if pc < 53 then (if pc < 47 then (if pc < 44 then (if pc = 43 then some (.aload_n 0, 0, 0, 0, 0) else none) else (if pc = 44 then some (.getfield 264, 0, 41, 221, 0) else none)) else (if pc < 49 then (if pc = 47 then some (.iconst (2147483647), 2, 56, 688, 0) else none) else (if pc < 52 then (if pc = 49 then some (.invokevirtual 179, 0, 52, 675, 24840) else none) else (if pc = 52 then some (.aload_n 0, 0, 0, 0, 0) else none)))) else (if pc < 58 then (if pc < 56 then (if pc = 53 then some (.getfield 260, 0, 29, 217, 0) else none) else (if pc < 57 then (if pc = 56 then some (.iload_n 1, 0, 0, 0, 0) else none) else (if pc = 57 then some (.aload_n 0, 0, 0, 0, 0) else none))) else (if pc < 61 then (if pc = 58 then some (.getfield 264, 0, 41, 221, 0) else none) else (if pc < 64 then (if pc = 61 then some (.invokevirtual 179, 0, 52, 675, 24840) else none) else (if pc = 64 then some (.aload_n 0, 0, 0, 0, 0) else none))))) else (if pc < 74 then (if pc < 69 then (if pc < 68 then (if pc = 65 then some (.getfield 261, 0, 32, 218, 0) else none) else (if pc = 68 then some (.iload_n 1, 0, 0, 0, 0) else none)) else (if pc < 70 then (if pc = 69 then some (.iconst 1, 1, 0, 0, 0) else none) else (if pc < 73 then (if pc = 70 then some (.invokevirtual 180, 0, 57, 689, 24840) else none) else (if pc = 73 then some (.aload_n 0, 0, 0, 0, 0) else none)))) else (if pc < 79 then (if pc < 75 then (if pc = 74 then some (.dup, 0, 0, 0, 0) else none) else (if pc < 78 then (if pc = 75 then some (.getfield 264, 0, 41, 221, 0) else none) else (if pc = 78 then some (.iconst 1, 1, 0, 0, 0) else none))) else (if pc < 80 then (if pc = 79 then some (.iadd, 0, 0, 0, 0) else none) else (if pc < 83 then (if pc = 80 then some (.putfield 264, 0, 41, 221, 0) else none) else (if pc = 83 then some (.return_, 0, 0, 0, 0) else none))))))
def hm_i120 (pc : Nat) : Option hm_Row := if pc < 84 then hm_j120 pc else none
/-- CurvekeyHouse$History.end(I)V -/
def hm_j121 (pc : Nat) : Option hm_Row := if pc < 9 then (if pc < 4 then (if pc < 1 then (if pc = 0 then some (.aload_n 0, 0, 0, 0, 0) else none) else (if pc = 1 then some (.getfield 259, 0, 26, 216, 0) else none)) else (if pc < 5 then (if pc = 4 then some (.aload_n 0, 0, 0, 0, 0) else none) else (if pc < 8 then (if pc = 5 then some (.getfield 260, 0, 29, 217, 0) else none) else (if pc = 8 then some (.iload_n 1, 0, 0, 0, 0) else none)))) else (if pc < 13 then (if pc < 12 then (if pc = 9 then some (.invokevirtual 178, 0, 48, 598, 16520) else none) else (if pc = 12 then some (.aload_n 0, 0, 0, 0, 0) else none)) else (if pc < 16 then (if pc = 13 then some (.getfield 265, 0, 45, 222, 0) else none) else (if pc < 19 then (if pc = 16 then some (.invokevirtual 179, 0, 52, 675, 24840) else none) else (if pc = 19 then some (.return_, 0, 0, 0, 0) else none))))
def hm_i121 (pc : Nat) : Option hm_Row := if pc < 20 then hm_j121 pc else none
/-- CurvekeyHouse$History.livedIn(LCurvekeyHouse$Box;I)I -/
def hm_j122 (pc : Nat) : Option hm_Row := if pc < 37 then (if pc < 16 then (if pc < 5 then (if pc < 2 then (if pc < 1 then (if pc = 0 then some (.iconst 0, 1, 0, 0, 0) else none) else (if pc = 1 then some (.istore_n 3, 0, 0, 0, 0) else none)) else (if pc < 3 then (if pc = 2 then some (.iconst 0, 1, 0, 0, 0) else none) else (if pc = 3 then some (.istore 4, 0, 0, 0, 0) else none))) else (if pc < 8 then (if pc < 7 then (if pc = 5 then some (.iload 4, 0, 0, 0, 0) else none) else (if pc = 7 then some (.aload_n 0, 0, 0, 0, 0) else none)) else (if pc < 11 then (if pc = 8 then some (.getfield 264, 0, 41, 221, 0) else none) else (if pc < 14 then (if pc = 11 then some (.if_icmp .ge 82, 0, 0, 0, 0) else none) else (if pc = 14 then some (.iload 4, 0, 0, 0, 0) else none))))) else (if pc < 28 then (if pc < 22 then (if pc < 19 then (if pc = 16 then some (.iconst (2048), 3, 0, 0, 0) else none) else (if pc = 19 then some (.if_icmp .ge 82, 0, 0, 0, 0) else none)) else (if pc < 23 then (if pc = 22 then some (.aload_n 0, 0, 0, 0, 0) else none) else (if pc < 26 then (if pc = 23 then some (.getfield 258, 0, 23, 215, 0) else none) else (if pc = 26 then some (.iload 4, 0, 0, 0, 0) else none)))) else (if pc < 32 then (if pc < 31 then (if pc = 28 then some (.invokevirtual 178, 0, 48, 598, 16520) else none) else (if pc = 31 then some (.iload_n 2, 0, 0, 0, 0) else none)) else (if pc < 35 then (if pc = 32 then some (.if_icmp .gt 76, 0, 0, 0, 0) else none) else (if pc < 36 then (if pc = 35 then some (.iload_n 2, 0, 0, 0, 0) else none) else (if pc = 36 then some (.aload_n 0, 0, 0, 0, 0) else none)))))) else (if pc < 59 then (if pc < 49 then (if pc < 42 then (if pc < 40 then (if pc = 37 then some (.getfield 259, 0, 26, 216, 0) else none) else (if pc = 40 then some (.iload 4, 0, 0, 0, 0) else none)) else (if pc < 45 then (if pc = 42 then some (.invokevirtual 178, 0, 48, 598, 16520) else none) else (if pc < 48 then (if pc = 45 then some (.if_icmp .ge 76, 0, 0, 0, 0) else none) else (if pc = 48 then some (.aload_n 1, 0, 0, 0, 0) else none)))) else (if pc < 53 then (if pc < 50 then (if pc = 49 then some (.aload_n 0, 0, 0, 0, 0) else none) else (if pc = 50 then some (.getfield 256, 0, 14, 213, 0) else none)) else (if pc < 55 then (if pc = 53 then some (.iload 4, 0, 0, 0, 0) else none) else (if pc < 58 then (if pc = 55 then some (.invokevirtual 178, 0, 48, 598, 16520) else none) else (if pc = 58 then some (.aload_n 0, 0, 0, 0, 0) else none))))) else (if pc < 73 then (if pc < 64 then (if pc < 62 then (if pc = 59 then some (.getfield 257, 0, 20, 214, 0) else none) else (if pc = 62 then some (.iload 4, 0, 0, 0, 0) else none)) else (if pc < 67 then (if pc = 64 then some (.invokevirtual 178, 0, 48, 598, 16520) else none) else (if pc < 70 then (if pc = 67 then some (.invokevirtual 66, 0, 60, 599, 24832) else none) else (if pc = 70 then some (.ifCond .eq 76, 0, 0, 0, 0) else none)))) else (if pc < 79 then (if pc < 76 then (if pc = 73 then some (.iinc 3 (1), 0, 0, 0, 0) else none) else (if pc = 76 then some (.iinc 4 (1), 0, 0, 0, 0) else none)) else (if pc < 82 then (if pc = 79 then some (.goto 5, 0, 0, 0, 0) else none) else (if pc < 83 then (if pc = 82 then some (.iload_n 3, 0, 0, 0, 0) else none) else (if pc = 83 then some (.ireturn, 0, 0, 0, 0) else none))))))
def hm_i122 (pc : Nat) : Option hm_Row := if pc < 84 then hm_j122 pc else none
/-- CurvekeyHouse$Line.<init>()V -/
def hm_j123 (pc : Nat) : Option hm_Row := if pc < 8 then (if pc < 4 then (if pc < 1 then (if pc = 0 then some (.aload_n 0, 0, 0, 0, 0) else none) else (if pc = 1 then some (.invokespecial 1000, 0, 3, 353, 0) else none)) else (if pc < 5 then (if pc = 4 then some (.aload_n 0, 0, 0, 0, 0) else none) else (if pc = 5 then some (.new 8, 0, 9, 354, 0) else none))) else (if pc < 11 then (if pc < 9 then (if pc = 8 then some (.dup, 0, 0, 0, 0) else none) else (if pc = 9 then some (.iconst (80), 2, 0, 0, 0) else none)) else (if pc < 14 then (if pc = 11 then some (.invokespecial 177, 0, 11, 355, 16520) else none) else (if pc < 17 then (if pc = 14 then some (.putfield 320, 0, 14, 356, 0) else none) else (if pc = 17 then some (.return_, 0, 0, 0, 0) else none))))
def hm_i123 (pc : Nat) : Option hm_Row := if pc < 18 then hm_j123 pc else none
/-- CurvekeyHouse$Line.take(LCurvekeyHouse$Pages;)V -/
def hm_j124 (pc : Nat) : Option hm_Row := if pc < 24 then (if pc < 9 then (if pc < 5 then (if pc < 1 then (if pc = 0 then some (.aload_n 0, 0, 0, 0, 0) else none) else (if pc < 2 then (if pc = 1 then some (.iconst 0, 1, 0, 0, 0) else none) else (if pc = 2 then some (.putfield 321, 0, 20, 357, 0) else none))) else (if pc < 7 then (if pc < 6 then (if pc = 5 then some (.iconst 0, 1, 0, 0, 0) else none) else (if pc = 6 then some (.istore_n 2, 0, 0, 0, 0) else none)) else (if pc < 8 then (if pc = 7 then some (.iload_n 2, 0, 0, 0, 0) else none) else (if pc = 8 then some (.aload_n 1, 0, 0, 0, 0) else none)))) else (if pc < 16 then (if pc < 12 then (if pc = 9 then some (.invokevirtual 137, 0, 24, 989, 8198) else none) else (if pc < 15 then (if pc = 12 then some (.if_icmp .ge 52, 0, 0, 0, 0) else none) else (if pc = 15 then some (.aload_n 1, 0, 0, 0, 0) else none))) else (if pc < 20 then (if pc < 17 then (if pc = 16 then some (.iload_n 2, 0, 0, 0, 0) else none) else (if pc = 17 then some (.invokevirtual 140, 0, 30, 993, 16518) else none)) else (if pc < 21 then (if pc = 20 then some (.iconst (-1), 1, 0, 0, 0) else none) else (if pc = 21 then some (.if_icmp .eq 46, 0, 0, 0, 0) else none))))) else (if pc < 37 then (if pc < 29 then (if pc < 25 then (if pc = 24 then some (.aload_n 0, 0, 0, 0, 0) else none) else (if pc < 28 then (if pc = 25 then some (.getfield 320, 0, 14, 356, 0) else none) else (if pc = 28 then some (.aload_n 0, 0, 0, 0, 0) else none))) else (if pc < 33 then (if pc < 32 then (if pc = 29 then some (.getfield 321, 0, 20, 357, 0) else none) else (if pc = 32 then some (.iload_n 2, 0, 0, 0, 0) else none)) else (if pc < 36 then (if pc = 33 then some (.invokevirtual 179, 0, 34, 994, 24840) else none) else (if pc = 36 then some (.aload_n 0, 0, 0, 0, 0) else none)))) else (if pc < 43 then (if pc < 41 then (if pc < 38 then (if pc = 37 then some (.dup, 0, 0, 0, 0) else none) else (if pc = 38 then some (.getfield 321, 0, 20, 357, 0) else none)) else (if pc < 42 then (if pc = 41 then some (.iconst 1, 1, 0, 0, 0) else none) else (if pc = 42 then some (.iadd, 0, 0, 0, 0) else none))) else (if pc < 49 then (if pc < 46 then (if pc = 43 then some (.putfield 321, 0, 20, 357, 0) else none) else (if pc = 46 then some (.iinc 2 (1), 0, 0, 0, 0) else none)) else (if pc < 52 then (if pc = 49 then some (.goto 7, 0, 0, 0, 0) else none) else (if pc = 52 then some (.return_, 0, 0, 0, 0) else none)))))
def hm_i124 (pc : Nat) : Option hm_Row := if pc < 53 then hm_j124 pc else none
/-- CurvekeyHouse$Line.smallerThan(I)I -/
def hm_j125 (pc : Nat) : Option hm_Row := if pc < 13 then (if pc < 4 then (if pc < 2 then (if pc < 1 then (if pc = 0 then some (.iconst 0, 1, 0, 0, 0) else none) else (if pc = 1 then some (.istore_n 2, 0, 0, 0, 0) else none)) else (if pc < 3 then (if pc = 2 then some (.iconst 0, 1, 0, 0, 0) else none) else (if pc = 3 then some (.istore_n 3, 0, 0, 0, 0) else none))) else (if pc < 6 then (if pc < 5 then (if pc = 4 then some (.iload_n 3, 0, 0, 0, 0) else none) else (if pc = 5 then some (.aload_n 0, 0, 0, 0, 0) else none)) else (if pc < 9 then (if pc = 6 then some (.getfield 321, 0, 20, 357, 0) else none) else (if pc < 12 then (if pc = 9 then some (.if_icmp .ge 33, 0, 0, 0, 0) else none) else (if pc = 12 then some (.aload_n 0, 0, 0, 0, 0) else none))))) else (if pc < 24 then (if pc < 17 then (if pc < 16 then (if pc = 13 then some (.getfield 320, 0, 14, 356, 0) else none) else (if pc = 16 then some (.iload_n 3, 0, 0, 0, 0) else none)) else (if pc < 20 then (if pc = 17 then some (.invokevirtual 178, 0, 38, 1003, 16520) else none) else (if pc < 21 then (if pc = 20 then some (.iload_n 1, 0, 0, 0, 0) else none) else (if pc = 21 then some (.if_icmp .ge 27, 0, 0, 0, 0) else none)))) else (if pc < 30 then (if pc < 27 then (if pc = 24 then some (.iinc 2 (1), 0, 0, 0, 0) else none) else (if pc = 27 then some (.iinc 3 (1), 0, 0, 0, 0) else none)) else (if pc < 33 then (if pc = 30 then some (.goto 4, 0, 0, 0, 0) else none) else (if pc < 34 then (if pc = 33 then some (.iload_n 2, 0, 0, 0, 0) else none) else (if pc = 34 then some (.ireturn, 0, 0, 0, 0) else none)))))
def hm_i125 (pc : Nat) : Option hm_Row := if pc < 35 then hm_j125 pc else none
/-- CurvekeyHouse$Line.guessWhole(I)I -/
def hm_j126 (pc : Nat) : Option hm_Row := if pc < 21 then (if pc < 10 then (if pc < 7 then (if pc < 1 then (if pc = 0 then some (.aload_n 0, 0, 0, 0, 0) else none) else (if pc < 4 then (if pc = 1 then some (.getfield 321, 0, 20, 357, 0) else none) else (if pc = 4 then some (.ifCond .ne 9, 0, 0, 0, 0) else none))) else (if pc < 8 then (if pc = 7 then some (.iconst (-1), 1, 0, 0, 0) else none) else (if pc < 9 then (if pc = 8 then some (.ireturn, 0, 0, 0, 0) else none) else (if pc = 9 then some (.aload_n 0, 0, 0, 0, 0) else none)))) else (if pc < 15 then (if pc < 11 then (if pc = 10 then some (.iconst 0, 1, 0, 0, 0) else none) else (if pc < 12 then (if pc = 11 then some (.aload_n 0, 0, 0, 0, 0) else none) else (if pc = 12 then some (.getfield 321, 0, 20, 357, 0) else none))) else (if pc < 17 then (if pc < 16 then (if pc = 15 then some (.iconst 1, 1, 0, 0, 0) else none) else (if pc = 16 then some (.isub, 0, 0, 0, 0) else none)) else (if pc < 18 then (if pc = 17 then some (.aload_n 0, 0, 0, 0, 0) else none) else (if pc = 18 then some (.getfield 320, 0, 14, 356, 0) else none))))) else (if pc < 34 then (if pc < 26 then (if pc < 22 then (if pc = 21 then some (.iconst 0, 1, 0, 0, 0) else none) else (if pc < 25 then (if pc = 22 then some (.invokevirtual 178, 0, 38, 1003, 16520) else none) else (if pc = 25 then some (.aload_n 0, 0, 0, 0, 0) else none))) else (if pc < 30 then (if pc < 29 then (if pc = 26 then some (.getfield 320, 0, 14, 356, 0) else none) else (if pc = 29 then some (.aload_n 0, 0, 0, 0, 0) else none)) else (if pc < 33 then (if pc = 30 then some (.getfield 321, 0, 20, 357, 0) else none) else (if pc = 33 then some (.iconst 1, 1, 0, 0, 0) else none)))) else (if pc < 39 then (if pc < 35 then (if pc = 34 then some (.isub, 0, 0, 0, 0) else none) else (if pc < 38 then (if pc = 35 then some (.invokevirtual 178, 0, 38, 1003, 16520) else none) else (if pc = 38 then some (.iload_n 1, 0, 0, 0, 0) else none))) else (if pc < 45 then (if pc < 42 then (if pc = 39 then some (.invokestatic 1002, 0, 41, 1236, 0) else none) else (if pc = 42 then some (.invokestatic 1001, 0, 47, 1009, 0) else none)) else (if pc < 48 then (if pc = 45 then some (.invokevirtual 129, 0, 50, 1004, 49541) else none) else (if pc = 48 then some (.ireturn, 0, 0, 0, 0) else none)))))
def hm_i126 (pc : Nat) : Option hm_Row := if pc < 49 then hm_j126 pc else none
/-- CurvekeyHouse$Line.errorWhole()I -/
def hm_j127 (pc : Nat) : Option hm_Row := if pc < 12 then (if pc < 7 then (if pc < 1 then (if pc = 0 then some (.aload_n 0, 0, 0, 0, 0) else none) else (if pc < 4 then (if pc = 1 then some (.getfield 321, 0, 20, 357, 0) else none) else (if pc = 4 then some (.ifCond .ne 11, 0, 0, 0, 0) else none))) else (if pc < 8 then (if pc = 7 then some (.iconst (-1), 1, 0, 0, 0) else none) else (if pc < 11 then (if pc = 8 then some (.goto 22, 0, 0, 0, 0) else none) else (if pc = 11 then some (.aload_n 0, 0, 0, 0, 0) else none)))) else (if pc < 17 then (if pc < 13 then (if pc = 12 then some (.iconst 0, 1, 0, 0, 0) else none) else (if pc < 14 then (if pc = 13 then some (.aload_n 0, 0, 0, 0, 0) else none) else (if pc = 14 then some (.getfield 321, 0, 20, 357, 0) else none))) else (if pc < 19 then (if pc < 18 then (if pc = 17 then some (.iconst 1, 1, 0, 0, 0) else none) else (if pc = 18 then some (.isub, 0, 0, 0, 0) else none)) else (if pc < 22 then (if pc = 19 then some (.invokevirtual 130, 0, 54, 999, 41221) else none) else (if pc = 22 then some (.ireturn, 0, 0, 0, 0) else none))))
def hm_i127 (pc : Nat) : Option hm_Row := if pc < 23 then hm_j127 pc else none
/-- CurvekeyHouse$Line.piecesFor(I)I -/
def hm_j128 (pc : Nat) : Option hm_Row := if pc < 21 then (if pc < 7 then (if pc < 3 then (if pc < 1 then (if pc = 0 then some (.iconst 0, 1, 0, 0, 0) else none) else (if pc < 2 then (if pc = 1 then some (.istore_n 2, 0, 0, 0, 0) else none) else (if pc = 2 then some (.iconst 0, 1, 0, 0, 0) else none))) else (if pc < 4 then (if pc = 3 then some (.istore_n 3, 0, 0, 0, 0) else none) else (if pc < 5 then (if pc = 4 then some (.iconst 0, 1, 0, 0, 0) else none) else (if pc = 5 then some (.istore 4, 0, 0, 0, 0) else none)))) else (if pc < 13 then (if pc < 9 then (if pc = 7 then some (.iload 4, 0, 0, 0, 0) else none) else (if pc < 10 then (if pc = 9 then some (.aload_n 0, 0, 0, 0, 0) else none) else (if pc = 10 then some (.getfield 321, 0, 20, 357, 0) else none))) else (if pc < 16 then (if pc = 13 then some (.if_icmp .ge 44, 0, 0, 0, 0) else none) else (if pc < 18 then (if pc = 16 then some (.iload 4, 0, 0, 0, 0) else none) else (if pc = 18 then some (.ifCond .eq 32, 0, 0, 0, 0) else none))))) else (if pc < 32 then (if pc < 25 then (if pc < 22 then (if pc = 21 then some (.aload_n 0, 0, 0, 0, 0) else none) else (if pc < 23 then (if pc = 22 then some (.iload_n 3, 0, 0, 0, 0) else none) else (if pc = 23 then some (.iload 4, 0, 0, 0, 0) else none))) else (if pc < 28 then (if pc = 25 then some (.invokevirtual 130, 0, 54, 999, 41221) else none) else (if pc < 29 then (if pc = 28 then some (.iload_n 1, 0, 0, 0, 0) else none) else (if pc = 29 then some (.if_icmp .le 38, 0, 0, 0, 0) else none)))) else (if pc < 38 then (if pc < 35 then (if pc = 32 then some (.iinc 2 (1), 0, 0, 0, 0) else none) else (if pc < 37 then (if pc = 35 then some (.iload 4, 0, 0, 0, 0) else none) else (if pc = 37 then some (.istore_n 3, 0, 0, 0, 0) else none))) else (if pc < 44 then (if pc < 41 then (if pc = 38 then some (.iinc 4 (1), 0, 0, 0, 0) else none) else (if pc = 41 then some (.goto 7, 0, 0, 0, 0) else none)) else (if pc < 45 then (if pc = 44 then some (.iload_n 2, 0, 0, 0, 0) else none) else (if pc = 45 then some (.ireturn, 0, 0, 0, 0) else none)))))
def hm_i128 (pc : Nat) : Option hm_Row := if pc < 46 then hm_j128 pc else none
/-- CurvekeyHouse$Line.guessOn(III)I -/
def hm_j129 (pc : Nat) : Option hm_Row := if pc < 28 then (if pc < 14 then (if pc < 5 then (if pc < 1 then (if pc = 0 then some (.aload_n 0, 0, 0, 0, 0) else none) else (if pc < 4 then (if pc = 1 then some (.getfield 320, 0, 14, 356, 0) else none) else (if pc = 4 then some (.iload_n 1, 0, 0, 0, 0) else none))) else (if pc < 10 then (if pc < 8 then (if pc = 5 then some (.invokevirtual 178, 0, 38, 1003, 16520) else none) else (if pc = 8 then some (.istore 4, 0, 0, 0, 0) else none)) else (if pc < 11 then (if pc = 10 then some (.aload_n 0, 0, 0, 0, 0) else none) else (if pc = 11 then some (.getfield 320, 0, 14, 356, 0) else none)))) else (if pc < 20 then (if pc < 15 then (if pc = 14 then some (.iload_n 2, 0, 0, 0, 0) else none) else (if pc < 18 then (if pc = 15 then some (.invokevirtual 178, 0, 38, 1003, 16520) else none) else (if pc = 18 then some (.iload 4, 0, 0, 0, 0) else none))) else (if pc < 23 then (if pc < 21 then (if pc = 20 then some (.isub, 0, 0, 0, 0) else none) else (if pc = 21 then some (.istore 5, 0, 0, 0, 0) else none)) else (if pc < 25 then (if pc = 23 then some (.iload 5, 0, 0, 0, 0) else none) else (if pc = 25 then some (.ifCond .gt 32, 0, 0, 0, 0) else none))))) else (if pc < 38 then (if pc < 33 then (if pc < 29 then (if pc = 28 then some (.iload_n 1, 0, 0, 0, 0) else none) else (if pc < 32 then (if pc = 29 then some (.goto 45, 0, 0, 0, 0) else none) else (if pc = 32 then some (.iload_n 1, 0, 0, 0, 0) else none))) else (if pc < 36 then (if pc < 34 then (if pc = 33 then some (.iload_n 3, 0, 0, 0, 0) else none) else (if pc = 34 then some (.iload 4, 0, 0, 0, 0) else none)) else (if pc < 37 then (if pc = 36 then some (.isub, 0, 0, 0, 0) else none) else (if pc = 37 then some (.iload_n 2, 0, 0, 0, 0) else none)))) else (if pc < 41 then (if pc < 39 then (if pc = 38 then some (.iload_n 1, 0, 0, 0, 0) else none) else (if pc < 40 then (if pc = 39 then some (.isub, 0, 0, 0, 0) else none) else (if pc = 40 then some (.imul, 0, 0, 0, 0) else none))) else (if pc < 44 then (if pc < 43 then (if pc = 41 then some (.iload 5, 0, 0, 0, 0) else none) else (if pc = 43 then some (.idiv, 0, 0, 0, 0) else none)) else (if pc < 45 then (if pc = 44 then some (.iadd, 0, 0, 0, 0) else none) else (if pc = 45 then some (.ireturn, 0, 0, 0, 0) else none)))))
def hm_i129 (pc : Nat) : Option hm_Row := if pc < 46 then hm_j129 pc else none
/-- CurvekeyHouse$Line.errorOn(II)I -/
def hm_j130 (pc : Nat) : Option hm_Row := if pc < 16 then (if pc < 8 then (if pc < 3 then (if pc < 1 then (if pc = 0 then some (.iconst 0, 1, 0, 0, 0) else none) else (if pc < 2 then (if pc = 1 then some (.istore_n 3, 0, 0, 0, 0) else none) else (if pc = 2 then some (.iload_n 1, 0, 0, 0, 0) else none))) else (if pc < 5 then (if pc = 3 then some (.istore 4, 0, 0, 0, 0) else none) else (if pc < 7 then (if pc = 5 then some (.iload 4, 0, 0, 0, 0) else none) else (if pc = 7 then some (.iload_n 2, 0, 0, 0, 0) else none)))) else (if pc < 13 then (if pc < 11 then (if pc = 8 then some (.if_icmp .gt 43, 0, 0, 0, 0) else none) else (if pc < 12 then (if pc = 11 then some (.iload_n 3, 0, 0, 0, 0) else none) else (if pc = 12 then some (.aload_n 0, 0, 0, 0, 0) else none))) else (if pc < 14 then (if pc = 13 then some (.iload_n 1, 0, 0, 0, 0) else none) else (if pc < 15 then (if pc = 14 then some (.iload_n 2, 0, 0, 0, 0) else none) else (if pc = 15 then some (.aload_n 0, 0, 0, 0, 0) else none))))) else (if pc < 30 then (if pc < 24 then (if pc < 19 then (if pc = 16 then some (.getfield 320, 0, 14, 356, 0) else none) else (if pc < 21 then (if pc = 19 then some (.iload 4, 0, 0, 0, 0) else none) else (if pc = 21 then some (.invokevirtual 178, 0, 38, 1003, 16520) else none))) else (if pc < 27 then (if pc = 24 then some (.invokevirtual 129, 0, 50, 1004, 49541) else none) else (if pc < 29 then (if pc = 27 then some (.iload 4, 0, 0, 0, 0) else none) else (if pc = 29 then some (.isub, 0, 0, 0, 0) else none)))) else (if pc < 37 then (if pc < 33 then (if pc = 30 then some (.invokestatic 1003, 0, 57, 1008, 0) else none) else (if pc < 36 then (if pc = 33 then some (.invokestatic 1001, 0, 47, 1009, 0) else none) else (if pc = 36 then some (.istore_n 3, 0, 0, 0, 0) else none))) else (if pc < 43 then (if pc < 40 then (if pc = 37 then some (.iinc 4 (1), 0, 0, 0, 0) else none) else (if pc = 40 then some (.goto 5, 0, 0, 0, 0) else none)) else (if pc < 44 then (if pc = 43 then some (.iload_n 3, 0, 0, 0, 0) else none) else (if pc = 44 then some (.ireturn, 0, 0, 0, 0) else none)))))
def hm_i130 (pc : Nat) : Option hm_Row := if pc < 45 then hm_j130 pc else none
/-- CurvekeyHouse$Pages.<init>(II)V -/
def hm_j131 (pc : Nat) : Option hm_Row := if pc < 19 then (if pc < 8 then (if pc < 4 then (if pc < 1 then (if pc = 0 then some (.aload_n 0, 0, 0, 0, 0) else none) else (if pc = 1 then some (.invokespecial 1000, 0, 3, 249, 0) else none)) else (if pc < 5 then (if pc = 4 then some (.aload_n 0, 0, 0, 0, 0) else none) else (if pc = 5 then some (.new 8, 0, 9, 250, 0) else none))) else (if pc < 12 then (if pc < 9 then (if pc = 8 then some (.dup, 0, 0, 0, 0) else none) else (if pc = 9 then some (.iconst (1024), 3, 0, 0, 0) else none)) else (if pc < 15 then (if pc = 12 then some (.invokespecial 177, 0, 11, 251, 16520) else none) else (if pc < 18 then (if pc = 15 then some (.putfield 384, 0, 14, 261, 0) else none) else (if pc = 18 then some (.aload_n 0, 0, 0, 0, 0) else none))))) else (if pc < 32 then (if pc < 23 then (if pc < 22 then (if pc = 19 then some (.new 8, 0, 9, 250, 0) else none) else (if pc = 22 then some (.dup, 0, 0, 0, 0) else none)) else (if pc < 26 then (if pc = 23 then some (.iconst (1025), 3, 0, 0, 0) else none) else (if pc < 29 then (if pc = 26 then some (.invokespecial 177, 0, 11, 251, 16520) else none) else (if pc = 29 then some (.putfield 385, 0, 20, 262, 0) else none)))) else (if pc < 34 then (if pc < 33 then (if pc = 32 then some (.aload_n 0, 0, 0, 0, 0) else none) else (if pc = 33 then some (.iload_n 1, 0, 0, 0, 0) else none)) else (if pc < 35 then (if pc = 34 then some (.iload_n 2, 0, 0, 0, 0) else none) else (if pc < 38 then (if pc = 35 then some (.invokevirtual 132, 0, 23, 252, 24838) else none) else (if pc = 38 then some (.return_, 0, 0, 0, 0) else none)))))
def hm_i131 (pc : Nat) : Option hm_Row := if pc < 39 then hm_j131 pc else none
/-- CurvekeyHouse$Pages.clear(II)V -/
def hm_j132 (pc : Nat) : Option hm_Row := if pc < 27 then (if pc < 10 then (if pc < 4 then (if pc < 2 then (if pc < 1 then (if pc = 0 then some (.aload_n 0, 0, 0, 0, 0) else none) else (if pc = 1 then some (.iconst 1, 1, 0, 0, 0) else none)) else (if pc < 3 then (if pc = 2 then some (.iconst 2, 1, 0, 0, 0) else none) else (if pc = 3 then some (.iload_n 1, 0, 0, 0, 0) else none))) else (if pc < 6 then (if pc < 5 then (if pc = 4 then some (.imul, 0, 0, 0, 0) else none) else (if pc = 5 then some (.ishl, 0, 0, 0, 0) else none)) else (if pc < 9 then (if pc = 6 then some (.putfield 386, 0, 27, 263, 0) else none) else (if pc = 9 then some (.aload_n 0, 0, 0, 0, 0) else none)))) else (if pc < 18 then (if pc < 14 then (if pc < 11 then (if pc = 10 then some (.iload_n 2, 0, 0, 0, 0) else none) else (if pc = 11 then some (.putfield 387, 0, 31, 264, 0) else none)) else (if pc < 15 then (if pc = 14 then some (.aload_n 0, 0, 0, 0, 0) else none) else (if pc = 15 then some (.getfield 384, 0, 14, 261, 0) else none))) else (if pc < 22 then (if pc < 19 then (if pc = 18 then some (.iconst (-1), 1, 0, 0, 0) else none) else (if pc = 19 then some (.invokevirtual 181, 0, 34, 256, 24712) else none)) else (if pc < 23 then (if pc = 22 then some (.aload_n 0, 0, 0, 0, 0) else none) else (if pc < 26 then (if pc = 23 then some (.getfield 385, 0, 20, 262, 0) else none) else (if pc = 26 then some (.iconst 0, 1, 0, 0, 0) else none)))))) else (if pc < 44 then (if pc < 35 then (if pc < 31 then (if pc < 28 then (if pc = 27 then some (.iconst 0, 1, 0, 0, 0) else none) else (if pc = 28 then some (.invokevirtual 179, 0, 37, 260, 24840) else none)) else (if pc < 32 then (if pc = 31 then some (.aload_n 0, 0, 0, 0, 0) else none) else (if pc = 32 then some (.getfield 385, 0, 20, 262, 0) else none))) else (if pc < 37 then (if pc < 36 then (if pc = 35 then some (.iconst 1, 1, 0, 0, 0) else none) else (if pc = 36 then some (.aload_n 0, 0, 0, 0, 0) else none)) else (if pc < 40 then (if pc = 37 then some (.getfield 386, 0, 27, 263, 0) else none) else (if pc < 43 then (if pc = 40 then some (.invokevirtual 179, 0, 37, 260, 24840) else none) else (if pc = 43 then some (.aload_n 0, 0, 0, 0, 0) else none))))) else (if pc < 50 then (if pc < 48 then (if pc < 45 then (if pc = 44 then some (.iconst 1, 1, 0, 0, 0) else none) else (if pc = 45 then some (.putfield 388, 0, 40, 265, 0) else none)) else (if pc < 49 then (if pc = 48 then some (.aload_n 0, 0, 0, 0, 0) else none) else (if pc = 49 then some (.iconst 0, 1, 0, 0, 0) else none))) else (if pc < 54 then (if pc < 53 then (if pc = 50 then some (.putfield 389, 0, 43, 266, 0) else none) else (if pc = 53 then some (.aload_n 0, 0, 0, 0, 0) else none)) else (if pc < 55 then (if pc = 54 then some (.iconst 0, 1, 0, 0, 0) else none) else (if pc < 58 then (if pc = 55 then some (.putfield 390, 0, 46, 267, 0) else none) else (if pc = 58 then some (.return_, 0, 0, 0, 0) else none))))))
def hm_i132 (pc : Nat) : Option hm_Row := if pc < 59 then hm_j132 pc else none
/-- CurvekeyHouse$Pages.size()I -/
def hm_j133 (pc : Nat) : Option hm_Row := if pc < 1 then (if pc = 0 then some (.aload_n 0, 0, 0, 0, 0) else none) else (if pc < 4 then (if pc = 1 then some (.getfield 388, 0, 40, 265, 0) else none) else (if pc = 4 then some (.ireturn, 0, 0, 0, 0) else none))
def hm_i133 (pc : Nat) : Option hm_Row := if pc < 5 then hm_j133 pc else none
/-- CurvekeyHouse$Pages.capacity()I -/
def hm_j134 (pc : Nat) : Option hm_Row := if pc < 1 then (if pc = 0 then some (.aload_n 0, 0, 0, 0, 0) else none) else (if pc < 4 then (if pc = 1 then some (.getfield 387, 0, 31, 264, 0) else none) else (if pc = 4 then some (.ireturn, 0, 0, 0, 0) else none))
def hm_i134 (pc : Nat) : Option hm_Row := if pc < 5 then hm_j134 pc else none
/-- CurvekeyHouse$Pages.tombs()I -/
def hm_j135 (pc : Nat) : Option hm_Row := if pc < 1 then (if pc = 0 then some (.aload_n 0, 0, 0, 0, 0) else none) else (if pc < 4 then (if pc = 1 then some (.getfield 389, 0, 43, 266, 0) else none) else (if pc = 4 then some (.ireturn, 0, 0, 0, 0) else none))
def hm_i135 (pc : Nat) : Option hm_Row := if pc < 5 then hm_j135 pc else none
/-- CurvekeyHouse$Pages.splits()I -/
def hm_j136 (pc : Nat) : Option hm_Row := if pc < 1 then (if pc = 0 then some (.aload_n 0, 0, 0, 0, 0) else none) else (if pc < 4 then (if pc = 1 then some (.getfield 390, 0, 46, 267, 0) else none) else (if pc = 4 then some (.ireturn, 0, 0, 0, 0) else none))
def hm_i136 (pc : Nat) : Option hm_Row := if pc < 5 then hm_j136 pc else none
/-- CurvekeyHouse$Pages.keyCount()I -/
def hm_j137 (pc : Nat) : Option hm_Row := if pc < 1 then (if pc = 0 then some (.aload_n 0, 0, 0, 0, 0) else none) else (if pc < 4 then (if pc = 1 then some (.getfield 386, 0, 27, 263, 0) else none) else (if pc = 4 then some (.ireturn, 0, 0, 0, 0) else none))
def hm_i137 (pc : Nat) : Option hm_Row := if pc < 5 then hm_j137 pc else none
/-- CurvekeyHouse$Pages.floorOf(I)I -/
def hm_j138 (pc : Nat) : Option hm_Row := if pc < 4 then (if pc < 1 then (if pc = 0 then some (.aload_n 0, 0, 0, 0, 0) else none) else (if pc = 1 then some (.getfield 385, 0, 20, 262, 0) else none)) else (if pc < 5 then (if pc = 4 then some (.iload_n 1, 0, 0, 0, 0) else none) else (if pc < 8 then (if pc = 5 then some (.invokevirtual 178, 0, 49, 633, 16520) else none) else (if pc = 8 then some (.ireturn, 0, 0, 0, 0) else none)))
def hm_i138 (pc : Nat) : Option hm_Row := if pc < 9 then hm_j138 pc else none
/-- CurvekeyHouse$Pages.pageOf(I)I -/
def hm_j139 (pc : Nat) : Option hm_Row := if pc < 16 then (if pc < 5 then (if pc < 2 then (if pc < 1 then (if pc = 0 then some (.iconst 0, 1, 0, 0, 0) else none) else (if pc = 1 then some (.istore_n 2, 0, 0, 0, 0) else none)) else (if pc < 3 then (if pc = 2 then some (.iconst 1, 1, 0, 0, 0) else none) else (if pc < 4 then (if pc = 3 then some (.istore_n 3, 0, 0, 0, 0) else none) else (if pc = 4 then some (.iload_n 3, 0, 0, 0, 0) else none)))) else (if pc < 9 then (if pc < 6 then (if pc = 5 then some (.aload_n 0, 0, 0, 0, 0) else none) else (if pc = 6 then some (.getfield 388, 0, 40, 265, 0) else none)) else (if pc < 12 then (if pc = 9 then some (.if_icmp .ge 32, 0, 0, 0, 0) else none) else (if pc < 13 then (if pc = 12 then some (.aload_n 0, 0, 0, 0, 0) else none) else (if pc = 13 then some (.getfield 385, 0, 20, 262, 0) else none))))) else (if pc < 25 then (if pc < 20 then (if pc < 17 then (if pc = 16 then some (.iload_n 3, 0, 0, 0, 0) else none) else (if pc = 17 then some (.invokevirtual 178, 0, 49, 633, 16520) else none)) else (if pc < 21 then (if pc = 20 then some (.iload_n 1, 0, 0, 0, 0) else none) else (if pc < 24 then (if pc = 21 then some (.if_icmp .gt 32, 0, 0, 0, 0) else none) else (if pc = 24 then some (.iload_n 3, 0, 0, 0, 0) else none)))) else (if pc < 29 then (if pc < 26 then (if pc = 25 then some (.istore_n 2, 0, 0, 0, 0) else none) else (if pc = 26 then some (.iinc 3 (1), 0, 0, 0, 0) else none)) else (if pc < 32 then (if pc = 29 then some (.goto 4, 0, 0, 0, 0) else none) else (if pc < 33 then (if pc = 32 then some (.iload_n 2, 0, 0, 0, 0) else none) else (if pc = 33 then some (.ireturn, 0, 0, 0, 0) else none)))))
def hm_i139 (pc : Nat) : Option hm_Row := if pc < 34 then hm_j139 pc else none
/-- CurvekeyHouse$Pages.holder(I)I -/
def hm_j140 (pc : Nat) : Option hm_Row := if pc < 5 then (if pc < 1 then (if pc = 0 then some (.iconst (-1), 1, 0, 0, 0) else none) else (if pc < 2 then (if pc = 1 then some (.aload_n 0, 0, 0, 0, 0) else none) else (if pc = 2 then some (.getfield 384, 0, 14, 261, 0) else none))) else (if pc < 9 then (if pc < 6 then (if pc = 5 then some (.iload_n 1, 0, 0, 0, 0) else none) else (if pc = 6 then some (.invokevirtual 178, 0, 49, 633, 16520) else none)) else (if pc < 12 then (if pc = 9 then some (.invokestatic 1001, 0, 53, 634, 0) else none) else (if pc = 12 then some (.ireturn, 0, 0, 0, 0) else none)))
def hm_i140 (pc : Nat) : Option hm_Row := if pc < 13 then hm_j140 pc else none
/-- CurvekeyHouse$Pages.entriesIn(I)I -/
def hm_j141 (pc : Nat) : Option hm_Row := if pc < 23 then (if pc < 9 then (if pc < 3 then (if pc < 1 then (if pc = 0 then some (.iconst 0, 1, 0, 0, 0) else none) else (if pc < 2 then (if pc = 1 then some (.istore_n 2, 0, 0, 0, 0) else none) else (if pc = 2 then some (.aload_n 0, 0, 0, 0, 0) else none))) else (if pc < 7 then (if pc < 6 then (if pc = 3 then some (.getfield 385, 0, 20, 262, 0) else none) else (if pc = 6 then some (.iload_n 1, 0, 0, 0, 0) else none)) else (if pc < 8 then (if pc = 7 then some (.iconst 1, 1, 0, 0, 0) else none) else (if pc = 8 then some (.iadd, 0, 0, 0, 0) else none)))) else (if pc < 14 then (if pc < 12 then (if pc = 9 then some (.invokevirtual 178, 0, 49, 633, 16520) else none) else (if pc < 13 then (if pc = 12 then some (.istore_n 3, 0, 0, 0, 0) else none) else (if pc = 13 then some (.aload_n 0, 0, 0, 0, 0) else none))) else (if pc < 18 then (if pc < 17 then (if pc = 14 then some (.getfield 385, 0, 20, 262, 0) else none) else (if pc = 17 then some (.iload_n 1, 0, 0, 0, 0) else none)) else (if pc < 21 then (if pc = 18 then some (.invokevirtual 178, 0, 49, 633, 16520) else none) else (if pc = 21 then some (.istore 4, 0, 0, 0, 0) else none))))) else (if pc < 38 then (if pc < 29 then (if pc < 25 then (if pc = 23 then some (.iload 4, 0, 0, 0, 0) else none) else (if pc < 26 then (if pc = 25 then some (.iload_n 3, 0, 0, 0, 0) else none) else (if pc = 26 then some (.if_icmp .ge 51, 0, 0, 0, 0) else none))) else (if pc < 33 then (if pc < 30 then (if pc = 29 then some (.aload_n 0, 0, 0, 0, 0) else none) else (if pc = 30 then some (.getfield 384, 0, 14, 261, 0) else none)) else (if pc < 35 then (if pc = 33 then some (.iload 4, 0, 0, 0, 0) else none) else (if pc = 35 then some (.invokevirtual 178, 0, 49, 633, 16520) else none)))) else (if pc < 45 then (if pc < 39 then (if pc = 38 then some (.iconst (-1), 1, 0, 0, 0) else none) else (if pc < 42 then (if pc = 39 then some (.if_icmp .eq 45, 0, 0, 0, 0) else none) else (if pc = 42 then some (.iinc 2 (1), 0, 0, 0, 0) else none))) else (if pc < 51 then (if pc < 48 then (if pc = 45 then some (.iinc 4 (1), 0, 0, 0, 0) else none) else (if pc = 48 then some (.goto 23, 0, 0, 0, 0) else none)) else (if pc < 52 then (if pc = 51 then some (.iload_n 2, 0, 0, 0, 0) else none) else (if pc = 52 then some (.ireturn, 0, 0, 0, 0) else none)))))
def hm_i141 (pc : Nat) : Option hm_Row := if pc < 53 then hm_j141 pc else none
/-- CurvekeyHouse$Pages.tombsIn(I)I -/
def hm_j142 (pc : Nat) : Option hm_Row := if pc < 23 then (if pc < 9 then (if pc < 3 then (if pc < 1 then (if pc = 0 then some (.iconst 0, 1, 0, 0, 0) else none) else (if pc < 2 then (if pc = 1 then some (.istore_n 2, 0, 0, 0, 0) else none) else (if pc = 2 then some (.aload_n 0, 0, 0, 0, 0) else none))) else (if pc < 7 then (if pc < 6 then (if pc = 3 then some (.getfield 385, 0, 20, 262, 0) else none) else (if pc = 6 then some (.iload_n 1, 0, 0, 0, 0) else none)) else (if pc < 8 then (if pc = 7 then some (.iconst 1, 1, 0, 0, 0) else none) else (if pc = 8 then some (.iadd, 0, 0, 0, 0) else none)))) else (if pc < 14 then (if pc < 12 then (if pc = 9 then some (.invokevirtual 178, 0, 49, 633, 16520) else none) else (if pc < 13 then (if pc = 12 then some (.istore_n 3, 0, 0, 0, 0) else none) else (if pc = 13 then some (.aload_n 0, 0, 0, 0, 0) else none))) else (if pc < 18 then (if pc < 17 then (if pc = 14 then some (.getfield 385, 0, 20, 262, 0) else none) else (if pc = 17 then some (.iload_n 1, 0, 0, 0, 0) else none)) else (if pc < 21 then (if pc = 18 then some (.invokevirtual 178, 0, 49, 633, 16520) else none) else (if pc = 21 then some (.istore 4, 0, 0, 0, 0) else none))))) else (if pc < 38 then (if pc < 29 then (if pc < 25 then (if pc = 23 then some (.iload 4, 0, 0, 0, 0) else none) else (if pc < 26 then (if pc = 25 then some (.iload_n 3, 0, 0, 0, 0) else none) else (if pc = 26 then some (.if_icmp .ge 52, 0, 0, 0, 0) else none))) else (if pc < 33 then (if pc < 30 then (if pc = 29 then some (.aload_n 0, 0, 0, 0, 0) else none) else (if pc = 30 then some (.getfield 384, 0, 14, 261, 0) else none)) else (if pc < 35 then (if pc = 33 then some (.iload 4, 0, 0, 0, 0) else none) else (if pc = 35 then some (.invokevirtual 178, 0, 49, 633, 16520) else none)))) else (if pc < 46 then (if pc < 40 then (if pc = 38 then some (.iconst (-2), 2, 0, 0, 0) else none) else (if pc < 43 then (if pc = 40 then some (.if_icmp .ne 46, 0, 0, 0, 0) else none) else (if pc = 43 then some (.iinc 2 (1), 0, 0, 0, 0) else none))) else (if pc < 52 then (if pc < 49 then (if pc = 46 then some (.iinc 4 (1), 0, 0, 0, 0) else none) else (if pc = 49 then some (.goto 23, 0, 0, 0, 0) else none)) else (if pc < 53 then (if pc = 52 then some (.iload_n 2, 0, 0, 0, 0) else none) else (if pc = 53 then some (.ireturn, 0, 0, 0, 0) else none)))))
def hm_i142 (pc : Nat) : Option hm_Row := if pc < 54 then hm_j142 pc else none
/-- CurvekeyHouse$Pages.firstIn(I)I -/
def hm_j143 (pc : Nat) : Option hm_Row := if pc < 2 then (if pc < 1 then (if pc = 0 then some (.aload_n 0, 0, 0, 0, 0) else none) else (if pc = 1 then some (.iload_n 1, 0, 0, 0, 0) else none)) else (if pc < 3 then (if pc = 2 then some (.iconst 0, 1, 0, 0, 0) else none) else (if pc < 6 then (if pc = 3 then some (.invokevirtual 145, 0, 59, 707, 49414) else none) else (if pc = 6 then some (.ireturn, 0, 0, 0, 0) else none)))
def hm_i143 (pc : Nat) : Option hm_Row := if pc < 7 then hm_j143 pc else none
/-- CurvekeyHouse$Pages.lastIn(I)I -/
def hm_j144 (pc : Nat) : Option hm_Row := if pc < 4 then (if pc < 2 then (if pc < 1 then (if pc = 0 then some (.aload_n 0, 0, 0, 0, 0) else none) else (if pc = 1 then some (.iload_n 1, 0, 0, 0, 0) else none)) else (if pc < 3 then (if pc = 2 then some (.aload_n 0, 0, 0, 0, 0) else none) else (if pc = 3 then some (.iload_n 1, 0, 0, 0, 0) else none))) else (if pc < 8 then (if pc < 7 then (if pc = 4 then some (.invokevirtual 141, 0, 62, 703, 41094) else none) else (if pc = 7 then some (.iconst 1, 1, 0, 0, 0) else none)) else (if pc < 9 then (if pc = 8 then some (.isub, 0, 0, 0, 0) else none) else (if pc < 12 then (if pc = 9 then some (.invokevirtual 145, 0, 59, 707, 49414) else none) else (if pc = 12 then some (.ireturn, 0, 0, 0, 0) else none))))
def hm_i144 (pc : Nat) : Option hm_Row := if pc < 13 then hm_j144 pc else none
/-- CurvekeyHouse$Pages.entryIn(II)I -/
def hm_j145 (pc : Nat) : Option hm_Row := if pc < 28 then (if pc < 12 then (if pc < 6 then (if pc < 2 then (if pc < 1 then (if pc = 0 then some (.iconst 0, 1, 0, 0, 0) else none) else (if pc = 1 then some (.istore_n 3, 0, 0, 0, 0) else none)) else (if pc < 3 then (if pc = 2 then some (.aload_n 0, 0, 0, 0, 0) else none) else (if pc = 3 then some (.getfield 385, 0, 20, 262, 0) else none))) else (if pc < 8 then (if pc < 7 then (if pc = 6 then some (.iload_n 1, 0, 0, 0, 0) else none) else (if pc = 7 then some (.iconst 1, 1, 0, 0, 0) else none)) else (if pc < 9 then (if pc = 8 then some (.iadd, 0, 0, 0, 0) else none) else (if pc = 9 then some (.invokevirtual 178, 0, 49, 633, 16520) else none)))) else (if pc < 19 then (if pc < 15 then (if pc < 14 then (if pc = 12 then some (.istore 4, 0, 0, 0, 0) else none) else (if pc = 14 then some (.aload_n 0, 0, 0, 0, 0) else none)) else (if pc < 18 then (if pc = 15 then some (.getfield 385, 0, 20, 262, 0) else none) else (if pc = 18 then some (.iload_n 1, 0, 0, 0, 0) else none))) else (if pc < 24 then (if pc < 22 then (if pc = 19 then some (.invokevirtual 178, 0, 49, 633, 16520) else none) else (if pc = 22 then some (.istore 5, 0, 0, 0, 0) else none)) else (if pc < 26 then (if pc = 24 then some (.iload 5, 0, 0, 0, 0) else none) else (if pc = 26 then some (.iload 4, 0, 0, 0, 0) else none))))) else (if pc < 45 then (if pc < 37 then (if pc < 32 then (if pc < 31 then (if pc = 28 then some (.if_icmp .ge 61, 0, 0, 0, 0) else none) else (if pc = 31 then some (.aload_n 0, 0, 0, 0, 0) else none)) else (if pc < 35 then (if pc = 32 then some (.getfield 384, 0, 14, 261, 0) else none) else (if pc = 35 then some (.iload 5, 0, 0, 0, 0) else none))) else (if pc < 41 then (if pc < 40 then (if pc = 37 then some (.invokevirtual 178, 0, 49, 633, 16520) else none) else (if pc = 40 then some (.iconst (-1), 1, 0, 0, 0) else none)) else (if pc < 44 then (if pc = 41 then some (.if_icmp .eq 55, 0, 0, 0, 0) else none) else (if pc = 44 then some (.iload_n 3, 0, 0, 0, 0) else none)))) else (if pc < 52 then (if pc < 49 then (if pc < 46 then (if pc = 45 then some (.iload_n 2, 0, 0, 0, 0) else none) else (if pc = 46 then some (.if_icmp .ne 52, 0, 0, 0, 0) else none)) else (if pc < 51 then (if pc = 49 then some (.iload 5, 0, 0, 0, 0) else none) else (if pc = 51 then some (.ireturn, 0, 0, 0, 0) else none))) else (if pc < 58 then (if pc < 55 then (if pc = 52 then some (.iinc 3 (1), 0, 0, 0, 0) else none) else (if pc = 55 then some (.iinc 5 (1), 0, 0, 0, 0) else none)) else (if pc < 61 then (if pc = 58 then some (.goto 24, 0, 0, 0, 0) else none) else (if pc < 62 then (if pc = 61 then some (.iconst (-1), 1, 0, 0, 0) else none) else (if pc = 62 then some (.ireturn, 0, 0, 0, 0) else none))))))
def hm_i145 (pc : Nat) : Option hm_Row := if pc < 63 then hm_j145 pc else none
/-- CurvekeyHouse$Pages.machineOf(II)I -/
def hm_j146 (pc : Nat) : Option hm_Row := if pc < 12 then (if pc < 5 then (if pc < 1 then (if pc = 0 then some (.aload_n 0, 0, 0, 0, 0) else none) else (if pc < 4 then (if pc = 1 then some (.getfield 388, 0, 40, 265, 0) else none) else (if pc = 4 then some (.iconst 1, 1, 0, 0, 0) else none))) else (if pc < 8 then (if pc = 5 then some (.if_icmp .ge 12, 0, 0, 0, 0) else none) else (if pc < 9 then (if pc = 8 then some (.iconst 0, 1, 0, 0, 0) else none) else (if pc = 9 then some (.goto 20, 0, 0, 0, 0) else none)))) else (if pc < 15 then (if pc < 13 then (if pc = 12 then some (.iload_n 1, 0, 0, 0, 0) else none) else (if pc < 14 then (if pc = 13 then some (.iload_n 2, 0, 0, 0, 0) else none) else (if pc = 14 then some (.imul, 0, 0, 0, 0) else none))) else (if pc < 19 then (if pc < 16 then (if pc = 15 then some (.aload_n 0, 0, 0, 0, 0) else none) else (if pc = 16 then some (.getfield 388, 0, 40, 265, 0) else none)) else (if pc < 20 then (if pc = 19 then some (.idiv, 0, 0, 0, 0) else none) else (if pc = 20 then some (.ireturn, 0, 0, 0, 0) else none))))
def hm_i146 (pc : Nat) : Option hm_Row := if pc < 21 then hm_j146 pc else none
/-- CurvekeyHouse$Pages.loadOf(II)I -/
def hm_j147 (pc : Nat) : Option hm_Row := if pc < 25 then (if pc < 11 then (if pc < 3 then (if pc < 1 then (if pc = 0 then some (.iconst 0, 1, 0, 0, 0) else none) else (if pc < 2 then (if pc = 1 then some (.istore_n 3, 0, 0, 0, 0) else none) else (if pc = 2 then some (.iconst 0, 1, 0, 0, 0) else none))) else (if pc < 7 then (if pc < 5 then (if pc = 3 then some (.istore 4, 0, 0, 0, 0) else none) else (if pc = 5 then some (.iload 4, 0, 0, 0, 0) else none)) else (if pc < 8 then (if pc = 7 then some (.aload_n 0, 0, 0, 0, 0) else none) else (if pc = 8 then some (.getfield 388, 0, 40, 265, 0) else none)))) else (if pc < 17 then (if pc < 14 then (if pc = 11 then some (.if_icmp .ge 47, 0, 0, 0, 0) else none) else (if pc < 15 then (if pc = 14 then some (.aload_n 0, 0, 0, 0, 0) else none) else (if pc = 15 then some (.iload 4, 0, 0, 0, 0) else none))) else (if pc < 21 then (if pc < 18 then (if pc = 17 then some (.iload_n 2, 0, 0, 0, 0) else none) else (if pc = 18 then some (.invokevirtual 146, 0, 65, 1026, 24838) else none)) else (if pc < 22 then (if pc = 21 then some (.iload_n 1, 0, 0, 0, 0) else none) else (if pc = 22 then some (.if_icmp .ne 41, 0, 0, 0, 0) else none))))) else (if pc < 38 then (if pc < 29 then (if pc < 26 then (if pc = 25 then some (.iload_n 3, 0, 0, 0, 0) else none) else (if pc < 27 then (if pc = 26 then some (.aload_n 0, 0, 0, 0, 0) else none) else (if pc = 27 then some (.iload 4, 0, 0, 0, 0) else none))) else (if pc < 33 then (if pc < 32 then (if pc = 29 then some (.invokevirtual 141, 0, 62, 703, 41094) else none) else (if pc = 32 then some (.aload_n 0, 0, 0, 0, 0) else none)) else (if pc < 35 then (if pc = 33 then some (.iload 4, 0, 0, 0, 0) else none) else (if pc = 35 then some (.invokevirtual 142, 0, 68, 1027, 41094) else none)))) else (if pc < 41 then (if pc < 39 then (if pc = 38 then some (.isub, 0, 0, 0, 0) else none) else (if pc < 40 then (if pc = 39 then some (.iadd, 0, 0, 0, 0) else none) else (if pc = 40 then some (.istore_n 3, 0, 0, 0, 0) else none))) else (if pc < 47 then (if pc < 44 then (if pc = 41 then some (.iinc 4 (1), 0, 0, 0, 0) else none) else (if pc = 44 then some (.goto 5, 0, 0, 0, 0) else none)) else (if pc < 48 then (if pc = 47 then some (.iload_n 3, 0, 0, 0, 0) else none) else (if pc = 48 then some (.ireturn, 0, 0, 0, 0) else none)))))
def hm_i147 (pc : Nat) : Option hm_Row := if pc < 49 then hm_j147 pc else none
/-- CurvekeyHouse$Pages.ownedBy(II)I -/
def hm_j148 (pc : Nat) : Option hm_Row := if pc < 15 then (if pc < 5 then (if pc < 2 then (if pc < 1 then (if pc = 0 then some (.iconst 0, 1, 0, 0, 0) else none) else (if pc = 1 then some (.istore_n 3, 0, 0, 0, 0) else none)) else (if pc < 3 then (if pc = 2 then some (.iconst 0, 1, 0, 0, 0) else none) else (if pc = 3 then some (.istore 4, 0, 0, 0, 0) else none))) else (if pc < 8 then (if pc < 7 then (if pc = 5 then some (.iload 4, 0, 0, 0, 0) else none) else (if pc = 7 then some (.aload_n 0, 0, 0, 0, 0) else none)) else (if pc < 11 then (if pc = 8 then some (.getfield 388, 0, 40, 265, 0) else none) else (if pc < 14 then (if pc = 11 then some (.if_icmp .ge 34, 0, 0, 0, 0) else none) else (if pc = 14 then some (.aload_n 0, 0, 0, 0, 0) else none))))) else (if pc < 25 then (if pc < 18 then (if pc < 17 then (if pc = 15 then some (.iload 4, 0, 0, 0, 0) else none) else (if pc = 17 then some (.iload_n 2, 0, 0, 0, 0) else none)) else (if pc < 21 then (if pc = 18 then some (.invokevirtual 146, 0, 65, 1026, 24838) else none) else (if pc < 22 then (if pc = 21 then some (.iload_n 1, 0, 0, 0, 0) else none) else (if pc = 22 then some (.if_icmp .ne 28, 0, 0, 0, 0) else none)))) else (if pc < 31 then (if pc < 28 then (if pc = 25 then some (.iinc 3 (1), 0, 0, 0, 0) else none) else (if pc = 28 then some (.iinc 4 (1), 0, 0, 0, 0) else none)) else (if pc < 34 then (if pc = 31 then some (.goto 5, 0, 0, 0, 0) else none) else (if pc < 35 then (if pc = 34 then some (.iload_n 3, 0, 0, 0, 0) else none) else (if pc = 35 then some (.ireturn, 0, 0, 0, 0) else none)))))
def hm_i148 (pc : Nat) : Option hm_Row := if pc < 36 then hm_j148 pc else none
/-- CurvekeyHouse$Pages.firstFloorOf(II)I -/
def hm_j149 (pc : Nat) : Option hm_Row := if pc < 16 then (if pc < 7 then (if pc < 2 then (if pc < 1 then (if pc = 0 then some (.iconst 0, 1, 0, 0, 0) else none) else (if pc = 1 then some (.istore_n 3, 0, 0, 0, 0) else none)) else (if pc < 3 then (if pc = 2 then some (.iload_n 3, 0, 0, 0, 0) else none) else (if pc < 4 then (if pc = 3 then some (.aload_n 0, 0, 0, 0, 0) else none) else (if pc = 4 then some (.getfield 388, 0, 40, 265, 0) else none)))) else (if pc < 11 then (if pc < 10 then (if pc = 7 then some (.if_icmp .ge 35, 0, 0, 0, 0) else none) else (if pc = 10 then some (.aload_n 0, 0, 0, 0, 0) else none)) else (if pc < 12 then (if pc = 11 then some (.iload_n 3, 0, 0, 0, 0) else none) else (if pc < 13 then (if pc = 12 then some (.iload_n 2, 0, 0, 0, 0) else none) else (if pc = 13 then some (.invokevirtual 146, 0, 65, 1026, 24838) else none))))) else (if pc < 25 then (if pc < 20 then (if pc < 17 then (if pc = 16 then some (.iload_n 1, 0, 0, 0, 0) else none) else (if pc = 17 then some (.if_icmp .ne 29, 0, 0, 0, 0) else none)) else (if pc < 21 then (if pc = 20 then some (.aload_n 0, 0, 0, 0, 0) else none) else (if pc < 24 then (if pc = 21 then some (.getfield 385, 0, 20, 262, 0) else none) else (if pc = 24 then some (.iload_n 3, 0, 0, 0, 0) else none)))) else (if pc < 32 then (if pc < 28 then (if pc = 25 then some (.invokevirtual 178, 0, 49, 633, 16520) else none) else (if pc < 29 then (if pc = 28 then some (.ireturn, 0, 0, 0, 0) else none) else (if pc = 29 then some (.iinc 3 (1), 0, 0, 0, 0) else none))) else (if pc < 35 then (if pc = 32 then some (.goto 2, 0, 0, 0, 0) else none) else (if pc < 36 then (if pc = 35 then some (.iconst (-1), 1, 0, 0, 0) else none) else (if pc = 36 then some (.ireturn, 0, 0, 0, 0) else none)))))
def hm_i149 (pc : Nat) : Option hm_Row := if pc < 37 then hm_j149 pc else none
/-- CurvekeyHouse$Pages.enter(II)V -/
def hm_j150 (pc : Nat) : Option hm_Row := if pc < 54 then (if pc < 27 then (if pc < 14 then (if pc < 5 then (if pc < 1 then (if pc = 0 then some (.aload_n 0, 0, 0, 0, 0) else none) else (if pc < 4 then (if pc = 1 then some (.getfield 384, 0, 14, 261, 0) else none) else (if pc = 4 then some (.iload_n 1, 0, 0, 0, 0) else none))) else (if pc < 10 then (if pc < 8 then (if pc = 5 then some (.invokevirtual 178, 0, 49, 633, 16520) else none) else (if pc = 8 then some (.iconst (-2), 2, 0, 0, 0) else none)) else (if pc < 13 then (if pc = 10 then some (.if_icmp .ne 23, 0, 0, 0, 0) else none) else (if pc = 13 then some (.aload_n 0, 0, 0, 0, 0) else none)))) else (if pc < 19 then (if pc < 15 then (if pc = 14 then some (.dup, 0, 0, 0, 0) else none) else (if pc < 18 then (if pc = 15 then some (.getfield 389, 0, 43, 266, 0) else none) else (if pc = 18 then some (.iconst 1, 1, 0, 0, 0) else none))) else (if pc < 23 then (if pc < 20 then (if pc = 19 then some (.isub, 0, 0, 0, 0) else none) else (if pc = 20 then some (.putfield 389, 0, 43, 266, 0) else none)) else (if pc < 24 then (if pc = 23 then some (.aload_n 0, 0, 0, 0, 0) else none) else (if pc = 24 then some (.getfield 384, 0, 14, 261, 0) else none))))) else (if pc < 38 then (if pc < 32 then (if pc < 28 then (if pc = 27 then some (.iload_n 1, 0, 0, 0, 0) else none) else (if pc < 29 then (if pc = 28 then some (.iload_n 2, 0, 0, 0, 0) else none) else (if pc = 29 then some (.invokevirtual 179, 0, 37, 260, 24840) else none))) else (if pc < 34 then (if pc < 33 then (if pc = 32 then some (.aload_n 0, 0, 0, 0, 0) else none) else (if pc = 33 then some (.iload_n 1, 0, 0, 0, 0) else none)) else (if pc < 37 then (if pc = 34 then some (.invokevirtual 139, 0, 71, 699, 32902) else none) else (if pc = 37 then some (.istore_n 3, 0, 0, 0, 0) else none)))) else (if pc < 45 then (if pc < 40 then (if pc < 39 then (if pc = 38 then some (.aload_n 0, 0, 0, 0, 0) else none) else (if pc = 39 then some (.iload_n 3, 0, 0, 0, 0) else none)) else (if pc < 43 then (if pc = 40 then some (.invokevirtual 141, 0, 62, 703, 41094) else none) else (if pc = 43 then some (.istore 4, 0, 0, 0, 0) else none))) else (if pc < 48 then (if pc < 47 then (if pc = 45 then some (.iload 4, 0, 0, 0, 0) else none) else (if pc = 47 then some (.aload_n 0, 0, 0, 0, 0) else none)) else (if pc < 51 then (if pc = 48 then some (.getfield 387, 0, 31, 264, 0) else none) else (if pc = 51 then some (.if_icmp .le 99, 0, 0, 0, 0) else none)))))) else (if pc < 73 then (if pc < 65 then (if pc < 59 then (if pc < 55 then (if pc = 54 then some (.aload_n 0, 0, 0, 0, 0) else none) else (if pc < 58 then (if pc = 55 then some (.getfield 385, 0, 20, 262, 0) else none) else (if pc = 58 then some (.iload_n 3, 0, 0, 0, 0) else none))) else (if pc < 61 then (if pc < 60 then (if pc = 59 then some (.iconst 1, 1, 0, 0, 0) else none) else (if pc = 60 then some (.iadd, 0, 0, 0, 0) else none)) else (if pc < 62 then (if pc = 61 then some (.aload_n 0, 0, 0, 0, 0) else none) else (if pc = 62 then some (.getfield 388, 0, 40, 265, 0) else none)))) else (if pc < 68 then (if pc < 66 then (if pc = 65 then some (.iconst 1, 1, 0, 0, 0) else none) else (if pc < 67 then (if pc = 66 then some (.iadd, 0, 0, 0, 0) else none) else (if pc = 67 then some (.aload_n 0, 0, 0, 0, 0) else none))) else (if pc < 71 then (if pc < 69 then (if pc = 68 then some (.iload_n 3, 0, 0, 0, 0) else none) else (if pc = 69 then some (.iload 4, 0, 0, 0, 0) else none)) else (if pc < 72 then (if pc = 71 then some (.iconst 2, 1, 0, 0, 0) else none) else (if pc = 72 then some (.idiv, 0, 0, 0, 0) else none))))) else (if pc < 86 then (if pc < 80 then (if pc < 76 then (if pc = 73 then some (.invokevirtual 145, 0, 59, 707, 49414) else none) else (if pc < 79 then (if pc = 76 then some (.invokevirtual 182, 0, 74, 711, 41352) else none) else (if pc = 79 then some (.aload_n 0, 0, 0, 0, 0) else none))) else (if pc < 84 then (if pc < 81 then (if pc = 80 then some (.dup, 0, 0, 0, 0) else none) else (if pc = 81 then some (.getfield 388, 0, 40, 265, 0) else none)) else (if pc < 85 then (if pc = 84 then some (.iconst 1, 1, 0, 0, 0) else none) else (if pc = 85 then some (.iadd, 0, 0, 0, 0) else none)))) else (if pc < 94 then (if pc < 90 then (if pc < 89 then (if pc = 86 then some (.putfield 388, 0, 40, 265, 0) else none) else (if pc = 89 then some (.aload_n 0, 0, 0, 0, 0) else none)) else (if pc < 91 then (if pc = 90 then some (.dup, 0, 0, 0, 0) else none) else (if pc = 91 then some (.getfield 390, 0, 46, 267, 0) else none))) else (if pc < 96 then (if pc < 95 then (if pc = 94 then some (.iconst 1, 1, 0, 0, 0) else none) else (if pc = 95 then some (.iadd, 0, 0, 0, 0) else none)) else (if pc < 99 then (if pc = 96 then some (.putfield 390, 0, 46, 267, 0) else none) else (if pc = 99 then some (.return_, 0, 0, 0, 0) else none))))))
def hm_i150 (pc : Nat) : Option hm_Row := if pc < 100 then hm_j150 pc else none
/-- CurvekeyHouse$Pages.bury(I)V -/
def hm_j151 (pc : Nat) : Option hm_Row := if pc < 11 then (if pc < 5 then (if pc < 1 then (if pc = 0 then some (.aload_n 0, 0, 0, 0, 0) else none) else (if pc < 4 then (if pc = 1 then some (.getfield 384, 0, 14, 261, 0) else none) else (if pc = 4 then some (.iload_n 1, 0, 0, 0, 0) else none))) else (if pc < 7 then (if pc = 5 then some (.iconst (-2), 2, 0, 0, 0) else none) else (if pc < 10 then (if pc = 7 then some (.invokevirtual 179, 0, 37, 260, 24840) else none) else (if pc = 10 then some (.aload_n 0, 0, 0, 0, 0) else none)))) else (if pc < 16 then (if pc < 12 then (if pc = 11 then some (.dup, 0, 0, 0, 0) else none) else (if pc < 15 then (if pc = 12 then some (.getfield 389, 0, 43, 266, 0) else none) else (if pc = 15 then some (.iconst 1, 1, 0, 0, 0) else none))) else (if pc < 17 then (if pc = 16 then some (.iadd, 0, 0, 0, 0) else none) else (if pc < 20 then (if pc = 17 then some (.putfield 389, 0, 43, 266, 0) else none) else (if pc = 20 then some (.return_, 0, 0, 0, 0) else none))))
def hm_i151 (pc : Nat) : Option hm_Row := if pc < 21 then hm_j151 pc else none
/-- CurvekeyHouse$Pages.clean()I -/
def hm_j152 (pc : Nat) : Option hm_Row := if pc < 25 then (if pc < 9 then (if pc < 5 then (if pc < 1 then (if pc = 0 then some (.aload_n 0, 0, 0, 0, 0) else none) else (if pc < 4 then (if pc = 1 then some (.getfield 389, 0, 43, 266, 0) else none) else (if pc = 4 then some (.istore_n 1, 0, 0, 0, 0) else none))) else (if pc < 7 then (if pc < 6 then (if pc = 5 then some (.iconst 0, 1, 0, 0, 0) else none) else (if pc = 6 then some (.istore_n 2, 0, 0, 0, 0) else none)) else (if pc < 8 then (if pc = 7 then some (.iload_n 2, 0, 0, 0, 0) else none) else (if pc = 8 then some (.aload_n 0, 0, 0, 0, 0) else none)))) else (if pc < 16 then (if pc < 12 then (if pc = 9 then some (.getfield 386, 0, 27, 263, 0) else none) else (if pc < 15 then (if pc = 12 then some (.if_icmp .ge 43, 0, 0, 0, 0) else none) else (if pc = 15 then some (.aload_n 0, 0, 0, 0, 0) else none))) else (if pc < 20 then (if pc < 19 then (if pc = 16 then some (.getfield 384, 0, 14, 261, 0) else none) else (if pc = 19 then some (.iload_n 2, 0, 0, 0, 0) else none)) else (if pc < 23 then (if pc = 20 then some (.invokevirtual 178, 0, 49, 633, 16520) else none) else (if pc = 23 then some (.iconst (-2), 2, 0, 0, 0) else none))))) else (if pc < 40 then (if pc < 32 then (if pc < 28 then (if pc = 25 then some (.if_icmp .ne 37, 0, 0, 0, 0) else none) else (if pc < 29 then (if pc = 28 then some (.aload_n 0, 0, 0, 0, 0) else none) else (if pc = 29 then some (.getfield 384, 0, 14, 261, 0) else none))) else (if pc < 34 then (if pc < 33 then (if pc = 32 then some (.iload_n 2, 0, 0, 0, 0) else none) else (if pc = 33 then some (.iconst (-1), 1, 0, 0, 0) else none)) else (if pc < 37 then (if pc = 34 then some (.invokevirtual 179, 0, 37, 260, 24840) else none) else (if pc = 37 then some (.iinc 2 (1), 0, 0, 0, 0) else none)))) else (if pc < 48 then (if pc < 44 then (if pc < 43 then (if pc = 40 then some (.goto 7, 0, 0, 0, 0) else none) else (if pc = 43 then some (.aload_n 0, 0, 0, 0, 0) else none)) else (if pc < 45 then (if pc = 44 then some (.iconst 0, 1, 0, 0, 0) else none) else (if pc = 45 then some (.putfield 389, 0, 43, 266, 0) else none))) else (if pc < 52 then (if pc < 49 then (if pc = 48 then some (.aload_n 0, 0, 0, 0, 0) else none) else (if pc = 49 then some (.invokevirtual 153, 0, 78, 820, 24582) else none)) else (if pc < 53 then (if pc = 52 then some (.iload_n 1, 0, 0, 0, 0) else none) else (if pc = 53 then some (.ireturn, 0, 0, 0, 0) else none)))))
def hm_i152 (pc : Nat) : Option hm_Row := if pc < 54 then hm_j152 pc else none
/-- CurvekeyHouse$Pages.joinSmall()V -/
def hm_j153 (pc : Nat) : Option hm_Row := if pc < 31 then (if pc < 14 then (if pc < 7 then (if pc < 2 then (if pc < 1 then (if pc = 0 then some (.iconst 0, 1, 0, 0, 0) else none) else (if pc = 1 then some (.istore_n 1, 0, 0, 0, 0) else none)) else (if pc < 3 then (if pc = 2 then some (.aload_n 0, 0, 0, 0, 0) else none) else (if pc < 6 then (if pc = 3 then some (.getfield 388, 0, 40, 265, 0) else none) else (if pc = 6 then some (.istore_n 2, 0, 0, 0, 0) else none)))) else (if pc < 9 then (if pc < 8 then (if pc = 7 then some (.iload_n 2, 0, 0, 0, 0) else none) else (if pc = 8 then some (.iconst 1, 1, 0, 0, 0) else none)) else (if pc < 12 then (if pc = 9 then some (.if_icmp .le 72, 0, 0, 0, 0) else none) else (if pc < 13 then (if pc = 12 then some (.aload_n 0, 0, 0, 0, 0) else none) else (if pc = 13 then some (.iload_n 1, 0, 0, 0, 0) else none))))) else (if pc < 21 then (if pc < 18 then (if pc < 17 then (if pc = 14 then some (.invokevirtual 141, 0, 62, 703, 41094) else none) else (if pc = 17 then some (.aload_n 0, 0, 0, 0, 0) else none)) else (if pc < 19 then (if pc = 18 then some (.iload_n 1, 0, 0, 0, 0) else none) else (if pc < 20 then (if pc = 19 then some (.iconst 1, 1, 0, 0, 0) else none) else (if pc = 20 then some (.iadd, 0, 0, 0, 0) else none)))) else (if pc < 26 then (if pc < 24 then (if pc = 21 then some (.invokevirtual 141, 0, 62, 703, 41094) else none) else (if pc < 25 then (if pc = 24 then some (.iadd, 0, 0, 0, 0) else none) else (if pc = 25 then some (.aload_n 0, 0, 0, 0, 0) else none))) else (if pc < 29 then (if pc = 26 then some (.getfield 387, 0, 31, 264, 0) else none) else (if pc < 30 then (if pc = 29 then some (.iconst 2, 1, 0, 0, 0) else none) else (if pc = 30 then some (.idiv, 0, 0, 0, 0) else none)))))) else (if pc < 50 then (if pc < 40 then (if pc < 35 then (if pc < 34 then (if pc = 31 then some (.if_icmp .gt 63, 0, 0, 0, 0) else none) else (if pc = 34 then some (.aload_n 0, 0, 0, 0, 0) else none)) else (if pc < 38 then (if pc = 35 then some (.getfield 385, 0, 20, 262, 0) else none) else (if pc < 39 then (if pc = 38 then some (.iload_n 1, 0, 0, 0, 0) else none) else (if pc = 39 then some (.iconst 1, 1, 0, 0, 0) else none)))) else (if pc < 45 then (if pc < 41 then (if pc = 40 then some (.iadd, 0, 0, 0, 0) else none) else (if pc < 42 then (if pc = 41 then some (.aload_n 0, 0, 0, 0, 0) else none) else (if pc = 42 then some (.getfield 388, 0, 40, 265, 0) else none))) else (if pc < 46 then (if pc = 45 then some (.iconst 1, 1, 0, 0, 0) else none) else (if pc < 47 then (if pc = 46 then some (.iadd, 0, 0, 0, 0) else none) else (if pc = 47 then some (.invokevirtual 183, 0, 81, 824, 33032) else none))))) else (if pc < 57 then (if pc < 52 then (if pc < 51 then (if pc = 50 then some (.aload_n 0, 0, 0, 0, 0) else none) else (if pc = 51 then some (.dup, 0, 0, 0, 0) else none)) else (if pc < 55 then (if pc = 52 then some (.getfield 388, 0, 40, 265, 0) else none) else (if pc < 56 then (if pc = 55 then some (.iconst 1, 1, 0, 0, 0) else none) else (if pc = 56 then some (.isub, 0, 0, 0, 0) else none)))) else (if pc < 66 then (if pc < 60 then (if pc = 57 then some (.putfield 388, 0, 40, 265, 0) else none) else (if pc < 63 then (if pc = 60 then some (.goto 66, 0, 0, 0, 0) else none) else (if pc = 63 then some (.iinc 1 (1), 0, 0, 0, 0) else none))) else (if pc < 69 then (if pc = 66 then some (.iinc 2 (-1), 0, 0, 0, 0) else none) else (if pc < 72 then (if pc = 69 then some (.goto 7, 0, 0, 0, 0) else none) else (if pc = 72 then some (.return_, 0, 0, 0, 0) else none))))))
def hm_i153 (pc : Nat) : Option hm_Row := if pc < 73 then hm_j153 pc else none
/-- CurvekeyHouse$Pages.isOrdered()Z -/
def hm_j154 (pc : Nat) : Option hm_Row := if pc < 32 then (if pc < 15 then (if pc < 8 then (if pc < 4 then (if pc < 1 then (if pc = 0 then some (.aload_n 0, 0, 0, 0, 0) else none) else (if pc = 1 then some (.getfield 385, 0, 20, 262, 0) else none)) else (if pc < 5 then (if pc = 4 then some (.iconst 0, 1, 0, 0, 0) else none) else (if pc = 5 then some (.invokevirtual 178, 0, 49, 633, 16520) else none))) else (if pc < 12 then (if pc < 11 then (if pc = 8 then some (.ifCond .eq 13, 0, 0, 0, 0) else none) else (if pc = 11 then some (.iconst 0, 1, 0, 0, 0) else none)) else (if pc < 13 then (if pc = 12 then some (.ireturn, 0, 1, 0, 0) else none) else (if pc < 14 then (if pc = 13 then some (.iconst 0, 1, 0, 0, 0) else none) else (if pc = 14 then some (.istore_n 1, 0, 0, 0, 0) else none))))) else (if pc < 23 then (if pc < 17 then (if pc < 16 then (if pc = 15 then some (.iload_n 1, 0, 0, 0, 0) else none) else (if pc = 16 then some (.aload_n 0, 0, 0, 0, 0) else none)) else (if pc < 20 then (if pc = 17 then some (.getfield 388, 0, 40, 265, 0) else none) else (if pc = 20 then some (.if_icmp .ge 64, 0, 0, 0, 0) else none))) else (if pc < 25 then (if pc < 24 then (if pc = 23 then some (.aload_n 0, 0, 0, 0, 0) else none) else (if pc = 24 then some (.iload_n 1, 0, 0, 0, 0) else none)) else (if pc < 28 then (if pc = 25 then some (.invokevirtual 141, 0, 62, 703, 41094) else none) else (if pc < 29 then (if pc = 28 then some (.aload_n 0, 0, 0, 0, 0) else none) else (if pc = 29 then some (.getfield 387, 0, 31, 264, 0) else none)))))) else (if pc < 49 then (if pc < 40 then (if pc < 36 then (if pc < 35 then (if pc = 32 then some (.if_icmp .gt 56, 0, 0, 0, 0) else none) else (if pc = 35 then some (.aload_n 0, 0, 0, 0, 0) else none)) else (if pc < 39 then (if pc = 36 then some (.getfield 385, 0, 20, 262, 0) else none) else (if pc = 39 then some (.iload_n 1, 0, 0, 0, 0) else none))) else (if pc < 42 then (if pc < 41 then (if pc = 40 then some (.iconst 1, 1, 0, 0, 0) else none) else (if pc = 41 then some (.iadd, 0, 0, 0, 0) else none)) else (if pc < 45 then (if pc = 42 then some (.invokevirtual 178, 0, 49, 633, 16520) else none) else (if pc < 46 then (if pc = 45 then some (.aload_n 0, 0, 0, 0, 0) else none) else (if pc = 46 then some (.getfield 385, 0, 20, 262, 0) else none))))) else (if pc < 57 then (if pc < 53 then (if pc < 50 then (if pc = 49 then some (.iload_n 1, 0, 0, 0, 0) else none) else (if pc = 50 then some (.invokevirtual 178, 0, 49, 633, 16520) else none)) else (if pc < 56 then (if pc = 53 then some (.if_icmp .gt 58, 0, 0, 0, 0) else none) else (if pc = 56 then some (.iconst 0, 1, 0, 0, 0) else none))) else (if pc < 61 then (if pc < 58 then (if pc = 57 then some (.ireturn, 0, 1, 0, 0) else none) else (if pc = 58 then some (.iinc 1 (1), 0, 0, 0, 0) else none)) else (if pc < 64 then (if pc = 61 then some (.goto 15, 0, 0, 0, 0) else none) else (if pc < 65 then (if pc = 64 then some (.iconst 1, 1, 0, 0, 0) else none) else (if pc = 65 then some (.ireturn, 0, 1, 0, 0) else none))))))
def hm_i154 (pc : Nat) : Option hm_Row := if pc < 66 then hm_j154 pc else none
/-- CurvekeyHouse$Points.<init>()V -/
def hm_j155 (pc : Nat) : Option hm_Row := if pc < 34 then (if pc < 17 then (if pc < 8 then (if pc < 4 then (if pc < 1 then (if pc = 0 then some (.aload_n 0, 0, 0, 0, 0) else none) else (if pc = 1 then some (.invokespecial 1000, 0, 3, 180, 0) else none)) else (if pc < 5 then (if pc = 4 then some (.aload_n 0, 0, 0, 0, 0) else none) else (if pc = 5 then some (.new 8, 0, 9, 181, 0) else none))) else (if pc < 11 then (if pc < 9 then (if pc = 8 then some (.dup, 0, 0, 0, 0) else none) else (if pc = 9 then some (.iconst (80), 2, 0, 0, 0) else none)) else (if pc < 14 then (if pc = 11 then some (.invokespecial 177, 0, 11, 182, 16520) else none) else (if pc = 14 then some (.putfield 448, 0, 14, 183, 0) else none)))) else (if pc < 24 then (if pc < 21 then (if pc < 18 then (if pc = 17 then some (.aload_n 0, 0, 0, 0, 0) else none) else (if pc = 18 then some (.new 8, 0, 9, 181, 0) else none)) else (if pc < 22 then (if pc = 21 then some (.dup, 0, 0, 0, 0) else none) else (if pc = 22 then some (.iconst (80), 2, 0, 0, 0) else none))) else (if pc < 30 then (if pc < 27 then (if pc = 24 then some (.invokespecial 177, 0, 11, 182, 16520) else none) else (if pc = 27 then some (.putfield 449, 0, 20, 184, 0) else none)) else (if pc < 31 then (if pc = 30 then some (.aload_n 0, 0, 0, 0, 0) else none) else (if pc = 31 then some (.new 8, 0, 9, 181, 0) else none))))) else (if pc < 50 then (if pc < 43 then (if pc < 37 then (if pc < 35 then (if pc = 34 then some (.dup, 0, 0, 0, 0) else none) else (if pc = 35 then some (.iconst (80), 2, 0, 0, 0) else none)) else (if pc < 40 then (if pc = 37 then some (.invokespecial 177, 0, 11, 182, 16520) else none) else (if pc = 40 then some (.putfield 450, 0, 23, 185, 0) else none))) else (if pc < 47 then (if pc < 44 then (if pc = 43 then some (.aload_n 0, 0, 0, 0, 0) else none) else (if pc = 44 then some (.new 8, 0, 9, 181, 0) else none)) else (if pc < 48 then (if pc = 47 then some (.dup, 0, 0, 0, 0) else none) else (if pc = 48 then some (.iconst (80), 2, 0, 0, 0) else none)))) else (if pc < 60 then (if pc < 56 then (if pc < 53 then (if pc = 50 then some (.invokespecial 177, 0, 11, 182, 16520) else none) else (if pc = 53 then some (.putfield 451, 0, 26, 186, 0) else none)) else (if pc < 57 then (if pc = 56 then some (.aload_n 0, 0, 0, 0, 0) else none) else (if pc = 57 then some (.new 8, 0, 9, 181, 0) else none))) else (if pc < 63 then (if pc < 61 then (if pc = 60 then some (.dup, 0, 0, 0, 0) else none) else (if pc = 61 then some (.iconst (80), 2, 0, 0, 0) else none)) else (if pc < 66 then (if pc = 63 then some (.invokespecial 177, 0, 11, 182, 16520) else none) else (if pc < 69 then (if pc = 66 then some (.putfield 452, 0, 29, 187, 0) else none) else (if pc = 69 then some (.return_, 0, 0, 0, 0) else none))))))
def hm_i155 (pc : Nat) : Option hm_Row := if pc < 70 then hm_j155 pc else none
/-- CurvekeyHouse$Points.clear()V -/
def hm_j156 (pc : Nat) : Option hm_Row := if pc < 5 then (if pc < 1 then (if pc = 0 then some (.aload_n 0, 0, 0, 0, 0) else none) else (if pc < 2 then (if pc = 1 then some (.iconst 0, 1, 0, 0, 0) else none) else (if pc = 2 then some (.putfield 453, 0, 32, 188, 0) else none))) else (if pc < 7 then (if pc < 6 then (if pc = 5 then some (.aload_n 0, 0, 0, 0, 0) else none) else (if pc = 6 then some (.iconst 0, 1, 0, 0, 0) else none)) else (if pc < 10 then (if pc = 7 then some (.putfield 454, 0, 36, 189, 0) else none) else (if pc = 10 then some (.return_, 0, 0, 0, 0) else none)))
def hm_i156 (pc : Nat) : Option hm_Row := if pc < 11 then hm_j156 pc else none
/-- CurvekeyHouse$Points.size()I -/
def hm_j157 (pc : Nat) : Option hm_Row := if pc < 1 then (if pc = 0 then some (.aload_n 0, 0, 0, 0, 0) else none) else (if pc < 4 then (if pc = 1 then some (.getfield 453, 0, 32, 188, 0) else none) else (if pc = 4 then some (.ireturn, 0, 0, 0, 0) else none))
def hm_i157 (pc : Nat) : Option hm_Row := if pc < 5 then hm_j157 pc else none
/-- CurvekeyHouse$Points.living()I -/
def hm_j158 (pc : Nat) : Option hm_Row := if pc < 1 then (if pc = 0 then some (.aload_n 0, 0, 0, 0, 0) else none) else (if pc < 4 then (if pc = 1 then some (.getfield 454, 0, 36, 189, 0) else none) else (if pc = 4 then some (.ireturn, 0, 0, 0, 0) else none))
def hm_i158 (pc : Nat) : Option hm_Row := if pc < 5 then hm_j158 pc else none
/-- CurvekeyHouse$Points.isKnown(I)Z -/
def hm_j159 (pc : Nat) : Option hm_Row := if pc < 9 then (if pc < 4 then (if pc < 1 then (if pc = 0 then some (.iload_n 1, 0, 0, 0, 0) else none) else (if pc = 1 then some (.ifCond .lt 16, 0, 0, 0, 0) else none)) else (if pc < 5 then (if pc = 4 then some (.iload_n 1, 0, 0, 0, 0) else none) else (if pc < 6 then (if pc = 5 then some (.aload_n 0, 0, 0, 0, 0) else none) else (if pc = 6 then some (.getfield 453, 0, 32, 188, 0) else none)))) else (if pc < 13 then (if pc < 12 then (if pc = 9 then some (.if_icmp .ge 16, 0, 0, 0, 0) else none) else (if pc = 12 then some (.iconst 1, 1, 0, 0, 0) else none)) else (if pc < 16 then (if pc = 13 then some (.goto 17, 0, 0, 0, 0) else none) else (if pc < 17 then (if pc = 16 then some (.iconst 0, 1, 0, 0, 0) else none) else (if pc = 17 then some (.ireturn, 0, 1, 0, 0) else none))))
def hm_i159 (pc : Nat) : Option hm_Row := if pc < 18 then hm_j159 pc else none
/-- CurvekeyHouse$Points.isAlive(I)Z -/
def hm_j160 (pc : Nat) : Option hm_Row := if pc < 13 then (if pc < 5 then (if pc < 1 then (if pc = 0 then some (.aload_n 0, 0, 0, 0, 0) else none) else (if pc < 2 then (if pc = 1 then some (.iload_n 1, 0, 0, 0, 0) else none) else (if pc = 2 then some (.invokevirtual 159, 0, 39, 774, 16519) else none))) else (if pc < 9 then (if pc < 8 then (if pc = 5 then some (.ifCond .eq 24, 0, 0, 0, 0) else none) else (if pc = 8 then some (.aload_n 0, 0, 0, 0, 0) else none)) else (if pc < 12 then (if pc = 9 then some (.getfield 450, 0, 23, 185, 0) else none) else (if pc = 12 then some (.iload_n 1, 0, 0, 0, 0) else none)))) else (if pc < 20 then (if pc < 16 then (if pc = 13 then some (.invokevirtual 178, 0, 43, 775, 16520) else none) else (if pc < 17 then (if pc = 16 then some (.iconst 1, 1, 0, 0, 0) else none) else (if pc = 17 then some (.if_icmp .ne 24, 0, 0, 0, 0) else none))) else (if pc < 24 then (if pc < 21 then (if pc = 20 then some (.iconst 1, 1, 0, 0, 0) else none) else (if pc = 21 then some (.goto 25, 0, 0, 0, 0) else none)) else (if pc < 25 then (if pc = 24 then some (.iconst 0, 1, 0, 0, 0) else none) else (if pc = 25 then some (.ireturn, 0, 1, 0, 0) else none))))
def hm_i160 (pc : Nat) : Option hm_Row := if pc < 26 then hm_j160 pc else none
/-- CurvekeyHouse$Points.x(I)I -/
def hm_j161 (pc : Nat) : Option hm_Row := if pc < 4 then (if pc < 1 then (if pc = 0 then some (.aload_n 0, 0, 0, 0, 0) else none) else (if pc = 1 then some (.getfield 448, 0, 14, 183, 0) else none)) else (if pc < 5 then (if pc = 4 then some (.iload_n 1, 0, 0, 0, 0) else none) else (if pc < 8 then (if pc = 5 then some (.invokevirtual 178, 0, 43, 775, 16520) else none) else (if pc = 8 then some (.ireturn, 0, 0, 0, 0) else none)))
def hm_i161 (pc : Nat) : Option hm_Row := if pc < 9 then hm_j161 pc else none
/-- CurvekeyHouse$Points.y(I)I -/
def hm_j162 (pc : Nat) : Option hm_Row := if pc < 4 then (if pc < 1 then (if pc = 0 then some (.aload_n 0, 0, 0, 0, 0) else none) else (if pc = 1 then some (.getfield 449, 0, 20, 184, 0) else none)) else (if pc < 5 then (if pc = 4 then some (.iload_n 1, 0, 0, 0, 0) else none) else (if pc < 8 then (if pc = 5 then some (.invokevirtual 178, 0, 43, 775, 16520) else none) else (if pc = 8 then some (.ireturn, 0, 0, 0, 0) else none)))
def hm_i162 (pc : Nat) : Option hm_Row := if pc < 9 then hm_j162 pc else none
/-- CurvekeyHouse$Points.speedX(I)I -/
def hm_j163 (pc : Nat) : Option hm_Row := if pc < 4 then (if pc < 1 then (if pc = 0 then some (.aload_n 0, 0, 0, 0, 0) else none) else (if pc = 1 then some (.getfield 451, 0, 26, 186, 0) else none)) else (if pc < 5 then (if pc = 4 then some (.iload_n 1, 0, 0, 0, 0) else none) else (if pc < 8 then (if pc = 5 then some (.invokevirtual 178, 0, 43, 775, 16520) else none) else (if pc = 8 then some (.ireturn, 0, 0, 0, 0) else none)))
def hm_i163 (pc : Nat) : Option hm_Row := if pc < 9 then hm_j163 pc else none
/-- CurvekeyHouse$Points.speedY(I)I -/
def hm_j164 (pc : Nat) : Option hm_Row := if pc < 4 then (if pc < 1 then (if pc = 0 then some (.aload_n 0, 0, 0, 0, 0) else none) else (if pc = 1 then some (.getfield 452, 0, 29, 187, 0) else none)) else (if pc < 5 then (if pc = 4 then some (.iload_n 1, 0, 0, 0, 0) else none) else (if pc < 8 then (if pc = 5 then some (.invokevirtual 178, 0, 43, 775, 16520) else none) else (if pc = 8 then some (.ireturn, 0, 0, 0, 0) else none)))
def hm_i164 (pc : Nat) : Option hm_Row := if pc < 9 then hm_j164 pc else none
/-- CurvekeyHouse$Points.take()I -/
def hm_j165 (pc : Nat) : Option hm_Row := if pc < 21 then (if pc < 10 then (if pc < 5 then (if pc < 1 then (if pc = 0 then some (.aload_n 0, 0, 0, 0, 0) else none) else (if pc < 4 then (if pc = 1 then some (.getfield 453, 0, 32, 188, 0) else none) else (if pc = 4 then some (.istore_n 1, 0, 0, 0, 0) else none))) else (if pc < 6 then (if pc = 5 then some (.aload_n 0, 0, 0, 0, 0) else none) else (if pc < 9 then (if pc = 6 then some (.getfield 450, 0, 23, 185, 0) else none) else (if pc = 9 then some (.iload_n 1, 0, 0, 0, 0) else none)))) else (if pc < 15 then (if pc < 11 then (if pc = 10 then some (.iconst 1, 1, 0, 0, 0) else none) else (if pc < 14 then (if pc = 11 then some (.invokevirtual 179, 0, 47, 666, 24840) else none) else (if pc = 14 then some (.aload_n 0, 0, 0, 0, 0) else none))) else (if pc < 17 then (if pc < 16 then (if pc = 15 then some (.iload_n 1, 0, 0, 0, 0) else none) else (if pc = 16 then some (.iconst 0, 1, 0, 0, 0) else none)) else (if pc < 18 then (if pc = 17 then some (.iconst 0, 1, 0, 0, 0) else none) else (if pc = 18 then some (.invokevirtual 167, 0, 51, 667, 33159) else none))))) else (if pc < 32 then (if pc < 26 then (if pc < 22 then (if pc = 21 then some (.aload_n 0, 0, 0, 0, 0) else none) else (if pc < 23 then (if pc = 22 then some (.dup, 0, 0, 0, 0) else none) else (if pc = 23 then some (.getfield 453, 0, 32, 188, 0) else none))) else (if pc < 28 then (if pc < 27 then (if pc = 26 then some (.iconst 1, 1, 0, 0, 0) else none) else (if pc = 27 then some (.iadd, 0, 0, 0, 0) else none)) else (if pc < 31 then (if pc = 28 then some (.putfield 453, 0, 32, 188, 0) else none) else (if pc = 31 then some (.aload_n 0, 0, 0, 0, 0) else none)))) else (if pc < 37 then (if pc < 33 then (if pc = 32 then some (.dup, 0, 0, 0, 0) else none) else (if pc < 36 then (if pc = 33 then some (.getfield 454, 0, 36, 189, 0) else none) else (if pc = 36 then some (.iconst 1, 1, 0, 0, 0) else none))) else (if pc < 41 then (if pc < 38 then (if pc = 37 then some (.iadd, 0, 0, 0, 0) else none) else (if pc = 38 then some (.putfield 454, 0, 36, 189, 0) else none)) else (if pc < 42 then (if pc = 41 then some (.iload_n 1, 0, 0, 0, 0) else none) else (if pc = 42 then some (.ireturn, 0, 0, 0, 0) else none)))))
def hm_i165 (pc : Nat) : Option hm_Row := if pc < 43 then hm_j165 pc else none
/-- CurvekeyHouse$Points.stand(III)V -/
def hm_j166 (pc : Nat) : Option hm_Row := if pc < 9 then (if pc < 4 then (if pc < 1 then (if pc = 0 then some (.aload_n 0, 0, 0, 0, 0) else none) else (if pc = 1 then some (.getfield 448, 0, 14, 183, 0) else none)) else (if pc < 5 then (if pc = 4 then some (.iload_n 1, 0, 0, 0, 0) else none) else (if pc < 6 then (if pc = 5 then some (.iload_n 2, 0, 0, 0, 0) else none) else (if pc = 6 then some (.invokevirtual 179, 0, 47, 666, 24840) else none)))) else (if pc < 14 then (if pc < 10 then (if pc = 9 then some (.aload_n 0, 0, 0, 0, 0) else none) else (if pc < 13 then (if pc = 10 then some (.getfield 449, 0, 20, 184, 0) else none) else (if pc = 13 then some (.iload_n 1, 0, 0, 0, 0) else none))) else (if pc < 15 then (if pc = 14 then some (.iload_n 3, 0, 0, 0, 0) else none) else (if pc < 18 then (if pc = 15 then some (.invokevirtual 179, 0, 47, 666, 24840) else none) else (if pc = 18 then some (.return_, 0, 0, 0, 0) else none))))
def hm_i166 (pc : Nat) : Option hm_Row := if pc < 19 then hm_j166 pc else none
/-- CurvekeyHouse$Points.hurry(III)V -/
def hm_j167 (pc : Nat) : Option hm_Row := if pc < 9 then (if pc < 4 then (if pc < 1 then (if pc = 0 then some (.aload_n 0, 0, 0, 0, 0) else none) else (if pc = 1 then some (.getfield 451, 0, 26, 186, 0) else none)) else (if pc < 5 then (if pc = 4 then some (.iload_n 1, 0, 0, 0, 0) else none) else (if pc < 6 then (if pc = 5 then some (.iload_n 2, 0, 0, 0, 0) else none) else (if pc = 6 then some (.invokevirtual 179, 0, 47, 666, 24840) else none)))) else (if pc < 14 then (if pc < 10 then (if pc = 9 then some (.aload_n 0, 0, 0, 0, 0) else none) else (if pc < 13 then (if pc = 10 then some (.getfield 452, 0, 29, 187, 0) else none) else (if pc = 13 then some (.iload_n 1, 0, 0, 0, 0) else none))) else (if pc < 15 then (if pc = 14 then some (.iload_n 3, 0, 0, 0, 0) else none) else (if pc < 18 then (if pc = 15 then some (.invokevirtual 179, 0, 47, 666, 24840) else none) else (if pc = 18 then some (.return_, 0, 0, 0, 0) else none))))
def hm_i167 (pc : Nat) : Option hm_Row := if pc < 19 then hm_j167 pc else none
/-- CurvekeyHouse$Points.bid(I)V -/
def hm_j168 (pc : Nat) : Option hm_Row := if pc < 10 then (if pc < 5 then (if pc < 1 then (if pc = 0 then some (.aload_n 0, 0, 0, 0, 0) else none) else (if pc < 4 then (if pc = 1 then some (.getfield 450, 0, 23, 185, 0) else none) else (if pc = 4 then some (.iload_n 1, 0, 0, 0, 0) else none))) else (if pc < 6 then (if pc = 5 then some (.iconst 0, 1, 0, 0, 0) else none) else (if pc < 9 then (if pc = 6 then some (.invokevirtual 179, 0, 47, 666, 24840) else none) else (if pc = 9 then some (.aload_n 0, 0, 0, 0, 0) else none)))) else (if pc < 15 then (if pc < 11 then (if pc = 10 then some (.dup, 0, 0, 0, 0) else none) else (if pc < 14 then (if pc = 11 then some (.getfield 454, 0, 36, 189, 0) else none) else (if pc = 14 then some (.iconst 1, 1, 0, 0, 0) else none))) else (if pc < 16 then (if pc = 15 then some (.isub, 0, 0, 0, 0) else none) else (if pc < 19 then (if pc = 16 then some (.putfield 454, 0, 36, 189, 0) else none) else (if pc = 19 then some (.return_, 0, 0, 0, 0) else none))))
def hm_i168 (pc : Nat) : Option hm_Row := if pc < 20 then hm_j168 pc else none
/-- CurvekeyHouse$Points.soonX(III)I -/
def hm_j169 (pc : Nat) : Option hm_Row := if pc < 10 then (if pc < 4 then (if pc < 2 then (if pc < 1 then (if pc = 0 then some (.iconst 0, 1, 0, 0, 0) else none) else (if pc = 1 then some (.iload_n 3, 0, 0, 0, 0) else none)) else (if pc < 3 then (if pc = 2 then some (.iconst 1, 1, 0, 0, 0) else none) else (if pc = 3 then some (.isub, 0, 0, 0, 0) else none))) else (if pc < 6 then (if pc < 5 then (if pc = 4 then some (.aload_n 0, 0, 0, 0, 0) else none) else (if pc = 5 then some (.iload_n 1, 0, 0, 0, 0) else none)) else (if pc < 9 then (if pc = 6 then some (.invokevirtual 161, 0, 55, 837, 16519) else none) else (if pc = 9 then some (.iload_n 2, 0, 0, 0, 0) else none)))) else (if pc < 16 then (if pc < 12 then (if pc < 11 then (if pc = 10 then some (.aload_n 0, 0, 0, 0, 0) else none) else (if pc = 11 then some (.iload_n 1, 0, 0, 0, 0) else none)) else (if pc < 15 then (if pc = 12 then some (.invokevirtual 163, 0, 58, 838, 16519) else none) else (if pc = 15 then some (.imul, 0, 0, 0, 0) else none))) else (if pc < 20 then (if pc < 17 then (if pc = 16 then some (.iadd, 0, 0, 0, 0) else none) else (if pc = 17 then some (.invokestatic 1002, 0, 61, 842, 0) else none)) else (if pc < 23 then (if pc = 20 then some (.invokestatic 1001, 0, 67, 845, 0) else none) else (if pc = 23 then some (.ireturn, 0, 0, 0, 0) else none))))
def hm_i169 (pc : Nat) : Option hm_Row := if pc < 24 then hm_j169 pc else none
/-- CurvekeyHouse$Points.soonY(III)I -/
def hm_j170 (pc : Nat) : Option hm_Row := if pc < 10 then (if pc < 4 then (if pc < 2 then (if pc < 1 then (if pc = 0 then some (.iconst 0, 1, 0, 0, 0) else none) else (if pc = 1 then some (.iload_n 3, 0, 0, 0, 0) else none)) else (if pc < 3 then (if pc = 2 then some (.iconst 1, 1, 0, 0, 0) else none) else (if pc = 3 then some (.isub, 0, 0, 0, 0) else none))) else (if pc < 6 then (if pc < 5 then (if pc = 4 then some (.aload_n 0, 0, 0, 0, 0) else none) else (if pc = 5 then some (.iload_n 1, 0, 0, 0, 0) else none)) else (if pc < 9 then (if pc = 6 then some (.invokevirtual 162, 0, 70, 858, 16519) else none) else (if pc = 9 then some (.iload_n 2, 0, 0, 0, 0) else none)))) else (if pc < 16 then (if pc < 12 then (if pc < 11 then (if pc = 10 then some (.aload_n 0, 0, 0, 0, 0) else none) else (if pc = 11 then some (.iload_n 1, 0, 0, 0, 0) else none)) else (if pc < 15 then (if pc = 12 then some (.invokevirtual 164, 0, 73, 859, 16519) else none) else (if pc = 15 then some (.imul, 0, 0, 0, 0) else none))) else (if pc < 20 then (if pc < 17 then (if pc = 16 then some (.iadd, 0, 0, 0, 0) else none) else (if pc = 17 then some (.invokestatic 1002, 0, 61, 842, 0) else none)) else (if pc < 23 then (if pc = 20 then some (.invokestatic 1001, 0, 67, 845, 0) else none) else (if pc = 23 then some (.ireturn, 0, 0, 0, 0) else none))))
def hm_i170 (pc : Nat) : Option hm_Row := if pc < 24 then hm_j170 pc else none
/-- CurvekeyHouse$Points.soonIn(LCurvekeyHouse$Box;II)I -/
def hm_j171 (pc : Nat) : Option hm_Row := if pc < 28 then (if pc < 12 then (if pc < 4 then (if pc < 1 then (if pc = 0 then some (.iconst 0, 1, 0, 0, 0) else none) else (if pc < 3 then (if pc = 1 then some (.istore 4, 0, 0, 0, 0) else none) else (if pc = 3 then some (.iconst 0, 1, 0, 0, 0) else none))) else (if pc < 8 then (if pc < 6 then (if pc = 4 then some (.istore 5, 0, 0, 0, 0) else none) else (if pc = 6 then some (.iload 5, 0, 0, 0, 0) else none)) else (if pc < 9 then (if pc = 8 then some (.aload_n 0, 0, 0, 0, 0) else none) else (if pc = 9 then some (.getfield 453, 0, 32, 188, 0) else none)))) else (if pc < 21 then (if pc < 16 then (if pc < 15 then (if pc = 12 then some (.if_icmp .ge 56, 0, 0, 0, 0) else none) else (if pc = 15 then some (.aload_n 0, 0, 0, 0, 0) else none)) else (if pc < 18 then (if pc = 16 then some (.iload 5, 0, 0, 0, 0) else none) else (if pc = 18 then some (.invokevirtual 160, 0, 76, 984, 16519) else none))) else (if pc < 25 then (if pc < 24 then (if pc = 21 then some (.ifCond .eq 50, 0, 0, 0, 0) else none) else (if pc = 24 then some (.aload_n 1, 0, 0, 0, 0) else none)) else (if pc < 26 then (if pc = 25 then some (.aload_n 0, 0, 0, 0, 0) else none) else (if pc = 26 then some (.iload 5, 0, 0, 0, 0) else none))))) else (if pc < 38 then (if pc < 33 then (if pc < 29 then (if pc = 28 then some (.iload_n 2, 0, 0, 0, 0) else none) else (if pc < 30 then (if pc = 29 then some (.iload_n 3, 0, 0, 0, 0) else none) else (if pc = 30 then some (.invokevirtual 169, 0, 79, 1217, 33159) else none))) else (if pc < 36 then (if pc < 34 then (if pc = 33 then some (.aload_n 0, 0, 0, 0, 0) else none) else (if pc = 34 then some (.iload 5, 0, 0, 0, 0) else none)) else (if pc < 37 then (if pc = 36 then some (.iload_n 2, 0, 0, 0, 0) else none) else (if pc = 37 then some (.iload_n 3, 0, 0, 0, 0) else none)))) else (if pc < 50 then (if pc < 44 then (if pc < 41 then (if pc = 38 then some (.invokevirtual 170, 0, 83, 1218, 33159) else none) else (if pc = 41 then some (.invokevirtual 66, 0, 86, 1219, 24832) else none)) else (if pc < 47 then (if pc = 44 then some (.ifCond .eq 50, 0, 0, 0, 0) else none) else (if pc = 47 then some (.iinc 4 (1), 0, 0, 0, 0) else none))) else (if pc < 56 then (if pc < 53 then (if pc = 50 then some (.iinc 5 (1), 0, 0, 0, 0) else none) else (if pc = 53 then some (.goto 6, 0, 0, 0, 0) else none)) else (if pc < 58 then (if pc = 56 then some (.iload 4, 0, 0, 0, 0) else none) else (if pc = 58 then some (.ireturn, 0, 0, 0, 0) else none)))))
def hm_i171 (pc : Nat) : Option hm_Row := if pc < 59 then hm_j171 pc else none
/-- CurvekeyHouse$Points.farFrom(III)I -/
def hm_j172 (pc : Nat) : Option hm_Row := if pc < 15 then (if pc < 7 then (if pc < 2 then (if pc < 1 then (if pc = 0 then some (.aload_n 0, 0, 0, 0, 0) else none) else (if pc = 1 then some (.iload_n 1, 0, 0, 0, 0) else none)) else (if pc < 5 then (if pc = 2 then some (.invokevirtual 161, 0, 55, 837, 16519) else none) else (if pc < 6 then (if pc = 5 then some (.iload_n 2, 0, 0, 0, 0) else none) else (if pc = 6 then some (.isub, 0, 0, 0, 0) else none)))) else (if pc < 10 then (if pc < 9 then (if pc = 7 then some (.istore 4, 0, 0, 0, 0) else none) else (if pc = 9 then some (.aload_n 0, 0, 0, 0, 0) else none)) else (if pc < 11 then (if pc = 10 then some (.iload_n 1, 0, 0, 0, 0) else none) else (if pc < 14 then (if pc = 11 then some (.invokevirtual 162, 0, 70, 858, 16519) else none) else (if pc = 14 then some (.iload_n 3, 0, 0, 0, 0) else none))))) else (if pc < 23 then (if pc < 18 then (if pc < 16 then (if pc = 15 then some (.isub, 0, 0, 0, 0) else none) else (if pc = 16 then some (.istore 5, 0, 0, 0, 0) else none)) else (if pc < 20 then (if pc = 18 then some (.iload 4, 0, 0, 0, 0) else none) else (if pc < 22 then (if pc = 20 then some (.iload 4, 0, 0, 0, 0) else none) else (if pc = 22 then some (.imul, 0, 0, 0, 0) else none)))) else (if pc < 27 then (if pc < 25 then (if pc = 23 then some (.iload 5, 0, 0, 0, 0) else none) else (if pc = 25 then some (.iload 5, 0, 0, 0, 0) else none)) else (if pc < 28 then (if pc = 27 then some (.imul, 0, 0, 0, 0) else none) else (if pc < 29 then (if pc = 28 then some (.iadd, 0, 0, 0, 0) else none) else (if pc = 29 then some (.ireturn, 0, 0, 0, 0) else none)))))
def hm_i172 (pc : Nat) : Option hm_Row := if pc < 30 then hm_j172 pc else none
/-- CurvekeyHouse$Points.nthNearest(III)I -/
def hm_j173 (pc : Nat) : Option hm_Row := if pc < 22 then (if pc < 9 then (if pc < 3 then (if pc < 1 then (if pc = 0 then some (.iconst 0, 1, 0, 0, 0) else none) else (if pc = 1 then some (.istore 4, 0, 0, 0, 0) else none)) else (if pc < 5 then (if pc = 3 then some (.iload 4, 0, 0, 0, 0) else none) else (if pc < 6 then (if pc = 5 then some (.aload_n 0, 0, 0, 0, 0) else none) else (if pc = 6 then some (.getfield 453, 0, 32, 188, 0) else none)))) else (if pc < 15 then (if pc < 12 then (if pc = 9 then some (.if_icmp .ge 42, 0, 0, 0, 0) else none) else (if pc < 13 then (if pc = 12 then some (.aload_n 0, 0, 0, 0, 0) else none) else (if pc = 13 then some (.iload 4, 0, 0, 0, 0) else none))) else (if pc < 18 then (if pc = 15 then some (.invokevirtual 160, 0, 76, 984, 16519) else none) else (if pc < 21 then (if pc = 18 then some (.ifCond .eq 36, 0, 0, 0, 0) else none) else (if pc = 21 then some (.aload_n 0, 0, 0, 0, 0) else none))))) else (if pc < 33 then (if pc < 26 then (if pc < 24 then (if pc = 22 then some (.iload 4, 0, 0, 0, 0) else none) else (if pc < 25 then (if pc = 24 then some (.iload_n 1, 0, 0, 0, 0) else none) else (if pc = 25 then some (.iload_n 2, 0, 0, 0, 0) else none))) else (if pc < 29 then (if pc = 26 then some (.invokevirtual 174, 0, 92, 1181, 65927) else none) else (if pc < 30 then (if pc = 29 then some (.iload_n 3, 0, 0, 0, 0) else none) else (if pc = 30 then some (.if_icmp .ne 36, 0, 0, 0, 0) else none)))) else (if pc < 39 then (if pc < 35 then (if pc = 33 then some (.iload 4, 0, 0, 0, 0) else none) else (if pc < 36 then (if pc = 35 then some (.ireturn, 0, 0, 0, 0) else none) else (if pc = 36 then some (.iinc 4 (1), 0, 0, 0, 0) else none))) else (if pc < 42 then (if pc = 39 then some (.goto 3, 0, 0, 0, 0) else none) else (if pc < 43 then (if pc = 42 then some (.iconst (-1), 1, 0, 0, 0) else none) else (if pc = 43 then some (.ireturn, 0, 0, 0, 0) else none)))))
def hm_i173 (pc : Nat) : Option hm_Row := if pc < 44 then hm_j173 pc else none
/-- CurvekeyHouse$Points.nearerThan(III)I -/
def hm_j174 (pc : Nat) : Option hm_Row := if pc < 32 then (if pc < 13 then (if pc < 4 then (if pc < 2 then (if pc < 1 then (if pc = 0 then some (.aload_n 0, 0, 0, 0, 0) else none) else (if pc = 1 then some (.iload_n 1, 0, 0, 0, 0) else none)) else (if pc < 3 then (if pc = 2 then some (.iload_n 2, 0, 0, 0, 0) else none) else (if pc = 3 then some (.iload_n 3, 0, 0, 0, 0) else none))) else (if pc < 9 then (if pc < 7 then (if pc = 4 then some (.invokevirtual 172, 0, 95, 976, 49543) else none) else (if pc = 7 then some (.istore 4, 0, 0, 0, 0) else none)) else (if pc < 10 then (if pc = 9 then some (.iconst 0, 1, 0, 0, 0) else none) else (if pc < 12 then (if pc = 10 then some (.istore 5, 0, 0, 0, 0) else none) else (if pc = 12 then some (.iconst 0, 1, 0, 0, 0) else none))))) else (if pc < 24 then (if pc < 17 then (if pc < 15 then (if pc = 13 then some (.istore 6, 0, 0, 0, 0) else none) else (if pc = 15 then some (.iload 6, 0, 0, 0, 0) else none)) else (if pc < 18 then (if pc = 17 then some (.aload_n 0, 0, 0, 0, 0) else none) else (if pc < 21 then (if pc = 18 then some (.getfield 453, 0, 32, 188, 0) else none) else (if pc = 21 then some (.if_icmp .ge 72, 0, 0, 0, 0) else none)))) else (if pc < 27 then (if pc < 25 then (if pc = 24 then some (.aload_n 0, 0, 0, 0, 0) else none) else (if pc = 25 then some (.iload 6, 0, 0, 0, 0) else none)) else (if pc < 28 then (if pc = 27 then some (.iload_n 2, 0, 0, 0, 0) else none) else (if pc < 29 then (if pc = 28 then some (.iload_n 3, 0, 0, 0, 0) else none) else (if pc = 29 then some (.invokevirtual 172, 0, 95, 976, 49543) else none)))))) else (if pc < 52 then (if pc < 40 then (if pc < 35 then (if pc < 34 then (if pc = 32 then some (.istore 7, 0, 0, 0, 0) else none) else (if pc = 34 then some (.aload_n 0, 0, 0, 0, 0) else none)) else (if pc < 37 then (if pc = 35 then some (.iload 6, 0, 0, 0, 0) else none) else (if pc = 37 then some (.invokevirtual 160, 0, 76, 984, 16519) else none))) else (if pc < 45 then (if pc < 43 then (if pc = 40 then some (.ifCond .eq 66, 0, 0, 0, 0) else none) else (if pc = 43 then some (.iload 7, 0, 0, 0, 0) else none)) else (if pc < 47 then (if pc = 45 then some (.iload 4, 0, 0, 0, 0) else none) else (if pc < 50 then (if pc = 47 then some (.if_icmp .lt 63, 0, 0, 0, 0) else none) else (if pc = 50 then some (.iload 7, 0, 0, 0, 0) else none))))) else (if pc < 63 then (if pc < 57 then (if pc < 54 then (if pc = 52 then some (.iload 4, 0, 0, 0, 0) else none) else (if pc = 54 then some (.if_icmp .ne 66, 0, 0, 0, 0) else none)) else (if pc < 59 then (if pc = 57 then some (.iload 6, 0, 0, 0, 0) else none) else (if pc < 60 then (if pc = 59 then some (.iload_n 1, 0, 0, 0, 0) else none) else (if pc = 60 then some (.if_icmp .ge 66, 0, 0, 0, 0) else none)))) else (if pc < 69 then (if pc < 66 then (if pc = 63 then some (.iinc 5 (1), 0, 0, 0, 0) else none) else (if pc = 66 then some (.iinc 6 (1), 0, 0, 0, 0) else none)) else (if pc < 72 then (if pc = 69 then some (.goto 15, 0, 0, 0, 0) else none) else (if pc < 74 then (if pc = 72 then some (.iload 5, 0, 0, 0, 0) else none) else (if pc = 74 then some (.ireturn, 0, 0, 0, 0) else none))))))
def hm_i174 (pc : Nat) : Option hm_Row := if pc < 75 then hm_j174 pc else none
/-- CurvekeyHouse$Points.isPair(II)Z -/
def hm_j175 (pc : Nat) : Option hm_Row := if pc < 10 then (if pc < 5 then (if pc < 1 then (if pc = 0 then some (.aload_n 0, 0, 0, 0, 0) else none) else (if pc < 2 then (if pc = 1 then some (.iload_n 1, 0, 0, 0, 0) else none) else (if pc = 2 then some (.invokevirtual 160, 0, 76, 984, 16519) else none))) else (if pc < 8 then (if pc = 5 then some (.ifCond .eq 20, 0, 0, 0, 0) else none) else (if pc < 9 then (if pc = 8 then some (.aload_n 0, 0, 0, 0, 0) else none) else (if pc = 9 then some (.iload_n 2, 0, 0, 0, 0) else none)))) else (if pc < 17 then (if pc < 13 then (if pc = 10 then some (.invokevirtual 160, 0, 76, 984, 16519) else none) else (if pc < 16 then (if pc = 13 then some (.ifCond .eq 20, 0, 0, 0, 0) else none) else (if pc = 16 then some (.iconst 1, 1, 0, 0, 0) else none))) else (if pc < 20 then (if pc = 17 then some (.goto 21, 0, 0, 0, 0) else none) else (if pc < 21 then (if pc = 20 then some (.iconst 0, 1, 0, 0, 0) else none) else (if pc = 21 then some (.ireturn, 0, 1, 0, 0) else none))))
def hm_i175 (pc : Nat) : Option hm_Row := if pc < 22 then hm_j175 pc else none
/-- CurvekeyHouse$Points.extremeFar(Z)I -/
def hm_j176 (pc : Nat) : Option hm_Row := if pc < 41 then (if pc < 18 then (if pc < 6 then (if pc < 3 then (if pc < 1 then (if pc = 0 then some (.iconst (-1), 1, 0, 0, 0) else none) else (if pc < 2 then (if pc = 1 then some (.istore_n 2, 0, 0, 0, 0) else none) else (if pc = 2 then some (.iconst 0, 1, 0, 0, 0) else none))) else (if pc < 4 then (if pc = 3 then some (.istore_n 3, 0, 0, 0, 0) else none) else (if pc < 5 then (if pc = 4 then some (.iload_n 3, 0, 0, 0, 0) else none) else (if pc = 5 then some (.aload_n 0, 0, 0, 0, 0) else none)))) else (if pc < 13 then (if pc < 9 then (if pc = 6 then some (.getfield 453, 0, 32, 188, 0) else none) else (if pc < 12 then (if pc = 9 then some (.if_icmp .ge 89, 0, 0, 0, 0) else none) else (if pc = 12 then some (.iconst 0, 1, 0, 0, 0) else none))) else (if pc < 15 then (if pc = 13 then some (.istore 4, 0, 0, 0, 0) else none) else (if pc < 17 then (if pc = 15 then some (.iload 4, 0, 0, 0, 0) else none) else (if pc = 17 then some (.iload_n 3, 0, 0, 0, 0) else none))))) else (if pc < 29 then (if pc < 23 then (if pc < 21 then (if pc = 18 then some (.if_icmp .ge 83, 0, 0, 0, 0) else none) else (if pc < 22 then (if pc = 21 then some (.aload_n 0, 0, 0, 0, 0) else none) else (if pc = 22 then some (.iload_n 3, 0, 0, 0, 0) else none))) else (if pc < 24 then (if pc = 23 then some (.aload_n 0, 0, 0, 0, 0) else none) else (if pc < 26 then (if pc = 24 then some (.iload 4, 0, 0, 0, 0) else none) else (if pc = 26 then some (.invokevirtual 161, 0, 55, 837, 16519) else none)))) else (if pc < 35 then (if pc < 30 then (if pc = 29 then some (.aload_n 0, 0, 0, 0, 0) else none) else (if pc < 32 then (if pc = 30 then some (.iload 4, 0, 0, 0, 0) else none) else (if pc = 32 then some (.invokevirtual 162, 0, 70, 858, 16519) else none))) else (if pc < 38 then (if pc = 35 then some (.invokevirtual 172, 0, 95, 976, 49543) else none) else (if pc < 40 then (if pc = 38 then some (.istore 5, 0, 0, 0, 0) else none) else (if pc = 40 then some (.aload_n 0, 0, 0, 0, 0) else none)))))) else (if pc < 65 then (if pc < 52 then (if pc < 47 then (if pc < 42 then (if pc = 41 then some (.iload_n 3, 0, 0, 0, 0) else none) else (if pc < 44 then (if pc = 42 then some (.iload 4, 0, 0, 0, 0) else none) else (if pc = 44 then some (.invokevirtual 175, 0, 102, 980, 24839) else none))) else (if pc < 50 then (if pc = 47 then some (.ifCond .eq 77, 0, 0, 0, 0) else none) else (if pc < 51 then (if pc = 50 then some (.iload_n 2, 0, 0, 0, 0) else none) else (if pc = 51 then some (.iconst (-1), 1, 0, 0, 0) else none)))) else (if pc < 59 then (if pc < 55 then (if pc = 52 then some (.if_icmp .eq 74, 0, 0, 0, 0) else none) else (if pc < 56 then (if pc = 55 then some (.iload_n 1, 0, 0, 0, 0) else none) else (if pc = 56 then some (.ifCond .eq 68, 0, 0, 0, 0) else none))) else (if pc < 61 then (if pc = 59 then some (.iload 5, 0, 0, 0, 0) else none) else (if pc < 62 then (if pc = 61 then some (.iload_n 2, 0, 0, 0, 0) else none) else (if pc = 62 then some (.if_icmp .le 77, 0, 0, 0, 0) else none))))) else (if pc < 77 then (if pc < 71 then (if pc < 68 then (if pc = 65 then some (.goto 74, 0, 0, 0, 0) else none) else (if pc < 70 then (if pc = 68 then some (.iload 5, 0, 0, 0, 0) else none) else (if pc = 70 then some (.iload_n 2, 0, 0, 0, 0) else none))) else (if pc < 74 then (if pc = 71 then some (.if_icmp .ge 77, 0, 0, 0, 0) else none) else (if pc < 76 then (if pc = 74 then some (.iload 5, 0, 0, 0, 0) else none) else (if pc = 76 then some (.istore_n 2, 0, 0, 0, 0) else none)))) else (if pc < 86 then (if pc < 80 then (if pc = 77 then some (.iinc 4 (1), 0, 0, 0, 0) else none) else (if pc < 83 then (if pc = 80 then some (.goto 15, 0, 0, 0, 0) else none) else (if pc = 83 then some (.iinc 3 (1), 0, 0, 0, 0) else none))) else (if pc < 89 then (if pc = 86 then some (.goto 4, 0, 0, 0, 0) else none) else (if pc < 90 then (if pc = 89 then some (.iload_n 2, 0, 0, 0, 0) else none) else (if pc = 90 then some (.ireturn, 0, 0, 0, 0) else none))))))
def hm_i176 (pc : Nat) : Option hm_Row := if pc < 91 then hm_j176 pc else none
/-- CurvekeyHouse$Row.<init>(I)V -/
def hm_j177 (pc : Nat) : Option hm_Row := if pc < 9 then (if pc < 4 then (if pc < 1 then (if pc = 0 then some (.aload_n 0, 0, 0, 0, 0) else none) else (if pc = 1 then some (.invokespecial 1000, 0, 3, 83, 0) else none)) else (if pc < 5 then (if pc = 4 then some (.aload_n 0, 0, 0, 0, 0) else none) else (if pc < 6 then (if pc = 5 then some (.iload_n 1, 0, 0, 0, 0) else none) else (if pc = 6 then some (.ifCond .ge 13, 0, 0, 0, 0) else none)))) else (if pc < 14 then (if pc < 10 then (if pc = 9 then some (.iconst 0, 1, 0, 0, 0) else none) else (if pc < 13 then (if pc = 10 then some (.goto 14, 0, 0, 0, 0) else none) else (if pc = 13 then some (.iload_n 1, 0, 0, 0, 0) else none))) else (if pc < 16 then (if pc = 14 then some (.newarray .int, 0, 0, 0, 0) else none) else (if pc < 19 then (if pc = 16 then some (.putfield 512, 0, 9, 84, 0) else none) else (if pc = 19 then some (.return_, 0, 0, 0, 0) else none))))
def hm_i177 (pc : Nat) : Option hm_Row := if pc < 20 then hm_j177 pc else none
/-- CurvekeyHouse$Row.at(I)I -/
def hm_j178 (pc : Nat) : Option hm_Row := if pc < 13 then (if pc < 5 then (if pc < 1 then (if pc = 0 then some (.iload_n 1, 0, 0, 0, 0) else none) else (if pc < 4 then (if pc = 1 then some (.ifCond .lt 22, 0, 0, 0, 0) else none) else (if pc = 4 then some (.iload_n 1, 0, 0, 0, 0) else none))) else (if pc < 9 then (if pc < 6 then (if pc = 5 then some (.aload_n 0, 0, 0, 0, 0) else none) else (if pc = 6 then some (.getfield 512, 0, 9, 84, 0) else none)) else (if pc < 10 then (if pc = 9 then some (.arraylength, 0, 0, 0, 0) else none) else (if pc = 10 then some (.if_icmp .ge 22, 0, 0, 0, 0) else none)))) else (if pc < 18 then (if pc < 14 then (if pc = 13 then some (.aload_n 0, 0, 0, 0, 0) else none) else (if pc < 17 then (if pc = 14 then some (.getfield 512, 0, 9, 84, 0) else none) else (if pc = 17 then some (.iload_n 1, 0, 0, 0, 0) else none))) else (if pc < 22 then (if pc < 19 then (if pc = 18 then some (.iaload, 0, 0, 0, 0) else none) else (if pc = 19 then some (.goto 23, 0, 0, 0, 0) else none)) else (if pc < 23 then (if pc = 22 then some (.iconst (-1), 1, 0, 0, 0) else none) else (if pc = 23 then some (.ireturn, 0, 0, 0, 0) else none))))
def hm_i178 (pc : Nat) : Option hm_Row := if pc < 24 then hm_j178 pc else none
/-- CurvekeyHouse$Row.set(II)V -/
def hm_j179 (pc : Nat) : Option hm_Row := if pc < 10 then (if pc < 5 then (if pc < 1 then (if pc = 0 then some (.iload_n 1, 0, 0, 0, 0) else none) else (if pc < 4 then (if pc = 1 then some (.ifCond .lt 20, 0, 0, 0, 0) else none) else (if pc = 4 then some (.iload_n 1, 0, 0, 0, 0) else none))) else (if pc < 6 then (if pc = 5 then some (.aload_n 0, 0, 0, 0, 0) else none) else (if pc < 9 then (if pc = 6 then some (.getfield 512, 0, 9, 84, 0) else none) else (if pc = 9 then some (.arraylength, 0, 0, 0, 0) else none)))) else (if pc < 17 then (if pc < 13 then (if pc = 10 then some (.if_icmp .ge 20, 0, 0, 0, 0) else none) else (if pc < 14 then (if pc = 13 then some (.aload_n 0, 0, 0, 0, 0) else none) else (if pc = 14 then some (.getfield 512, 0, 9, 84, 0) else none))) else (if pc < 19 then (if pc < 18 then (if pc = 17 then some (.iload_n 1, 0, 0, 0, 0) else none) else (if pc = 18 then some (.iload_n 2, 0, 0, 0, 0) else none)) else (if pc < 20 then (if pc = 19 then some (.iastore, 0, 0, 0, 0) else none) else (if pc = 20 then some (.return_, 0, 0, 0, 0) else none))))
def hm_i179 (pc : Nat) : Option hm_Row := if pc < 21 then hm_j179 pc else none
/-- CurvekeyHouse$Row.add(II)V -/
def hm_j180 (pc : Nat) : Option hm_Row := if pc < 4 then (if pc < 2 then (if pc < 1 then (if pc = 0 then some (.aload_n 0, 0, 0, 0, 0) else none) else (if pc = 1 then some (.iload_n 1, 0, 0, 0, 0) else none)) else (if pc < 3 then (if pc = 2 then some (.aload_n 0, 0, 0, 0, 0) else none) else (if pc = 3 then some (.iload_n 1, 0, 0, 0, 0) else none))) else (if pc < 8 then (if pc < 7 then (if pc = 4 then some (.invokevirtual 178, 0, 15, 693, 16520) else none) else (if pc = 7 then some (.iload_n 2, 0, 0, 0, 0) else none)) else (if pc < 9 then (if pc = 8 then some (.iadd, 0, 0, 0, 0) else none) else (if pc < 12 then (if pc = 9 then some (.invokevirtual 179, 0, 19, 694, 24840) else none) else (if pc = 12 then some (.return_, 0, 0, 0, 0) else none))))
def hm_i180 (pc : Nat) : Option hm_Row := if pc < 13 then hm_j180 pc else none
/-- CurvekeyHouse$Row.fill(I)V -/
def hm_j181 (pc : Nat) : Option hm_Row := if pc < 11 then (if pc < 3 then (if pc < 1 then (if pc = 0 then some (.iconst 0, 1, 0, 0, 0) else none) else (if pc < 2 then (if pc = 1 then some (.istore_n 2, 0, 0, 0, 0) else none) else (if pc = 2 then some (.iload_n 2, 0, 0, 0, 0) else none))) else (if pc < 7 then (if pc < 4 then (if pc = 3 then some (.aload_n 0, 0, 0, 0, 0) else none) else (if pc = 4 then some (.getfield 512, 0, 9, 84, 0) else none)) else (if pc < 8 then (if pc = 7 then some (.arraylength, 0, 0, 0, 0) else none) else (if pc = 8 then some (.if_icmp .ge 24, 0, 0, 0, 0) else none)))) else (if pc < 17 then (if pc < 15 then (if pc < 12 then (if pc = 11 then some (.aload_n 0, 0, 0, 0, 0) else none) else (if pc = 12 then some (.getfield 512, 0, 9, 84, 0) else none)) else (if pc < 16 then (if pc = 15 then some (.iload_n 2, 0, 0, 0, 0) else none) else (if pc = 16 then some (.iload_n 1, 0, 0, 0, 0) else none))) else (if pc < 21 then (if pc < 18 then (if pc = 17 then some (.iastore, 0, 0, 0, 0) else none) else (if pc = 18 then some (.iinc 2 (1), 0, 0, 0, 0) else none)) else (if pc < 24 then (if pc = 21 then some (.goto 2, 0, 0, 0, 0) else none) else (if pc = 24 then some (.return_, 0, 0, 0, 0) else none))))
def hm_i181 (pc : Nat) : Option hm_Row := if pc < 25 then hm_j181 pc else none
/-- CurvekeyHouse$Row.insert(III)V -/
def hm_j182 (pc : Nat) : Option hm_Row := if pc < 16 then (if pc < 9 then (if pc < 3 then (if pc < 1 then (if pc = 0 then some (.iload_n 2, 0, 0, 0, 0) else none) else (if pc = 1 then some (.istore 4, 0, 0, 0, 0) else none)) else (if pc < 5 then (if pc = 3 then some (.iload 4, 0, 0, 0, 0) else none) else (if pc < 6 then (if pc = 5 then some (.iload_n 1, 0, 0, 0, 0) else none) else (if pc = 6 then some (.if_icmp .le 29, 0, 0, 0, 0) else none)))) else (if pc < 12 then (if pc < 10 then (if pc = 9 then some (.aload_n 0, 0, 0, 0, 0) else none) else (if pc = 10 then some (.iload 4, 0, 0, 0, 0) else none)) else (if pc < 13 then (if pc = 12 then some (.aload_n 0, 0, 0, 0, 0) else none) else (if pc < 15 then (if pc = 13 then some (.iload 4, 0, 0, 0, 0) else none) else (if pc = 15 then some (.iconst 1, 1, 0, 0, 0) else none))))) else (if pc < 29 then (if pc < 20 then (if pc < 17 then (if pc = 16 then some (.isub, 0, 0, 0, 0) else none) else (if pc = 17 then some (.invokevirtual 178, 0, 15, 693, 16520) else none)) else (if pc < 23 then (if pc = 20 then some (.invokevirtual 179, 0, 19, 694, 24840) else none) else (if pc < 26 then (if pc = 23 then some (.iinc 4 (-1), 0, 0, 0, 0) else none) else (if pc = 26 then some (.goto 3, 0, 0, 0, 0) else none)))) else (if pc < 31 then (if pc < 30 then (if pc = 29 then some (.aload_n 0, 0, 0, 0, 0) else none) else (if pc = 30 then some (.iload_n 1, 0, 0, 0, 0) else none)) else (if pc < 32 then (if pc = 31 then some (.iload_n 3, 0, 0, 0, 0) else none) else (if pc < 35 then (if pc = 32 then some (.invokevirtual 179, 0, 19, 694, 24840) else none) else (if pc = 35 then some (.return_, 0, 0, 0, 0) else none)))))
def hm_i182 (pc : Nat) : Option hm_Row := if pc < 36 then hm_j182 pc else none
/-- CurvekeyHouse$Row.drop(II)V -/
def hm_j183 (pc : Nat) : Option hm_Row := if pc < 11 then (if pc < 4 then (if pc < 2 then (if pc < 1 then (if pc = 0 then some (.iload_n 1, 0, 0, 0, 0) else none) else (if pc = 1 then some (.istore_n 3, 0, 0, 0, 0) else none)) else (if pc < 3 then (if pc = 2 then some (.iload_n 3, 0, 0, 0, 0) else none) else (if pc = 3 then some (.iconst 1, 1, 0, 0, 0) else none))) else (if pc < 6 then (if pc < 5 then (if pc = 4 then some (.iadd, 0, 0, 0, 0) else none) else (if pc = 5 then some (.iload_n 2, 0, 0, 0, 0) else none)) else (if pc < 9 then (if pc = 6 then some (.if_icmp .ge 27, 0, 0, 0, 0) else none) else (if pc < 10 then (if pc = 9 then some (.aload_n 0, 0, 0, 0, 0) else none) else (if pc = 10 then some (.iload_n 3, 0, 0, 0, 0) else none))))) else (if pc < 15 then (if pc < 13 then (if pc < 12 then (if pc = 11 then some (.aload_n 0, 0, 0, 0, 0) else none) else (if pc = 12 then some (.iload_n 3, 0, 0, 0, 0) else none)) else (if pc < 14 then (if pc = 13 then some (.iconst 1, 1, 0, 0, 0) else none) else (if pc = 14 then some (.iadd, 0, 0, 0, 0) else none))) else (if pc < 21 then (if pc < 18 then (if pc = 15 then some (.invokevirtual 178, 0, 15, 693, 16520) else none) else (if pc = 18 then some (.invokevirtual 179, 0, 19, 694, 24840) else none)) else (if pc < 24 then (if pc = 21 then some (.iinc 3 (1), 0, 0, 0, 0) else none) else (if pc < 27 then (if pc = 24 then some (.goto 2, 0, 0, 0, 0) else none) else (if pc = 27 then some (.return_, 0, 0, 0, 0) else none)))))
def hm_i183 (pc : Nat) : Option hm_Row := if pc < 28 then hm_j183 pc else none
/-- CurvekeyHouse$Tiles.<init>()V -/
def hm_j184 (pc : Nat) : Option hm_Row := if pc < 27 then (if pc < 11 then (if pc < 5 then (if pc < 1 then (if pc = 0 then some (.aload_n 0, 0, 0, 0, 0) else none) else (if pc < 4 then (if pc = 1 then some (.invokespecial 1000, 0, 3, 308, 0) else none) else (if pc = 4 then some (.aload_n 0, 0, 0, 0, 0) else none))) else (if pc < 8 then (if pc = 5 then some (.new 8, 0, 9, 309, 0) else none) else (if pc < 9 then (if pc = 8 then some (.dup, 0, 0, 0, 0) else none) else (if pc = 9 then some (.iconst (20), 2, 0, 0, 0) else none)))) else (if pc < 18 then (if pc < 14 then (if pc = 11 then some (.invokespecial 177, 0, 11, 310, 16520) else none) else (if pc < 17 then (if pc = 14 then some (.putfield 576, 0, 14, 311, 0) else none) else (if pc = 17 then some (.aload_n 0, 0, 0, 0, 0) else none))) else (if pc < 22 then (if pc < 21 then (if pc = 18 then some (.new 8, 0, 9, 309, 0) else none) else (if pc = 21 then some (.dup, 0, 0, 0, 0) else none)) else (if pc < 24 then (if pc = 22 then some (.iconst (20), 2, 0, 0, 0) else none) else (if pc = 24 then some (.invokespecial 177, 0, 11, 310, 16520) else none))))) else (if pc < 43 then (if pc < 34 then (if pc < 30 then (if pc = 27 then some (.putfield 577, 0, 20, 312, 0) else none) else (if pc < 31 then (if pc = 30 then some (.aload_n 0, 0, 0, 0, 0) else none) else (if pc = 31 then some (.new 8, 0, 9, 309, 0) else none))) else (if pc < 37 then (if pc < 35 then (if pc = 34 then some (.dup, 0, 0, 0, 0) else none) else (if pc = 35 then some (.iconst (20), 2, 0, 0, 0) else none)) else (if pc < 40 then (if pc = 37 then some (.invokespecial 177, 0, 11, 310, 16520) else none) else (if pc = 40 then some (.putfield 578, 0, 23, 313, 0) else none)))) else (if pc < 48 then (if pc < 44 then (if pc = 43 then some (.aload_n 0, 0, 0, 0, 0) else none) else (if pc < 47 then (if pc = 44 then some (.new 8, 0, 9, 309, 0) else none) else (if pc = 47 then some (.dup, 0, 0, 0, 0) else none))) else (if pc < 53 then (if pc < 50 then (if pc = 48 then some (.iconst (20), 2, 0, 0, 0) else none) else (if pc = 50 then some (.invokespecial 177, 0, 11, 310, 16520) else none)) else (if pc < 56 then (if pc = 53 then some (.putfield 579, 0, 26, 314, 0) else none) else (if pc = 56 then some (.return_, 0, 0, 0, 0) else none)))))
def hm_i184 (pc : Nat) : Option hm_Row := if pc < 57 then hm_j184 pc else none
/-- CurvekeyHouse$Tiles.clear()V -/
def hm_j185 (pc : Nat) : Option hm_Row := if pc < 2 then (if pc < 1 then (if pc = 0 then some (.aload_n 0, 0, 0, 0, 0) else none) else (if pc = 1 then some (.iconst 0, 1, 0, 0, 0) else none)) else (if pc < 5 then (if pc = 2 then some (.putfield 580, 0, 29, 315, 0) else none) else (if pc = 5 then some (.return_, 0, 0, 0, 0) else none))
def hm_i185 (pc : Nat) : Option hm_Row := if pc < 6 then hm_j185 pc else none
/-- CurvekeyHouse$Tiles.size()I -/
def hm_j186 (pc : Nat) : Option hm_Row := if pc < 1 then (if pc = 0 then some (.aload_n 0, 0, 0, 0, 0) else none) else (if pc < 4 then (if pc = 1 then some (.getfield 580, 0, 29, 315, 0) else none) else (if pc = 4 then some (.ireturn, 0, 0, 0, 0) else none))
def hm_i186 (pc : Nat) : Option hm_Row := if pc < 5 then hm_j186 pc else none
/-- CurvekeyHouse$Tiles.find(II)I -/
def hm_j187 (pc : Nat) : Option hm_Row := if pc < 22 then (if pc < 10 then (if pc < 3 then (if pc < 1 then (if pc = 0 then some (.iconst 0, 1, 0, 0, 0) else none) else (if pc < 2 then (if pc = 1 then some (.istore_n 3, 0, 0, 0, 0) else none) else (if pc = 2 then some (.iload_n 3, 0, 0, 0, 0) else none))) else (if pc < 4 then (if pc = 3 then some (.aload_n 0, 0, 0, 0, 0) else none) else (if pc < 7 then (if pc = 4 then some (.getfield 580, 0, 29, 315, 0) else none) else (if pc = 7 then some (.if_icmp .ge 42, 0, 0, 0, 0) else none)))) else (if pc < 15 then (if pc < 11 then (if pc = 10 then some (.aload_n 0, 0, 0, 0, 0) else none) else (if pc < 14 then (if pc = 11 then some (.getfield 576, 0, 14, 311, 0) else none) else (if pc = 14 then some (.iload_n 3, 0, 0, 0, 0) else none))) else (if pc < 18 then (if pc = 15 then some (.invokevirtual 178, 0, 33, 554, 16520) else none) else (if pc < 19 then (if pc = 18 then some (.iload_n 1, 0, 0, 0, 0) else none) else (if pc = 19 then some (.if_icmp .ne 36, 0, 0, 0, 0) else none))))) else (if pc < 34 then (if pc < 27 then (if pc < 23 then (if pc = 22 then some (.aload_n 0, 0, 0, 0, 0) else none) else (if pc < 26 then (if pc = 23 then some (.getfield 577, 0, 20, 312, 0) else none) else (if pc = 26 then some (.iload_n 3, 0, 0, 0, 0) else none))) else (if pc < 30 then (if pc = 27 then some (.invokevirtual 178, 0, 33, 554, 16520) else none) else (if pc < 31 then (if pc = 30 then some (.iload_n 2, 0, 0, 0, 0) else none) else (if pc = 31 then some (.if_icmp .ne 36, 0, 0, 0, 0) else none)))) else (if pc < 39 then (if pc < 35 then (if pc = 34 then some (.iload_n 3, 0, 0, 0, 0) else none) else (if pc < 36 then (if pc = 35 then some (.ireturn, 0, 0, 0, 0) else none) else (if pc = 36 then some (.iinc 3 (1), 0, 0, 0, 0) else none))) else (if pc < 42 then (if pc = 39 then some (.goto 2, 0, 0, 0, 0) else none) else (if pc < 43 then (if pc = 42 then some (.iconst (-1), 1, 0, 0, 0) else none) else (if pc = 43 then some (.ireturn, 0, 0, 0, 0) else none)))))
def hm_i187 (pc : Nat) : Option hm_Row := if pc < 44 then hm_j187 pc else none
/-- CurvekeyHouse$Tiles.hasRoomFor(II)Z -/
def hm_j188 (pc : Nat) : Option hm_Row := if pc < 12 then (if pc < 6 then (if pc < 1 then (if pc = 0 then some (.aload_n 0, 0, 0, 0, 0) else none) else (if pc < 4 then (if pc = 1 then some (.getfield 580, 0, 29, 315, 0) else none) else (if pc = 4 then some (.iconst (20), 2, 0, 0, 0) else none))) else (if pc < 10 then (if pc < 9 then (if pc = 6 then some (.if_icmp .lt 19, 0, 0, 0, 0) else none) else (if pc = 9 then some (.aload_n 0, 0, 0, 0, 0) else none)) else (if pc < 11 then (if pc = 10 then some (.iload_n 1, 0, 0, 0, 0) else none) else (if pc = 11 then some (.iload_n 2, 0, 0, 0, 0) else none)))) else (if pc < 19 then (if pc < 15 then (if pc = 12 then some (.invokevirtual 187, 0, 37, 879, 33033) else none) else (if pc < 16 then (if pc = 15 then some (.iconst (-1), 1, 0, 0, 0) else none) else (if pc = 16 then some (.if_icmp .eq 23, 0, 0, 0, 0) else none))) else (if pc < 23 then (if pc < 20 then (if pc = 19 then some (.iconst 1, 1, 0, 0, 0) else none) else (if pc = 20 then some (.goto 24, 0, 0, 0, 0) else none)) else (if pc < 24 then (if pc = 23 then some (.iconst 0, 1, 0, 0, 0) else none) else (if pc = 24 then some (.ireturn, 0, 1, 0, 0) else none))))
def hm_i188 (pc : Nat) : Option hm_Row := if pc < 25 then hm_j188 pc else none
/-- CurvekeyHouse$Tiles.drawAnew(III)V -/
def hm_j189 (pc : Nat) : Option hm_Row := if pc < 34 then (if pc < 15 then (if pc < 6 then (if pc < 2 then (if pc < 1 then (if pc = 0 then some (.aload_n 0, 0, 0, 0, 0) else none) else (if pc = 1 then some (.iload_n 1, 0, 0, 0, 0) else none)) else (if pc < 3 then (if pc = 2 then some (.iload_n 2, 0, 0, 0, 0) else none) else (if pc = 3 then some (.invokevirtual 187, 0, 37, 879, 33033) else none))) else (if pc < 10 then (if pc < 8 then (if pc = 6 then some (.istore 4, 0, 0, 0, 0) else none) else (if pc = 8 then some (.iload 4, 0, 0, 0, 0) else none)) else (if pc < 11 then (if pc = 10 then some (.iconst (-1), 1, 0, 0, 0) else none) else (if pc < 14 then (if pc = 11 then some (.if_icmp .ne 30, 0, 0, 0, 0) else none) else (if pc = 14 then some (.aload_n 0, 0, 0, 0, 0) else none))))) else (if pc < 25 then (if pc < 20 then (if pc < 18 then (if pc = 15 then some (.getfield 580, 0, 29, 315, 0) else none) else (if pc = 18 then some (.istore 4, 0, 0, 0, 0) else none)) else (if pc < 21 then (if pc = 20 then some (.aload_n 0, 0, 0, 0, 0) else none) else (if pc < 22 then (if pc = 21 then some (.dup, 0, 0, 0, 0) else none) else (if pc = 22 then some (.getfield 580, 0, 29, 315, 0) else none)))) else (if pc < 27 then (if pc < 26 then (if pc = 25 then some (.iconst 1, 1, 0, 0, 0) else none) else (if pc = 26 then some (.iadd, 0, 0, 0, 0) else none)) else (if pc < 30 then (if pc = 27 then some (.putfield 580, 0, 29, 315, 0) else none) else (if pc < 31 then (if pc = 30 then some (.aload_n 0, 0, 0, 0, 0) else none) else (if pc = 31 then some (.getfield 576, 0, 14, 311, 0) else none)))))) else (if pc < 51 then (if pc < 41 then (if pc < 37 then (if pc < 36 then (if pc = 34 then some (.iload 4, 0, 0, 0, 0) else none) else (if pc = 36 then some (.iload_n 1, 0, 0, 0, 0) else none)) else (if pc < 40 then (if pc = 37 then some (.invokevirtual 179, 0, 41, 735, 24840) else none) else (if pc = 40 then some (.aload_n 0, 0, 0, 0, 0) else none))) else (if pc < 46 then (if pc < 44 then (if pc = 41 then some (.getfield 577, 0, 20, 312, 0) else none) else (if pc = 44 then some (.iload 4, 0, 0, 0, 0) else none)) else (if pc < 47 then (if pc = 46 then some (.iload_n 2, 0, 0, 0, 0) else none) else (if pc < 50 then (if pc = 47 then some (.invokevirtual 179, 0, 41, 735, 24840) else none) else (if pc = 50 then some (.aload_n 0, 0, 0, 0, 0) else none))))) else (if pc < 61 then (if pc < 56 then (if pc < 54 then (if pc = 51 then some (.getfield 578, 0, 23, 313, 0) else none) else (if pc = 54 then some (.iload 4, 0, 0, 0, 0) else none)) else (if pc < 57 then (if pc = 56 then some (.iload_n 3, 0, 0, 0, 0) else none) else (if pc < 60 then (if pc = 57 then some (.invokevirtual 179, 0, 41, 735, 24840) else none) else (if pc = 60 then some (.aload_n 0, 0, 0, 0, 0) else none)))) else (if pc < 66 then (if pc < 64 then (if pc = 61 then some (.getfield 579, 0, 26, 314, 0) else none) else (if pc = 64 then some (.iload 4, 0, 0, 0, 0) else none)) else (if pc < 67 then (if pc = 66 then some (.iconst 0, 1, 0, 0, 0) else none) else (if pc < 70 then (if pc = 67 then some (.invokevirtual 179, 0, 41, 735, 24840) else none) else (if pc = 70 then some (.return_, 0, 0, 0, 0) else none))))))
def hm_i189 (pc : Nat) : Option hm_Row := if pc < 71 then hm_j189 pc else none
/-- CurvekeyHouse$Tiles.staleOnes()I -/
def hm_j190 (pc : Nat) : Option hm_Row := if pc < 13 then (if pc < 4 then (if pc < 2 then (if pc < 1 then (if pc = 0 then some (.iconst 0, 1, 0, 0, 0) else none) else (if pc = 1 then some (.istore_n 1, 0, 0, 0, 0) else none)) else (if pc < 3 then (if pc = 2 then some (.iconst 0, 1, 0, 0, 0) else none) else (if pc = 3 then some (.istore_n 2, 0, 0, 0, 0) else none))) else (if pc < 6 then (if pc < 5 then (if pc = 4 then some (.iload_n 2, 0, 0, 0, 0) else none) else (if pc = 5 then some (.aload_n 0, 0, 0, 0, 0) else none)) else (if pc < 9 then (if pc = 6 then some (.getfield 580, 0, 29, 315, 0) else none) else (if pc < 12 then (if pc = 9 then some (.if_icmp .ge 29, 0, 0, 0, 0) else none) else (if pc = 12 then some (.iload_n 1, 0, 0, 0, 0) else none))))) else (if pc < 22 then (if pc < 17 then (if pc < 14 then (if pc = 13 then some (.aload_n 0, 0, 0, 0, 0) else none) else (if pc = 14 then some (.getfield 579, 0, 26, 314, 0) else none)) else (if pc < 18 then (if pc = 17 then some (.iload_n 2, 0, 0, 0, 0) else none) else (if pc < 21 then (if pc = 18 then some (.invokevirtual 178, 0, 33, 554, 16520) else none) else (if pc = 21 then some (.iadd, 0, 0, 0, 0) else none)))) else (if pc < 26 then (if pc < 23 then (if pc = 22 then some (.istore_n 1, 0, 0, 0, 0) else none) else (if pc = 23 then some (.iinc 2 (1), 0, 0, 0, 0) else none)) else (if pc < 29 then (if pc = 26 then some (.goto 4, 0, 0, 0, 0) else none) else (if pc < 30 then (if pc = 29 then some (.iload_n 1, 0, 0, 0, 0) else none) else (if pc = 30 then some (.ireturn, 0, 0, 0, 0) else none)))))
def hm_i190 (pc : Nat) : Option hm_Row := if pc < 31 then hm_j190 pc else none
/-- CurvekeyHouse$Tiles.spoil(LCurvekeyHouse$Cells;II)V -/
def hm_j191 (pc : Nat) : Option hm_Row := if pc < 24 then (if pc < 12 then (if pc < 5 then (if pc < 1 then (if pc = 0 then some (.iconst 0, 1, 0, 0, 0) else none) else (if pc < 3 then (if pc = 1 then some (.istore 4, 0, 0, 0, 0) else none) else (if pc = 3 then some (.iload 4, 0, 0, 0, 0) else none))) else (if pc < 6 then (if pc = 5 then some (.aload_n 0, 0, 0, 0, 0) else none) else (if pc < 9 then (if pc = 6 then some (.getfield 580, 0, 29, 315, 0) else none) else (if pc = 9 then some (.if_icmp .ge 55, 0, 0, 0, 0) else none)))) else (if pc < 17 then (if pc < 13 then (if pc = 12 then some (.aload_n 1, 0, 0, 0, 0) else none) else (if pc < 14 then (if pc = 13 then some (.aload_n 0, 0, 0, 0, 0) else none) else (if pc = 14 then some (.getfield 576, 0, 14, 311, 0) else none))) else (if pc < 22 then (if pc < 19 then (if pc = 17 then some (.iload 4, 0, 0, 0, 0) else none) else (if pc = 19 then some (.invokevirtual 178, 0, 33, 554, 16520) else none)) else (if pc < 23 then (if pc = 22 then some (.iload_n 2, 0, 0, 0, 0) else none) else (if pc = 23 then some (.iload_n 3, 0, 0, 0, 0) else none))))) else (if pc < 40 then (if pc < 31 then (if pc < 27 then (if pc = 24 then some (.invokevirtual 74, 0, 45, 734, 41345) else none) else (if pc < 28 then (if pc = 27 then some (.aload_n 0, 0, 0, 0, 0) else none) else (if pc = 28 then some (.getfield 577, 0, 20, 312, 0) else none))) else (if pc < 36 then (if pc < 33 then (if pc = 31 then some (.iload 4, 0, 0, 0, 0) else none) else (if pc = 33 then some (.invokevirtual 178, 0, 33, 554, 16520) else none)) else (if pc < 39 then (if pc = 36 then some (.if_icmp .ne 49, 0, 0, 0, 0) else none) else (if pc = 39 then some (.aload_n 0, 0, 0, 0, 0) else none)))) else (if pc < 46 then (if pc < 43 then (if pc = 40 then some (.getfield 579, 0, 26, 314, 0) else none) else (if pc < 45 then (if pc = 43 then some (.iload 4, 0, 0, 0, 0) else none) else (if pc = 45 then some (.iconst 1, 1, 0, 0, 0) else none))) else (if pc < 52 then (if pc < 49 then (if pc = 46 then some (.invokevirtual 179, 0, 41, 735, 24840) else none) else (if pc = 49 then some (.iinc 4 (1), 0, 0, 0, 0) else none)) else (if pc < 55 then (if pc = 52 then some (.goto 3, 0, 0, 0, 0) else none) else (if pc = 55 then some (.return_, 0, 0, 0, 0) else none)))))
def hm_i191 (pc : Nat) : Option hm_Row := if pc < 56 then hm_j191 pc else none
/-- CurvekeyHouseLaw.below(II)I -/
def hm_j192 (pc : Nat) : Option hm_Row := if pc < 4 then (if pc < 1 then (if pc = 0 then some (.iload_n 0, 0, 0, 0, 0) else none) else (if pc < 3 then (if pc = 1 then some (.iconst (2147483647), 2, 7, 606, 0) else none) else (if pc = 3 then some (.iand, 0, 0, 0, 0) else none))) else (if pc < 5 then (if pc = 4 then some (.iload_n 1, 0, 0, 0, 0) else none) else (if pc < 6 then (if pc = 5 then some (.irem, 0, 0, 0, 0) else none) else (if pc = 6 then some (.ireturn, 0, 0, 0, 0) else none)))
def hm_i192 (pc : Nat) : Option hm_Row := if pc < 7 then hm_j192 pc else none
/-- CurvekeyHouseLaw.cell([II)I -/
def hm_j193 (pc : Nat) : Option hm_Row := if pc < 9 then (if pc < 3 then (if pc < 1 then (if pc = 0 then some (.iload_n 1, 0, 0, 0, 0) else none) else (if pc < 2 then (if pc = 1 then some (.aload_n 0, 0, 0, 0, 0) else none) else (if pc = 2 then some (.arraylength, 0, 0, 0, 0) else none))) else (if pc < 7 then (if pc < 6 then (if pc = 3 then some (.if_icmp .ge 12, 0, 0, 0, 0) else none) else (if pc = 6 then some (.aload_n 0, 0, 0, 0, 0) else none)) else (if pc < 8 then (if pc = 7 then some (.iload_n 1, 0, 0, 0, 0) else none) else (if pc = 8 then some (.iaload, 0, 0, 0, 0) else none)))) else (if pc < 15 then (if pc < 12 then (if pc = 9 then some (.goto 18, 0, 0, 0, 0) else none) else (if pc < 14 then (if pc = 12 then some (.iconst (790386105), 2, 8, 610, 0) else none) else (if pc = 14 then some (.iload_n 1, 0, 0, 0, 0) else none))) else (if pc < 17 then (if pc < 16 then (if pc = 15 then some (.iconst 3, 1, 0, 0, 0) else none) else (if pc = 16 then some (.iadd, 0, 0, 0, 0) else none)) else (if pc < 18 then (if pc = 17 then some (.imul, 0, 0, 0, 0) else none) else (if pc = 18 then some (.ireturn, 0, 0, 0, 0) else none))))
def hm_i193 (pc : Nat) : Option hm_Row := if pc < 19 then hm_j193 pc else none
/-- CurvekeyHouseLaw.law([I)Z -/
def hm_j194 (pc : Nat) : Option hm_Row := if pc < 101 then (if pc < 47 then (if pc < 22 then (if pc < 11 then (if pc < 7 then (if pc < 3 then (if pc = 0 then some (.new 10, 0, 9, 64, 0) else none) else (if pc < 4 then (if pc = 3 then some (.dup, 0, 0, 0, 0) else none) else (if pc = 4 then some (.invokespecial 0, 0, 11, 66, 8202) else none))) else (if pc < 9 then (if pc < 8 then (if pc = 7 then some (.astore_n 1, 0, 0, 0, 0) else none) else (if pc = 8 then some (.iconst 1, 1, 0, 0, 0) else none)) else (if pc < 10 then (if pc = 9 then some (.aload_n 0, 0, 0, 0, 0) else none) else (if pc = 10 then some (.iconst 1, 1, 0, 0, 0) else none)))) else (if pc < 18 then (if pc < 14 then (if pc = 11 then some (.invokestatic 193, 0, 12, 607, 16739) else none) else (if pc < 15 then (if pc = 14 then some (.iconst 4, 1, 0, 0, 0) else none) else (if pc = 15 then some (.invokestatic 192, 0, 18, 603, 16739) else none))) else (if pc < 20 then (if pc < 19 then (if pc = 18 then some (.iadd, 0, 0, 0, 0) else none) else (if pc = 19 then some (.istore_n 2, 0, 0, 0, 0) else none)) else (if pc < 21 then (if pc = 20 then some (.iconst 1, 1, 0, 0, 0) else none) else (if pc = 21 then some (.iload_n 2, 0, 0, 0, 0) else none))))) else (if pc < 31 then (if pc < 25 then (if pc < 23 then (if pc = 22 then some (.ishl, 0, 0, 0, 0) else none) else (if pc < 24 then (if pc = 23 then some (.istore_n 3, 0, 0, 0, 0) else none) else (if pc = 24 then some (.aload_n 1, 0, 0, 0, 0) else none))) else (if pc < 27 then (if pc < 26 then (if pc = 25 then some (.iload_n 2, 0, 0, 0, 0) else none) else (if pc = 26 then some (.aload_n 0, 0, 0, 0, 0) else none)) else (if pc < 28 then (if pc = 27 then some (.iconst 2, 1, 0, 0, 0) else none) else (if pc = 28 then some (.invokestatic 193, 0, 12, 607, 16739) else none)))) else (if pc < 38 then (if pc < 36 then (if pc < 33 then (if pc = 31 then some (.iconst (6), 2, 0, 0, 0) else none) else (if pc = 33 then some (.invokestatic 192, 0, 18, 603, 16739) else none)) else (if pc < 37 then (if pc = 36 then some (.iconst 2, 1, 0, 0, 0) else none) else (if pc = 37 then some (.aload_n 0, 0, 0, 0, 0) else none))) else (if pc < 42 then (if pc < 39 then (if pc = 38 then some (.iconst 3, 1, 0, 0, 0) else none) else (if pc = 39 then some (.invokestatic 193, 0, 12, 607, 16739) else none)) else (if pc < 44 then (if pc = 42 then some (.iconst (7), 2, 0, 0, 0) else none) else (if pc = 44 then some (.invokestatic 192, 0, 18, 603, 16739) else none)))))) else (if pc < 75 then (if pc < 60 then (if pc < 52 then (if pc < 48 then (if pc = 47 then some (.iadd, 0, 0, 0, 0) else none) else (if pc < 51 then (if pc = 48 then some (.invokevirtual 4, 0, 22, 405, 33162) else none) else (if pc = 51 then some (.pop, 0, 0, 0, 0) else none))) else (if pc < 57 then (if pc < 55 then (if pc = 52 then some (.iconst (200), 3, 0, 0, 0) else none) else (if pc = 55 then some (.newarray .int, 0, 0, 0, 0) else none)) else (if pc < 59 then (if pc = 57 then some (.astore 4, 0, 0, 0, 0) else none) else (if pc = 59 then some (.iconst 0, 1, 0, 0, 0) else none)))) else (if pc < 67 then (if pc < 63 then (if pc < 62 then (if pc = 60 then some (.istore 5, 0, 0, 0, 0) else none) else (if pc = 62 then some (.iconst 0, 1, 0, 0, 0) else none)) else (if pc < 65 then (if pc = 63 then some (.istore 6, 0, 0, 0, 0) else none) else (if pc = 65 then some (.iload 6, 0, 0, 0, 0) else none))) else (if pc < 72 then (if pc < 69 then (if pc = 67 then some (.iconst (60), 2, 0, 0, 0) else none) else (if pc = 69 then some (.if_icmp .ge 207, 0, 0, 0, 0) else none)) else (if pc < 73 then (if pc = 72 then some (.aload_n 0, 0, 0, 0, 0) else none) else (if pc = 73 then some (.iload 6, 0, 0, 0, 0) else none))))) else (if pc < 87 then (if pc < 81 then (if pc < 77 then (if pc = 75 then some (.iconst (16), 2, 0, 0, 0) else none) else (if pc < 78 then (if pc = 77 then some (.irem, 0, 0, 0, 0) else none) else (if pc = 78 then some (.invokestatic 193, 0, 12, 607, 16739) else none))) else (if pc < 85 then (if pc < 83 then (if pc = 81 then some (.iconst (67), 2, 0, 0, 0) else none) else (if pc = 83 then some (.iload 6, 0, 0, 0, 0) else none)) else (if pc < 86 then (if pc = 85 then some (.imul, 0, 0, 0, 0) else none) else (if pc = 86 then some (.iadd, 0, 0, 0, 0) else none)))) else (if pc < 93 then (if pc < 90 then (if pc < 89 then (if pc = 87 then some (.istore 7, 0, 0, 0, 0) else none) else (if pc = 89 then some (.aload_n 1, 0, 0, 0, 0) else none)) else (if pc < 92 then (if pc = 90 then some (.iload 7, 0, 0, 0, 0) else none) else (if pc = 92 then some (.iconst 2, 1, 0, 0, 0) else none))) else (if pc < 96 then (if pc < 94 then (if pc = 93 then some (.ishr, 0, 0, 0, 0) else none) else (if pc = 94 then some (.iload 7, 0, 0, 0, 0) else none)) else (if pc < 98 then (if pc = 96 then some (.iconst (10), 2, 0, 0, 0) else none) else (if pc = 98 then some (.invokestatic 192, 0, 18, 603, 16739) else none))))))) else (if pc < 159 then (if pc < 133 then (if pc < 116 then (if pc < 107 then (if pc < 102 then (if pc = 101 then some (.iload_n 3, 0, 0, 0, 0) else none) else (if pc < 105 then (if pc = 102 then some (.invokestatic 195, 0, 26, 611, 66147) else none) else (if pc = 105 then some (.iload 5, 0, 0, 0, 0) else none))) else (if pc < 110 then (if pc < 108 then (if pc = 107 then some (.aload_n 1, 0, 0, 0, 0) else none) else (if pc = 108 then some (.iconst (7), 2, 0, 0, 0) else none)) else (if pc < 113 then (if pc = 110 then some (.invokevirtual 11, 0, 30, 502, 16522) else none) else (if pc = 113 then some (.if_icmp .ge 145, 0, 0, 0, 0) else none)))) else (if pc < 127 then (if pc < 121 then (if pc < 118 then (if pc = 116 then some (.iload 5, 0, 0, 0, 0) else none) else (if pc = 118 then some (.iconst (199), 3, 0, 0, 0) else none)) else (if pc < 124 then (if pc = 121 then some (.if_icmp .ge 145, 0, 0, 0, 0) else none) else (if pc = 124 then some (.iinc 5 (1), 0, 0, 0, 0) else none))) else (if pc < 131 then (if pc < 129 then (if pc = 127 then some (.aload 4, 0, 0, 0, 0) else none) else (if pc = 129 then some (.iload 5, 0, 0, 0, 0) else none)) else (if pc < 132 then (if pc = 131 then some (.aload_n 1, 0, 0, 0, 0) else none) else (if pc = 132 then some (.iconst 0, 1, 0, 0, 0) else none))))) else (if pc < 145 then (if pc < 136 then (if pc < 134 then (if pc = 133 then some (.iconst 0, 1, 0, 0, 0) else none) else (if pc < 135 then (if pc = 134 then some (.iload_n 3, 0, 0, 0, 0) else none) else (if pc = 135 then some (.iconst 1, 1, 0, 0, 0) else none))) else (if pc < 141 then (if pc < 138 then (if pc = 136 then some (.iload 5, 0, 0, 0, 0) else none) else (if pc = 138 then some (.invokevirtual 13, 0, 34, 559, 49802) else none)) else (if pc < 142 then (if pc = 141 then some (.iastore, 0, 0, 0, 0) else none) else (if pc = 142 then some (.goto 105, 0, 0, 0, 0) else none)))) else (if pc < 152 then (if pc < 149 then (if pc < 147 then (if pc = 145 then some (.iload 6, 0, 0, 0, 0) else none) else (if pc = 147 then some (.iconst (7), 2, 0, 0, 0) else none)) else (if pc < 150 then (if pc = 149 then some (.irem, 0, 0, 0, 0) else none) else (if pc = 150 then some (.iconst (6), 2, 0, 0, 0) else none))) else (if pc < 156 then (if pc < 155 then (if pc = 152 then some (.if_icmp .ne 168, 0, 0, 0, 0) else none) else (if pc = 155 then some (.aload_n 1, 0, 0, 0, 0) else none)) else (if pc < 158 then (if pc = 156 then some (.iload 7, 0, 0, 0, 0) else none) else (if pc = 158 then some (.iload_n 2, 0, 0, 0, 0) else none)))))) else (if pc < 183 then (if pc < 171 then (if pc < 166 then (if pc < 160 then (if pc = 159 then some (.iload_n 3, 0, 0, 0, 0) else none) else (if pc < 163 then (if pc = 160 then some (.invokestatic 196, 0, 38, 900, 156259) else none) else (if pc = 163 then some (.ifCond .ne 168, 0, 0, 0, 0) else none))) else (if pc < 168 then (if pc < 167 then (if pc = 166 then some (.iconst 0, 1, 0, 0, 0) else none) else (if pc = 167 then some (.ireturn, 0, 1, 0, 0) else none)) else (if pc < 170 then (if pc = 168 then some (.iload 7, 0, 0, 0, 0) else none) else (if pc = 170 then some (.iconst 3, 1, 0, 0, 0) else none)))) else (if pc < 176 then (if pc < 174 then (if pc < 172 then (if pc = 171 then some (.ishr, 0, 0, 0, 0) else none) else (if pc = 172 then some (.iload 5, 0, 0, 0, 0) else none)) else (if pc < 175 then (if pc = 174 then some (.iconst 1, 1, 0, 0, 0) else none) else (if pc = 175 then some (.iadd, 0, 0, 0, 0) else none))) else (if pc < 181 then (if pc < 179 then (if pc = 176 then some (.invokestatic 192, 0, 18, 603, 16739) else none) else (if pc = 179 then some (.istore 8, 0, 0, 0, 0) else none)) else (if pc < 182 then (if pc = 181 then some (.aload_n 1, 0, 0, 0, 0) else none) else (if pc = 182 then some (.iconst 0, 1, 0, 0, 0) else none))))) else (if pc < 195 then (if pc < 186 then (if pc < 184 then (if pc = 183 then some (.iconst 0, 1, 0, 0, 0) else none) else (if pc < 185 then (if pc = 184 then some (.iload_n 3, 0, 0, 0, 0) else none) else (if pc = 185 then some (.iconst 1, 1, 0, 0, 0) else none))) else (if pc < 191 then (if pc < 188 then (if pc = 186 then some (.iload 8, 0, 0, 0, 0) else none) else (if pc = 188 then some (.invokevirtual 13, 0, 34, 559, 49802) else none)) else (if pc < 193 then (if pc = 191 then some (.aload 4, 0, 0, 0, 0) else none) else (if pc = 193 then some (.iload 8, 0, 0, 0, 0) else none)))) else (if pc < 201 then (if pc < 199 then (if pc < 196 then (if pc = 195 then some (.iaload, 0, 0, 0, 0) else none) else (if pc = 196 then some (.if_icmp .eq 201, 0, 0, 0, 0) else none)) else (if pc < 200 then (if pc = 199 then some (.iconst 0, 1, 0, 0, 0) else none) else (if pc = 200 then some (.ireturn, 0, 1, 0, 0) else none))) else (if pc < 207 then (if pc < 204 then (if pc = 201 then some (.iinc 6 (1), 0, 0, 0, 0) else none) else (if pc = 204 then some (.goto 65, 0, 0, 0, 0) else none)) else (if pc < 208 then (if pc = 207 then some (.iconst 1, 1, 0, 0, 0) else none) else (if pc = 208 then some (.ireturn, 0, 1, 0, 0) else none)))))))
def hm_i194 (pc : Nat) : Option hm_Row := if pc < 209 then hm_j194 pc else none
/-- CurvekeyHouseLaw.act(LCurvekeyHouse;III)V -/
def hm_j195 (pc : Nat) : Option hm_Row := if pc < 139 then (if pc < 90 then (if pc < 20 then (if pc < 10 then (if pc < 6 then (if pc < 1 then (if pc = 0 then some (.iload_n 1, 0, 0, 0, 0) else none) else (if pc < 3 then (if pc = 1 then some (.iconst (8), 2, 0, 0, 0) else none) else (if pc = 3 then some (.invokestatic 192, 0, 18, 603, 16739) else none))) else (if pc < 8 then (if pc = 6 then some (.istore 4, 0, 0, 0, 0) else none) else (if pc < 9 then (if pc = 8 then some (.iload_n 1, 0, 0, 0, 0) else none) else (if pc = 9 then some (.iconst 2, 1, 0, 0, 0) else none)))) else (if pc < 15 then (if pc < 11 then (if pc = 10 then some (.ishr, 0, 0, 0, 0) else none) else (if pc < 12 then (if pc = 11 then some (.iload_n 3, 0, 0, 0, 0) else none) else (if pc = 12 then some (.invokestatic 192, 0, 18, 603, 16739) else none))) else (if pc < 18 then (if pc < 17 then (if pc = 15 then some (.istore 5, 0, 0, 0, 0) else none) else (if pc = 17 then some (.iload_n 1, 0, 0, 0, 0) else none)) else (if pc < 19 then (if pc = 18 then some (.iconst 4, 1, 0, 0, 0) else none) else (if pc = 19 then some (.ishr, 0, 0, 0, 0) else none))))) else (if pc < 77 then (if pc < 26 then (if pc < 21 then (if pc = 20 then some (.iload_n 3, 0, 0, 0, 0) else none) else (if pc < 24 then (if pc = 21 then some (.invokestatic 192, 0, 18, 603, 16739) else none) else (if pc = 24 then some (.istore 6, 0, 0, 0, 0) else none))) else (if pc < 27 then (if pc = 26 then some (.iload_n 2, 0, 0, 0, 0) else none) else (if pc < 76 then (if pc = 27 then some (.tableswitch 202 (0) (8) #[76, 76, 76, 88, 111, 125, 135, 143, 188], 0, 0, 0, 0) else none) else (if pc = 76 then some (.aload_n 0, 0, 0, 0, 0) else none)))) else (if pc < 84 then (if pc < 79 then (if pc = 77 then some (.iload 5, 0, 0, 0, 0) else none) else (if pc < 81 then (if pc = 79 then some (.iload 6, 0, 0, 0, 0) else none) else (if pc = 81 then some (.invokevirtual 5, 0, 42, 616, 24842) else none))) else (if pc < 88 then (if pc < 85 then (if pc = 84 then some (.pop, 0, 0, 0, 0) else none) else (if pc = 85 then some (.goto 214, 0, 0, 0, 0) else none)) else (if pc < 89 then (if pc = 88 then some (.aload_n 0, 0, 0, 0, 0) else none) else (if pc = 89 then some (.iconst 1, 1, 0, 0, 0) else none)))))) else (if pc < 112 then (if pc < 98 then (if pc < 95 then (if pc < 91 then (if pc = 90 then some (.iload_n 1, 0, 0, 0, 0) else none) else (if pc < 92 then (if pc = 91 then some (.iconst 3, 1, 0, 0, 0) else none) else (if pc = 92 then some (.invokestatic 192, 0, 18, 603, 16739) else none))) else (if pc < 96 then (if pc = 95 then some (.iadd, 0, 0, 0, 0) else none) else (if pc < 97 then (if pc = 96 then some (.iload_n 1, 0, 0, 0, 0) else none) else (if pc = 97 then some (.iconst 3, 1, 0, 0, 0) else none)))) else (if pc < 104 then (if pc < 99 then (if pc = 98 then some (.ishr, 0, 0, 0, 0) else none) else (if pc < 101 then (if pc = 99 then some (.iconst (100), 2, 0, 0, 0) else none) else (if pc = 101 then some (.invokestatic 192, 0, 18, 603, 16739) else none))) else (if pc < 108 then (if pc < 107 then (if pc = 104 then some (.invokevirtual 6, 0, 45, 736, 65802) else none) else (if pc = 107 then some (.pop, 0, 0, 0, 0) else none)) else (if pc < 111 then (if pc = 108 then some (.goto 214, 0, 0, 0, 0) else none) else (if pc = 111 then some (.aload_n 0, 0, 0, 0, 0) else none))))) else (if pc < 125 then (if pc < 118 then (if pc < 114 then (if pc = 112 then some (.iload 4, 0, 0, 0, 0) else none) else (if pc < 116 then (if pc = 114 then some (.iload 5, 0, 0, 0, 0) else none) else (if pc = 116 then some (.iload 6, 0, 0, 0, 0) else none))) else (if pc < 121 then (if pc = 118 then some (.invokevirtual 7, 0, 48, 743, 41354) else none) else (if pc < 122 then (if pc = 121 then some (.pop, 0, 0, 0, 0) else none) else (if pc = 122 then some (.goto 214, 0, 0, 0, 0) else none)))) else (if pc < 131 then (if pc < 126 then (if pc = 125 then some (.aload_n 0, 0, 0, 0, 0) else none) else (if pc < 128 then (if pc = 126 then some (.iload 4, 0, 0, 0, 0) else none) else (if pc = 128 then some (.invokevirtual 8, 0, 51, 800, 16522) else none))) else (if pc < 135 then (if pc < 132 then (if pc = 131 then some (.pop, 0, 0, 0, 0) else none) else (if pc = 132 then some (.goto 214, 0, 0, 0, 0) else none)) else (if pc < 136 then (if pc = 135 then some (.aload_n 0, 0, 0, 0, 0) else none) else (if pc = 136 then some (.invokevirtual 9, 0, 54, 812, 8202) else none))))))) else (if pc < 177 then (if pc < 158 then (if pc < 148 then (if pc < 144 then (if pc < 140 then (if pc = 139 then some (.pop, 0, 0, 0, 0) else none) else (if pc < 143 then (if pc = 140 then some (.goto 214, 0, 0, 0, 0) else none) else (if pc = 143 then some (.aload_n 0, 0, 0, 0, 0) else none))) else (if pc < 146 then (if pc = 144 then some (.iload 4, 0, 0, 0, 0) else none) else (if pc < 147 then (if pc = 146 then some (.iload_n 1, 0, 0, 0, 0) else none) else (if pc = 147 then some (.iconst 2, 1, 0, 0, 0) else none)))) else (if pc < 154 then (if pc < 149 then (if pc = 148 then some (.ishr, 0, 0, 0, 0) else none) else (if pc < 151 then (if pc = 149 then some (.iconst (7), 2, 0, 0, 0) else none) else (if pc = 151 then some (.invokestatic 192, 0, 18, 603, 16739) else none))) else (if pc < 156 then (if pc < 155 then (if pc = 154 then some (.iconst 3, 1, 0, 0, 0) else none) else (if pc = 155 then some (.isub, 0, 0, 0, 0) else none)) else (if pc < 157 then (if pc = 156 then some (.iload_n 1, 0, 0, 0, 0) else none) else (if pc = 157 then some (.iconst 4, 1, 0, 0, 0) else none))))) else (if pc < 169 then (if pc < 164 then (if pc < 159 then (if pc = 158 then some (.ishr, 0, 0, 0, 0) else none) else (if pc < 161 then (if pc = 159 then some (.iconst (7), 2, 0, 0, 0) else none) else (if pc = 161 then some (.invokestatic 192, 0, 18, 603, 16739) else none))) else (if pc < 165 then (if pc = 164 then some (.iconst 3, 1, 0, 0, 0) else none) else (if pc < 166 then (if pc = 165 then some (.isub, 0, 0, 0, 0) else none) else (if pc = 166 then some (.invokevirtual 17, 0, 58, 828, 33162) else none)))) else (if pc < 172 then (if pc < 170 then (if pc = 169 then some (.pop, 0, 0, 0, 0) else none) else (if pc < 171 then (if pc = 170 then some (.aload_n 0, 0, 0, 0, 0) else none) else (if pc = 171 then some (.iconst 1, 1, 0, 0, 0) else none))) else (if pc < 175 then (if pc < 173 then (if pc = 172 then some (.iload_n 1, 0, 0, 0, 0) else none) else (if pc = 173 then some (.iconst (6), 2, 0, 0, 0) else none)) else (if pc < 176 then (if pc = 175 then some (.ishr, 0, 0, 0, 0) else none) else (if pc = 176 then some (.iconst 2, 1, 0, 0, 0) else none)))))) else (if pc < 202 then (if pc < 189 then (if pc < 184 then (if pc < 180 then (if pc = 177 then some (.invokestatic 192, 0, 18, 603, 16739) else none) else (if pc < 181 then (if pc = 180 then some (.iadd, 0, 0, 0, 0) else none) else (if pc = 181 then some (.invokevirtual 18, 0, 61, 846, 41098) else none))) else (if pc < 185 then (if pc = 184 then some (.pop, 0, 0, 0, 0) else none) else (if pc < 188 then (if pc = 185 then some (.goto 214, 0, 0, 0, 0) else none) else (if pc = 188 then some (.aload_n 0, 0, 0, 0, 0) else none)))) else (if pc < 194 then (if pc < 190 then (if pc = 189 then some (.iload_n 1, 0, 0, 0, 0) else none) else (if pc < 191 then (if pc = 190 then some (.iconst 2, 1, 0, 0, 0) else none) else (if pc = 191 then some (.invokestatic 192, 0, 18, 603, 16739) else none))) else (if pc < 198 then (if pc < 195 then (if pc = 194 then some (.iconst 0, 1, 0, 0, 0) else none) else (if pc = 195 then some (.invokevirtual 26, 0, 64, 863, 33034) else none)) else (if pc < 199 then (if pc = 198 then some (.pop, 0, 0, 0, 0) else none) else (if pc = 199 then some (.goto 214, 0, 0, 0, 0) else none))))) else (if pc < 213 then (if pc < 205 then (if pc < 203 then (if pc = 202 then some (.aload_n 0, 0, 0, 0, 0) else none) else (if pc < 204 then (if pc = 203 then some (.iconst 1, 1, 0, 0, 0) else none) else (if pc = 204 then some (.iload_n 1, 0, 0, 0, 0) else none))) else (if pc < 209 then (if pc < 206 then (if pc = 205 then some (.iconst 4, 1, 0, 0, 0) else none) else (if pc = 206 then some (.invokestatic 192, 0, 18, 603, 16739) else none)) else (if pc < 210 then (if pc = 209 then some (.iadd, 0, 0, 0, 0) else none) else (if pc = 210 then some (.invokevirtual 21, 0, 67, 892, 32906) else none)))) else (if pc < 219 then (if pc < 214 then (if pc = 213 then some (.pop, 0, 0, 0, 0) else none) else (if pc < 217 then (if pc = 214 then some (.goto 223, 0, 0, 0, 0) else none) else (if pc = 217 then some (.astore 7, 0, 0, 0, 0) else none))) else (if pc < 222 then (if pc < 220 then (if pc = 219 then some (.return_, 0, 0, 0, 0) else none) else (if pc = 220 then some (.astore 7, 0, 0, 0, 0) else none)) else (if pc < 223 then (if pc = 222 then some (.return_, 0, 0, 0, 0) else none) else (if pc = 223 then some (.return_, 0, 0, 0, 0) else none)))))))
def hm_i195 (pc : Nat) : Option hm_Row := if pc < 224 then hm_j195 pc else none
/-- CurvekeyHouseLaw.isAsked(LCurvekeyHouse;III)Z -/
def hm_j196 (pc : Nat) : Option hm_Row := if pc < 289 then (if pc < 135 then (if pc < 71 then (if pc < 34 then (if pc < 16 then (if pc < 8 then (if pc < 4 then (if pc < 1 then (if pc = 0 then some (.aload_n 0, 0, 0, 0, 0) else none) else (if pc = 1 then some (.invokevirtual 30, 0, 74, 903, 32778) else none)) else (if pc < 6 then (if pc = 4 then some (.lstore 4, 0, 0, 0, 0) else none) else (if pc < 7 then (if pc = 6 then some (.aload_n 0, 0, 0, 0, 0) else none) else (if pc = 7 then some (.iconst 1, 1, 0, 0, 0) else none)))) else (if pc < 13 then (if pc < 11 then (if pc = 8 then some (.invokevirtual 11, 0, 30, 502, 16522) else none) else (if pc = 11 then some (.istore 6, 0, 0, 0, 0) else none)) else (if pc < 14 then (if pc = 13 then some (.iload_n 1, 0, 0, 0, 0) else none) else (if pc < 15 then (if pc = 14 then some (.iconst 2, 1, 0, 0, 0) else none) else (if pc = 15 then some (.ishr, 0, 0, 0, 0) else none))))) else (if pc < 24 then (if pc < 18 then (if pc < 17 then (if pc = 16 then some (.iload_n 3, 0, 0, 0, 0) else none) else (if pc = 17 then some (.iload_n 3, 0, 0, 0, 0) else none)) else (if pc < 19 then (if pc = 18 then some (.imul, 0, 0, 0, 0) else none) else (if pc < 22 then (if pc = 19 then some (.invokestatic 192, 0, 18, 603, 16739) else none) else (if pc = 22 then some (.istore 7, 0, 0, 0, 0) else none)))) else (if pc < 28 then (if pc < 25 then (if pc = 24 then some (.aload_n 0, 0, 0, 0, 0) else none) else (if pc = 25 then some (.invokevirtual 29, 0, 78, 1089, 8202) else none)) else (if pc < 31 then (if pc = 28 then some (.ifCond .eq 60, 0, 0, 0, 0) else none) else (if pc < 32 then (if pc = 31 then some (.aload_n 0, 0, 0, 0, 0) else none) else (if pc = 32 then some (.iload 6, 0, 0, 0, 0) else none)))))) else (if pc < 52 then (if pc < 43 then (if pc < 37 then (if pc < 35 then (if pc = 34 then some (.aload_n 0, 0, 0, 0, 0) else none) else (if pc = 35 then some (.iload 6, 0, 0, 0, 0) else none)) else (if pc < 39 then (if pc = 37 then some (.iload 7, 0, 0, 0, 0) else none) else (if pc < 40 then (if pc = 39 then some (.iconst 0, 1, 0, 0, 0) else none) else (if pc = 40 then some (.invokevirtual 2, 0, 82, 1090, 33162) else none)))) else (if pc < 46 then (if pc < 44 then (if pc = 43 then some (.aload_n 0, 0, 0, 0, 0) else none) else (if pc = 44 then some (.iload 6, 0, 0, 0, 0) else none)) else (if pc < 48 then (if pc = 46 then some (.iload 7, 0, 0, 0, 0) else none) else (if pc < 49 then (if pc = 48 then some (.iconst 1, 1, 0, 0, 0) else none) else (if pc = 49 then some (.invokevirtual 2, 0, 82, 1090, 33162) else none))))) else (if pc < 62 then (if pc < 57 then (if pc < 55 then (if pc = 52 then some (.invokevirtual 1, 0, 86, 1100, 33162) else none) else (if pc = 55 then some (.iload 7, 0, 0, 0, 0) else none)) else (if pc < 60 then (if pc = 57 then some (.if_icmp .eq 62, 0, 0, 0, 0) else none) else (if pc < 61 then (if pc = 60 then some (.iconst 0, 1, 0, 0, 0) else none) else (if pc = 61 then some (.ireturn, 0, 1, 0, 0) else none)))) else (if pc < 65 then (if pc < 63 then (if pc = 62 then some (.iload_n 1, 0, 0, 0, 0) else none) else (if pc < 64 then (if pc = 63 then some (.iconst 3, 1, 0, 0, 0) else none) else (if pc = 64 then some (.ishr, 0, 0, 0, 0) else none))) else (if pc < 66 then (if pc = 65 then some (.iload_n 3, 0, 0, 0, 0) else none) else (if pc < 69 then (if pc = 66 then some (.invokestatic 192, 0, 18, 603, 16739) else none) else (if pc = 69 then some (.istore 8, 0, 0, 0, 0) else none))))))) else (if pc < 100 then (if pc < 84 then (if pc < 78 then (if pc < 73 then (if pc < 72 then (if pc = 71 then some (.iload_n 1, 0, 0, 0, 0) else none) else (if pc = 72 then some (.iconst 5, 1, 0, 0, 0) else none)) else (if pc < 74 then (if pc = 73 then some (.ishr, 0, 0, 0, 0) else none) else (if pc < 75 then (if pc = 74 then some (.iload_n 3, 0, 0, 0, 0) else none) else (if pc = 75 then some (.invokestatic 192, 0, 18, 603, 16739) else none)))) else (if pc < 81 then (if pc < 80 then (if pc = 78 then some (.istore 9, 0, 0, 0, 0) else none) else (if pc = 80 then some (.iconst 1, 1, 0, 0, 0) else none)) else (if pc < 82 then (if pc = 81 then some (.iload_n 1, 0, 0, 0, 0) else none) else (if pc < 83 then (if pc = 82 then some (.iconst 4, 1, 0, 0, 0) else none) else (if pc = 83 then some (.ishr, 0, 0, 0, 0) else none))))) else (if pc < 92 then (if pc < 87 then (if pc < 85 then (if pc = 84 then some (.iload_n 3, 0, 0, 0, 0) else none) else (if pc = 85 then some (.iload 8, 0, 0, 0, 0) else none)) else (if pc < 88 then (if pc = 87 then some (.isub, 0, 0, 0, 0) else none) else (if pc < 91 then (if pc = 88 then some (.invokestatic 192, 0, 18, 603, 16739) else none) else (if pc = 91 then some (.iadd, 0, 0, 0, 0) else none)))) else (if pc < 96 then (if pc < 94 then (if pc = 92 then some (.istore 10, 0, 0, 0, 0) else none) else (if pc < 95 then (if pc = 94 then some (.iconst 1, 1, 0, 0, 0) else none) else (if pc = 95 then some (.iload_n 1, 0, 0, 0, 0) else none))) else (if pc < 98 then (if pc = 96 then some (.iconst (6), 2, 0, 0, 0) else none) else (if pc < 99 then (if pc = 98 then some (.ishr, 0, 0, 0, 0) else none) else (if pc = 99 then some (.iload_n 3, 0, 0, 0, 0) else none)))))) else (if pc < 114 then (if pc < 109 then (if pc < 103 then (if pc < 102 then (if pc = 100 then some (.iload 9, 0, 0, 0, 0) else none) else (if pc = 102 then some (.isub, 0, 0, 0, 0) else none)) else (if pc < 106 then (if pc = 103 then some (.invokestatic 192, 0, 18, 603, 16739) else none) else (if pc < 107 then (if pc = 106 then some (.iadd, 0, 0, 0, 0) else none) else (if pc = 107 then some (.istore 11, 0, 0, 0, 0) else none)))) else (if pc < 111 then (if pc < 110 then (if pc = 109 then some (.iconst 1, 1, 0, 0, 0) else none) else (if pc = 110 then some (.iload_n 1, 0, 0, 0, 0) else none)) else (if pc < 112 then (if pc = 111 then some (.iconst 2, 1, 0, 0, 0) else none) else (if pc < 113 then (if pc = 112 then some (.ishr, 0, 0, 0, 0) else none) else (if pc = 113 then some (.iconst 5, 1, 0, 0, 0) else none))))) else (if pc < 123 then (if pc < 118 then (if pc < 117 then (if pc = 114 then some (.invokestatic 192, 0, 18, 603, 16739) else none) else (if pc = 117 then some (.iadd, 0, 0, 0, 0) else none)) else (if pc < 120 then (if pc = 118 then some (.istore 12, 0, 0, 0, 0) else none) else (if pc < 121 then (if pc = 120 then some (.aload_n 0, 0, 0, 0, 0) else none) else (if pc = 121 then some (.iload 8, 0, 0, 0, 0) else none)))) else (if pc < 129 then (if pc < 125 then (if pc = 123 then some (.iload 9, 0, 0, 0, 0) else none) else (if pc < 127 then (if pc = 125 then some (.iload 10, 0, 0, 0, 0) else none) else (if pc = 127 then some (.iload 11, 0, 0, 0, 0) else none))) else (if pc < 131 then (if pc = 129 then some (.iload 12, 0, 0, 0, 0) else none) else (if pc < 132 then (if pc = 131 then some (.iconst 0, 1, 0, 0, 0) else none) else (if pc = 132 then some (.invokevirtual 12, 0, 89, 1104, 58122) else none)))))))) else (if pc < 214 then (if pc < 175 then (if pc < 155 then (if pc < 145 then (if pc < 140 then (if pc < 137 then (if pc = 135 then some (.iload 12, 0, 0, 0, 0) else none) else (if pc = 137 then some (.if_icmp .gt 265, 0, 0, 0, 0) else none)) else (if pc < 141 then (if pc = 140 then some (.aload_n 0, 0, 0, 0, 0) else none) else (if pc < 143 then (if pc = 141 then some (.iload 8, 0, 0, 0, 0) else none) else (if pc = 143 then some (.iload 9, 0, 0, 0, 0) else none)))) else (if pc < 149 then (if pc < 147 then (if pc = 145 then some (.iload 10, 0, 0, 0, 0) else none) else (if pc = 147 then some (.iload 11, 0, 0, 0, 0) else none)) else (if pc < 151 then (if pc = 149 then some (.iload 12, 0, 0, 0, 0) else none) else (if pc < 152 then (if pc = 151 then some (.iconst 0, 1, 0, 0, 0) else none) else (if pc = 152 then some (.invokevirtual 12, 0, 89, 1104, 58122) else none))))) else (if pc < 164 then (if pc < 158 then (if pc < 156 then (if pc = 155 then some (.aload_n 0, 0, 0, 0, 0) else none) else (if pc = 156 then some (.iload 6, 0, 0, 0, 0) else none)) else (if pc < 160 then (if pc = 158 then some (.iload 8, 0, 0, 0, 0) else none) else (if pc < 162 then (if pc = 160 then some (.iload 9, 0, 0, 0, 0) else none) else (if pc = 162 then some (.iload 10, 0, 0, 0, 0) else none)))) else (if pc < 169 then (if pc < 166 then (if pc = 164 then some (.iload 11, 0, 0, 0, 0) else none) else (if pc = 166 then some (.invokevirtual 3, 0, 93, 1157, 49802) else none)) else (if pc < 172 then (if pc = 169 then some (.if_icmp .gt 265, 0, 0, 0, 0) else none) else (if pc < 173 then (if pc = 172 then some (.aload_n 0, 0, 0, 0, 0) else none) else (if pc = 173 then some (.iload 8, 0, 0, 0, 0) else none)))))) else (if pc < 192 then (if pc < 184 then (if pc < 179 then (if pc < 177 then (if pc = 175 then some (.iload 9, 0, 0, 0, 0) else none) else (if pc = 177 then some (.iload 10, 0, 0, 0, 0) else none)) else (if pc < 181 then (if pc = 179 then some (.iload 11, 0, 0, 0, 0) else none) else (if pc < 183 then (if pc = 181 then some (.iload 12, 0, 0, 0, 0) else none) else (if pc = 183 then some (.iconst 1, 1, 0, 0, 0) else none)))) else (if pc < 186 then (if pc < 185 then (if pc = 184 then some (.iadd, 0, 0, 0, 0) else none) else (if pc = 185 then some (.iconst 1, 1, 0, 0, 0) else none)) else (if pc < 189 then (if pc = 186 then some (.invokevirtual 12, 0, 89, 1104, 58122) else none) else (if pc < 190 then (if pc = 189 then some (.aload_n 0, 0, 0, 0, 0) else none) else (if pc = 190 then some (.iload 8, 0, 0, 0, 0) else none))))) else (if pc < 201 then (if pc < 196 then (if pc < 194 then (if pc = 192 then some (.iload 9, 0, 0, 0, 0) else none) else (if pc = 194 then some (.iload 10, 0, 0, 0, 0) else none)) else (if pc < 198 then (if pc = 196 then some (.iload 11, 0, 0, 0, 0) else none) else (if pc < 200 then (if pc = 198 then some (.iload 12, 0, 0, 0, 0) else none) else (if pc = 200 then some (.iconst 1, 1, 0, 0, 0) else none)))) else (if pc < 208 then (if pc < 204 then (if pc = 201 then some (.invokevirtual 12, 0, 89, 1104, 58122) else none) else (if pc < 207 then (if pc = 204 then some (.if_icmp .gt 265, 0, 0, 0, 0) else none) else (if pc = 207 then some (.aload_n 0, 0, 0, 0, 0) else none))) else (if pc < 210 then (if pc = 208 then some (.iload 8, 0, 0, 0, 0) else none) else (if pc < 212 then (if pc = 210 then some (.iload 9, 0, 0, 0, 0) else none) else (if pc = 212 then some (.iload 10, 0, 0, 0, 0) else none))))))) else (if pc < 253 then (if pc < 231 then (if pc < 221 then (if pc < 218 then (if pc < 216 then (if pc = 214 then some (.iload 11, 0, 0, 0, 0) else none) else (if pc = 216 then some (.iload 12, 0, 0, 0, 0) else none)) else (if pc < 219 then (if pc = 218 then some (.iconst 1, 1, 0, 0, 0) else none) else (if pc < 220 then (if pc = 219 then some (.iadd, 0, 0, 0, 0) else none) else (if pc = 220 then some (.iconst 2, 1, 0, 0, 0) else none)))) else (if pc < 225 then (if pc < 224 then (if pc = 221 then some (.invokevirtual 12, 0, 89, 1104, 58122) else none) else (if pc = 224 then some (.aload_n 0, 0, 0, 0, 0) else none)) else (if pc < 227 then (if pc = 225 then some (.iload 8, 0, 0, 0, 0) else none) else (if pc < 229 then (if pc = 227 then some (.iload 9, 0, 0, 0, 0) else none) else (if pc = 229 then some (.iload 10, 0, 0, 0, 0) else none))))) else (if pc < 242 then (if pc < 235 then (if pc < 233 then (if pc = 231 then some (.iload 11, 0, 0, 0, 0) else none) else (if pc = 233 then some (.iload 12, 0, 0, 0, 0) else none)) else (if pc < 236 then (if pc = 235 then some (.iconst 2, 1, 0, 0, 0) else none) else (if pc < 239 then (if pc = 236 then some (.invokevirtual 12, 0, 89, 1104, 58122) else none) else (if pc = 239 then some (.if_icmp .gt 265, 0, 0, 0, 0) else none)))) else (if pc < 247 then (if pc < 243 then (if pc = 242 then some (.aload_n 0, 0, 0, 0, 0) else none) else (if pc < 245 then (if pc = 243 then some (.iload 8, 0, 0, 0, 0) else none) else (if pc = 245 then some (.iload 9, 0, 0, 0, 0) else none))) else (if pc < 249 then (if pc = 247 then some (.iload 10, 0, 0, 0, 0) else none) else (if pc < 251 then (if pc = 249 then some (.iload 11, 0, 0, 0, 0) else none) else (if pc = 251 then some (.iconst (99), 2, 0, 0, 0) else none)))))) else (if pc < 269 then (if pc < 262 then (if pc < 257 then (if pc < 254 then (if pc = 253 then some (.iconst 2, 1, 0, 0, 0) else none) else (if pc = 254 then some (.invokevirtual 12, 0, 89, 1104, 58122) else none)) else (if pc < 258 then (if pc = 257 then some (.aload_n 0, 0, 0, 0, 0) else none) else (if pc < 259 then (if pc = 258 then some (.iconst 5, 1, 0, 0, 0) else none) else (if pc = 259 then some (.invokevirtual 11, 0, 30, 502, 16522) else none)))) else (if pc < 266 then (if pc < 265 then (if pc = 262 then some (.if_icmp .le 267, 0, 0, 0, 0) else none) else (if pc = 265 then some (.iconst 0, 1, 0, 0, 0) else none)) else (if pc < 267 then (if pc = 266 then some (.ireturn, 0, 1, 0, 0) else none) else (if pc < 268 then (if pc = 267 then some (.aload_n 0, 0, 0, 0, 0) else none) else (if pc = 268 then some (.iconst 4, 1, 0, 0, 0) else none))))) else (if pc < 279 then (if pc < 274 then (if pc < 272 then (if pc = 269 then some (.invokevirtual 11, 0, 30, 502, 16522) else none) else (if pc = 272 then some (.istore 13, 0, 0, 0, 0) else none)) else (if pc < 275 then (if pc = 274 then some (.iconst 0, 1, 0, 0, 0) else none) else (if pc < 277 then (if pc = 275 then some (.istore 14, 0, 0, 0, 0) else none) else (if pc = 277 then some (.iload 14, 0, 0, 0, 0) else none)))) else (if pc < 284 then (if pc < 280 then (if pc = 279 then some (.iload_n 2, 0, 0, 0, 0) else none) else (if pc < 283 then (if pc = 280 then some (.if_icmp .gt 334, 0, 0, 0, 0) else none) else (if pc = 283 then some (.iconst 0, 1, 0, 0, 0) else none))) else (if pc < 286 then (if pc = 284 then some (.istore 15, 0, 0, 0, 0) else none) else (if pc < 287 then (if pc = 286 then some (.iconst 0, 1, 0, 0, 0) else none) else (if pc = 287 then some (.istore 16, 0, 0, 0, 0) else none))))))))) else (if pc < 441 then (if pc < 369 then (if pc < 327 then (if pc < 305 then (if pc < 296 then (if pc < 292 then (if pc < 291 then (if pc = 289 then some (.iload 16, 0, 0, 0, 0) else none) else (if pc = 291 then some (.iconst 1, 1, 0, 0, 0) else none)) else (if pc < 293 then (if pc = 292 then some (.iconst 2, 1, 0, 0, 0) else none) else (if pc < 295 then (if pc = 293 then some (.iload 14, 0, 0, 0, 0) else none) else (if pc = 295 then some (.imul, 0, 0, 0, 0) else none)))) else (if pc < 300 then (if pc < 297 then (if pc = 296 then some (.ishl, 0, 0, 0, 0) else none) else (if pc = 297 then some (.if_icmp .ge 319, 0, 0, 0, 0) else none)) else (if pc < 302 then (if pc = 300 then some (.iload 15, 0, 0, 0, 0) else none) else (if pc < 303 then (if pc = 302 then some (.aload_n 0, 0, 0, 0, 0) else none) else (if pc = 303 then some (.iload 14, 0, 0, 0, 0) else none))))) else (if pc < 316 then (if pc < 310 then (if pc < 307 then (if pc = 305 then some (.iload 16, 0, 0, 0, 0) else none) else (if pc = 307 then some (.invokevirtual 24, 0, 96, 1165, 24842) else none)) else (if pc < 311 then (if pc = 310 then some (.iadd, 0, 0, 0, 0) else none) else (if pc < 313 then (if pc = 311 then some (.istore 15, 0, 0, 0, 0) else none) else (if pc = 313 then some (.iinc 16 (1), 0, 0, 0, 0) else none)))) else (if pc < 321 then (if pc < 319 then (if pc = 316 then some (.goto 289, 0, 0, 0, 0) else none) else (if pc = 319 then some (.iload 15, 0, 0, 0, 0) else none)) else (if pc < 323 then (if pc = 321 then some (.iload 13, 0, 0, 0, 0) else none) else (if pc < 326 then (if pc = 323 then some (.if_icmp .eq 328, 0, 0, 0, 0) else none) else (if pc = 326 then some (.iconst 0, 1, 0, 0, 0) else none)))))) else (if pc < 345 then (if pc < 337 then (if pc < 331 then (if pc < 328 then (if pc = 327 then some (.ireturn, 0, 1, 0, 0) else none) else (if pc = 328 then some (.iinc 14 (1), 0, 0, 0, 0) else none)) else (if pc < 334 then (if pc = 331 then some (.goto 277, 0, 0, 0, 0) else none) else (if pc < 335 then (if pc = 334 then some (.iconst 0, 1, 0, 0, 0) else none) else (if pc = 335 then some (.istore 14, 0, 0, 0, 0) else none)))) else (if pc < 340 then (if pc < 338 then (if pc = 337 then some (.iconst 0, 1, 0, 0, 0) else none) else (if pc = 338 then some (.istore 15, 0, 0, 0, 0) else none)) else (if pc < 342 then (if pc = 340 then some (.iload 15, 0, 0, 0, 0) else none) else (if pc < 343 then (if pc = 342 then some (.aload_n 0, 0, 0, 0, 0) else none) else (if pc = 343 then some (.iconst (11), 2, 0, 0, 0) else none))))) else (if pc < 356 then (if pc < 351 then (if pc < 348 then (if pc = 345 then some (.invokevirtual 11, 0, 30, 502, 16522) else none) else (if pc = 348 then some (.if_icmp .ge 369, 0, 0, 0, 0) else none)) else (if pc < 353 then (if pc = 351 then some (.iload 14, 0, 0, 0, 0) else none) else (if pc < 354 then (if pc = 353 then some (.aload_n 0, 0, 0, 0, 0) else none) else (if pc = 354 then some (.iload 15, 0, 0, 0, 0) else none)))) else (if pc < 361 then (if pc < 357 then (if pc = 356 then some (.iconst 0, 1, 0, 0, 0) else none) else (if pc < 360 then (if pc = 357 then some (.invokevirtual 22, 0, 99, 1169, 24842) else none) else (if pc = 360 then some (.iadd, 0, 0, 0, 0) else none))) else (if pc < 363 then (if pc = 361 then some (.istore 14, 0, 0, 0, 0) else none) else (if pc < 366 then (if pc = 363 then some (.iinc 15 (1), 0, 0, 0, 0) else none) else (if pc = 366 then some (.goto 340, 0, 0, 0, 0) else none))))))) else (if pc < 407 then (if pc < 387 then (if pc < 377 then (if pc < 372 then (if pc < 370 then (if pc = 369 then some (.iconst (-1), 1, 0, 0, 0) else none) else (if pc = 370 then some (.istore 15, 0, 0, 0, 0) else none)) else (if pc < 373 then (if pc = 372 then some (.iconst 0, 1, 0, 0, 0) else none) else (if pc < 375 then (if pc = 373 then some (.istore 16, 0, 0, 0, 0) else none) else (if pc = 375 then some (.iload 16, 0, 0, 0, 0) else none)))) else (if pc < 382 then (if pc < 379 then (if pc = 377 then some (.iload 13, 0, 0, 0, 0) else none) else (if pc = 379 then some (.if_icmp .ge 494, 0, 0, 0, 0) else none)) else (if pc < 383 then (if pc = 382 then some (.aload_n 0, 0, 0, 0, 0) else none) else (if pc < 385 then (if pc = 383 then some (.iload 8, 0, 0, 0, 0) else none) else (if pc = 385 then some (.iload 9, 0, 0, 0, 0) else none))))) else (if pc < 397 then (if pc < 392 then (if pc < 389 then (if pc = 387 then some (.iload 16, 0, 0, 0, 0) else none) else (if pc = 389 then some (.invokevirtual 15, 0, 102, 1173, 33162) else none)) else (if pc < 394 then (if pc = 392 then some (.istore 17, 0, 0, 0, 0) else none) else (if pc < 395 then (if pc = 394 then some (.aload_n 0, 0, 0, 0, 0) else none) else (if pc = 395 then some (.iload 17, 0, 0, 0, 0) else none)))) else (if pc < 403 then (if pc < 398 then (if pc = 397 then some (.iconst 0, 1, 0, 0, 0) else none) else (if pc < 401 then (if pc = 398 then some (.invokevirtual 10, 0, 105, 1185, 24842) else none) else (if pc = 401 then some (.iload 8, 0, 0, 0, 0) else none))) else (if pc < 404 then (if pc = 403 then some (.isub, 0, 0, 0, 0) else none) else (if pc < 405 then (if pc = 404 then some (.aload_n 0, 0, 0, 0, 0) else none) else (if pc = 405 then some (.iload 17, 0, 0, 0, 0) else none)))))) else (if pc < 424 then (if pc < 415 then (if pc < 411 then (if pc < 408 then (if pc = 407 then some (.iconst 0, 1, 0, 0, 0) else none) else (if pc = 408 then some (.invokevirtual 10, 0, 105, 1185, 24842) else none)) else (if pc < 413 then (if pc = 411 then some (.iload 8, 0, 0, 0, 0) else none) else (if pc < 414 then (if pc = 413 then some (.isub, 0, 0, 0, 0) else none) else (if pc = 414 then some (.imul, 0, 0, 0, 0) else none)))) else (if pc < 418 then (if pc < 416 then (if pc = 415 then some (.aload_n 0, 0, 0, 0, 0) else none) else (if pc = 416 then some (.iload 17, 0, 0, 0, 0) else none)) else (if pc < 419 then (if pc = 418 then some (.iconst 1, 1, 0, 0, 0) else none) else (if pc < 422 then (if pc = 419 then some (.invokevirtual 10, 0, 105, 1185, 24842) else none) else (if pc = 422 then some (.iload 9, 0, 0, 0, 0) else none))))) else (if pc < 432 then (if pc < 426 then (if pc < 425 then (if pc = 424 then some (.isub, 0, 0, 0, 0) else none) else (if pc = 425 then some (.aload_n 0, 0, 0, 0, 0) else none)) else (if pc < 428 then (if pc = 426 then some (.iload 17, 0, 0, 0, 0) else none) else (if pc < 429 then (if pc = 428 then some (.iconst 1, 1, 0, 0, 0) else none) else (if pc = 429 then some (.invokevirtual 10, 0, 105, 1185, 24842) else none)))) else (if pc < 436 then (if pc < 434 then (if pc = 432 then some (.iload 9, 0, 0, 0, 0) else none) else (if pc < 435 then (if pc = 434 then some (.isub, 0, 0, 0, 0) else none) else (if pc = 435 then some (.imul, 0, 0, 0, 0) else none))) else (if pc < 437 then (if pc = 436 then some (.iadd, 0, 0, 0, 0) else none) else (if pc < 439 then (if pc = 437 then some (.istore 18, 0, 0, 0, 0) else none) else (if pc = 439 then some (.iload 18, 0, 0, 0, 0) else none)))))))) else (if pc < 520 then (if pc < 482 then (if pc < 461 then (if pc < 451 then (if pc < 446 then (if pc < 443 then (if pc = 441 then some (.iload 15, 0, 0, 0, 0) else none) else (if pc = 443 then some (.if_icmp .lt 482, 0, 0, 0, 0) else none)) else (if pc < 447 then (if pc = 446 then some (.aload_n 0, 0, 0, 0, 0) else none) else (if pc < 449 then (if pc = 447 then some (.iload 8, 0, 0, 0, 0) else none) else (if pc = 449 then some (.iload 9, 0, 0, 0, 0) else none)))) else (if pc < 456 then (if pc < 453 then (if pc = 451 then some (.iload 16, 0, 0, 0, 0) else none) else (if pc = 453 then some (.invokevirtual 16, 0, 108, 1189, 41354) else none)) else (if pc < 457 then (if pc = 456 then some (.iconst 1, 1, 0, 0, 0) else none) else (if pc < 460 then (if pc = 457 then some (.if_icmp .lt 482, 0, 0, 0, 0) else none) else (if pc = 460 then some (.aload_n 0, 0, 0, 0, 0) else none))))) else (if pc < 471 then (if pc < 464 then (if pc < 463 then (if pc = 461 then some (.iload 17, 0, 0, 0, 0) else none) else (if pc = 463 then some (.iconst 1, 1, 0, 0, 0) else none)) else (if pc < 467 then (if pc = 464 then some (.invokevirtual 25, 0, 111, 1201, 24842) else none) else (if pc < 468 then (if pc = 467 then some (.iload_n 2, 0, 0, 0, 0) else none) else (if pc = 468 then some (.if_icmp .ne 482, 0, 0, 0, 0) else none)))) else (if pc < 475 then (if pc < 472 then (if pc = 471 then some (.aload_n 0, 0, 0, 0, 0) else none) else (if pc < 474 then (if pc = 472 then some (.iload 17, 0, 0, 0, 0) else none) else (if pc = 474 then some (.iconst 3, 1, 0, 0, 0) else none))) else (if pc < 478 then (if pc = 475 then some (.invokevirtual 10, 0, 105, 1185, 24842) else none) else (if pc < 479 then (if pc = 478 then some (.iconst 1, 1, 0, 0, 0) else none) else (if pc = 479 then some (.if_icmp .eq 484, 0, 0, 0, 0) else none)))))) else (if pc < 501 then (if pc < 491 then (if pc < 484 then (if pc < 483 then (if pc = 482 then some (.iconst 0, 1, 0, 0, 0) else none) else (if pc = 483 then some (.ireturn, 0, 1, 0, 0) else none)) else (if pc < 486 then (if pc = 484 then some (.iload 18, 0, 0, 0, 0) else none) else (if pc < 488 then (if pc = 486 then some (.istore 15, 0, 0, 0, 0) else none) else (if pc = 488 then some (.iinc 16 (1), 0, 0, 0, 0) else none)))) else (if pc < 495 then (if pc < 494 then (if pc = 491 then some (.goto 375, 0, 0, 0, 0) else none) else (if pc = 494 then some (.aload_n 0, 0, 0, 0, 0) else none)) else (if pc < 497 then (if pc = 495 then some (.iload 8, 0, 0, 0, 0) else none) else (if pc < 499 then (if pc = 497 then some (.iload 9, 0, 0, 0, 0) else none) else (if pc = 499 then some (.iload 13, 0, 0, 0, 0) else none))))) else (if pc < 512 then (if pc < 505 then (if pc < 504 then (if pc = 501 then some (.invokevirtual 15, 0, 102, 1173, 33162) else none) else (if pc = 504 then some (.iconst (-1), 1, 0, 0, 0) else none)) else (if pc < 508 then (if pc = 505 then some (.if_icmp .ne 597, 0, 0, 0, 0) else none) else (if pc < 510 then (if pc = 508 then some (.iload 14, 0, 0, 0, 0) else none) else (if pc = 510 then some (.iload 13, 0, 0, 0, 0) else none)))) else (if pc < 517 then (if pc < 515 then (if pc = 512 then some (.if_icmp .ne 597, 0, 0, 0, 0) else none) else (if pc < 516 then (if pc = 515 then some (.aload_n 0, 0, 0, 0, 0) else none) else (if pc = 516 then some (.iconst 0, 1, 0, 0, 0) else none))) else (if pc < 518 then (if pc = 517 then some (.iconst 0, 1, 0, 0, 0) else none) else (if pc < 519 then (if pc = 518 then some (.iload_n 3, 0, 0, 0, 0) else none) else (if pc = 519 then some (.iload_n 3, 0, 0, 0, 0) else none))))))) else (if pc < 563 then (if pc < 542 then (if pc < 531 then (if pc < 525 then (if pc < 522 then (if pc = 520 then some (.iconst (9), 2, 0, 0, 0) else none) else (if pc = 522 then some (.invokevirtual 14, 0, 114, 1209, 49802) else none)) else (if pc < 527 then (if pc = 525 then some (.iload 13, 0, 0, 0, 0) else none) else (if pc < 530 then (if pc = 527 then some (.if_icmp .ne 597, 0, 0, 0, 0) else none) else (if pc = 530 then some (.aload_n 0, 0, 0, 0, 0) else none)))) else (if pc < 536 then (if pc < 533 then (if pc = 531 then some (.iconst (80), 2, 0, 0, 0) else none) else (if pc = 533 then some (.invokevirtual 20, 0, 117, 1220, 16522) else none)) else (if pc < 538 then (if pc = 536 then some (.iload 13, 0, 0, 0, 0) else none) else (if pc < 541 then (if pc = 538 then some (.ifCond .le 545, 0, 0, 0, 0) else none) else (if pc = 541 then some (.iconst 1, 1, 0, 0, 0) else none))))) else (if pc < 551 then (if pc < 546 then (if pc < 545 then (if pc = 542 then some (.goto 546, 0, 0, 0, 0) else none) else (if pc = 545 then some (.iconst 0, 1, 0, 0, 0) else none)) else (if pc < 549 then (if pc = 546 then some (.if_icmp .ne 597, 0, 0, 0, 0) else none) else (if pc < 550 then (if pc = 549 then some (.aload_n 0, 0, 0, 0, 0) else none) else (if pc = 550 then some (.iconst 0, 1, 0, 0, 0) else none)))) else (if pc < 558 then (if pc < 552 then (if pc = 551 then some (.iconst 1, 1, 0, 0, 0) else none) else (if pc < 555 then (if pc = 552 then some (.invokevirtual 19, 0, 120, 1224, 24842) else none) else (if pc = 555 then some (.ifCond .ne 597, 0, 0, 0, 0) else none))) else (if pc < 559 then (if pc = 558 then some (.aload_n 0, 0, 0, 0, 0) else none) else (if pc < 560 then (if pc = 559 then some (.iconst 0, 1, 0, 0, 0) else none) else (if pc = 560 then some (.invokevirtual 27, 0, 124, 1237, 16522) else none)))))) else (if pc < 577 then (if pc < 570 then (if pc < 567 then (if pc < 564 then (if pc = 563 then some (.iconst 1, 1, 0, 0, 0) else none) else (if pc = 564 then some (.if_icmp .lt 597, 0, 0, 0, 0) else none)) else (if pc < 568 then (if pc = 567 then some (.aload_n 0, 0, 0, 0, 0) else none) else (if pc < 569 then (if pc = 568 then some (.iconst 0, 1, 0, 0, 0) else none) else (if pc = 569 then some (.iconst 0, 1, 0, 0, 0) else none)))) else (if pc < 572 then (if pc < 571 then (if pc = 570 then some (.iload_n 3, 0, 0, 0, 0) else none) else (if pc = 571 then some (.iload_n 3, 0, 0, 0, 0) else none)) else (if pc < 575 then (if pc = 572 then some (.invokevirtual 28, 0, 127, 1241, 41482) else none) else (if pc < 576 then (if pc = 575 then some (.aload_n 0, 0, 0, 0, 0) else none) else (if pc = 576 then some (.iconst 0, 1, 0, 0, 0) else none))))) else (if pc < 589 then (if pc < 583 then (if pc < 580 then (if pc = 577 then some (.invokevirtual 27, 0, 124, 1237, 16522) else none) else (if pc = 580 then some (.if_icmp .ne 597, 0, 0, 0, 0) else none)) else (if pc < 584 then (if pc = 583 then some (.aload_n 0, 0, 0, 0, 0) else none) else (if pc < 587 then (if pc = 584 then some (.invokevirtual 30, 0, 74, 903, 32778) else none) else (if pc = 587 then some (.lload 4, 0, 0, 0, 0) else none)))) else (if pc < 594 then (if pc < 590 then (if pc = 589 then some (.lcmp, 0, 0, 0, 0) else none) else (if pc < 593 then (if pc = 590 then some (.ifCond .ne 597, 0, 0, 0, 0) else none) else (if pc = 593 then some (.iconst 1, 1, 0, 0, 0) else none))) else (if pc < 597 then (if pc = 594 then some (.goto 598, 0, 0, 0, 0) else none) else (if pc < 598 then (if pc = 597 then some (.iconst 0, 1, 0, 0, 0) else none) else (if pc = 598 then some (.ireturn, 0, 1, 0, 0) else none)))))))))
def hm_i196 (pc : Nat) : Option hm_Row := if pc < 599 then hm_j196 pc else none
def hm_ins (k pc : Nat) : Option hm_Row := if k < 197 then (if k < 98 then (if k < 49 then (if k < 24 then (if k < 12 then (if k < 6 then (if k < 3 then (if k < 1 then (hm_i0 pc) else (if k < 2 then (hm_i1 pc) else (hm_i2 pc))) else (if k < 4 then (hm_i3 pc) else (if k < 5 then (hm_i4 pc) else (hm_i5 pc)))) else (if k < 9 then (if k < 7 then (hm_i6 pc) else (if k < 8 then (hm_i7 pc) else (hm_i8 pc))) else (if k < 10 then (hm_i9 pc) else (if k < 11 then (hm_i10 pc) else (hm_i11 pc))))) else (if k < 18 then (if k < 15 then (if k < 13 then (hm_i12 pc) else (if k < 14 then (hm_i13 pc) else (hm_i14 pc))) else (if k < 16 then (hm_i15 pc) else (if k < 17 then (hm_i16 pc) else (hm_i17 pc)))) else (if k < 21 then (if k < 19 then (hm_i18 pc) else (if k < 20 then (hm_i19 pc) else (hm_i20 pc))) else (if k < 22 then (hm_i21 pc) else (if k < 23 then (hm_i22 pc) else (hm_i23 pc)))))) else (if k < 36 then (if k < 30 then (if k < 27 then (if k < 25 then (hm_i24 pc) else (if k < 26 then (hm_i25 pc) else (hm_i26 pc))) else (if k < 28 then (hm_i27 pc) else (if k < 29 then (hm_i28 pc) else (hm_i29 pc)))) else (if k < 33 then (if k < 31 then (hm_i30 pc) else (if k < 32 then (hm_i31 pc) else (hm_i32 pc))) else (if k < 34 then (hm_i33 pc) else (if k < 35 then (hm_i34 pc) else (hm_i35 pc))))) else (if k < 42 then (if k < 39 then (if k < 37 then (hm_i36 pc) else (if k < 38 then (hm_i37 pc) else (hm_i38 pc))) else (if k < 40 then (hm_i39 pc) else (if k < 41 then (hm_i40 pc) else (hm_i41 pc)))) else (if k < 45 then (if k < 43 then (hm_i42 pc) else (if k < 44 then (hm_i43 pc) else (hm_i44 pc))) else (if k < 47 then (if k < 46 then (hm_i45 pc) else (hm_i46 pc)) else (if k < 48 then (hm_i47 pc) else (hm_i48 pc))))))) else (if k < 73 then (if k < 61 then (if k < 55 then (if k < 52 then (if k < 50 then (hm_i49 pc) else (if k < 51 then (hm_i50 pc) else (hm_i51 pc))) else (if k < 53 then (hm_i52 pc) else (if k < 54 then (hm_i53 pc) else (hm_i54 pc)))) else (if k < 58 then (if k < 56 then (hm_i55 pc) else (if k < 57 then (hm_i56 pc) else (hm_i57 pc))) else (if k < 59 then (hm_i58 pc) else (if k < 60 then (hm_i59 pc) else (hm_i60 pc))))) else (if k < 67 then (if k < 64 then (if k < 62 then (hm_i61 pc) else (if k < 63 then (hm_i62 pc) else (hm_i63 pc))) else (if k < 65 then (hm_i64 pc) else (if k < 66 then (hm_i65 pc) else (hm_i66 pc)))) else (if k < 70 then (if k < 68 then (hm_i67 pc) else (if k < 69 then (hm_i68 pc) else (hm_i69 pc))) else (if k < 71 then (hm_i70 pc) else (if k < 72 then (hm_i71 pc) else (hm_i72 pc)))))) else (if k < 85 then (if k < 79 then (if k < 76 then (if k < 74 then (hm_i73 pc) else (if k < 75 then (hm_i74 pc) else (hm_i75 pc))) else (if k < 77 then (hm_i76 pc) else (if k < 78 then (hm_i77 pc) else (hm_i78 pc)))) else (if k < 82 then (if k < 80 then (hm_i79 pc) else (if k < 81 then (hm_i80 pc) else (hm_i81 pc))) else (if k < 83 then (hm_i82 pc) else (if k < 84 then (hm_i83 pc) else (hm_i84 pc))))) else (if k < 91 then (if k < 88 then (if k < 86 then (hm_i85 pc) else (if k < 87 then (hm_i86 pc) else (hm_i87 pc))) else (if k < 89 then (hm_i88 pc) else (if k < 90 then (hm_i89 pc) else (hm_i90 pc)))) else (if k < 94 then (if k < 92 then (hm_i91 pc) else (if k < 93 then (hm_i92 pc) else (hm_i93 pc))) else (if k < 96 then (if k < 95 then (hm_i94 pc) else (hm_i95 pc)) else (if k < 97 then (hm_i96 pc) else (hm_i97 pc)))))))) else (if k < 147 then (if k < 122 then (if k < 110 then (if k < 104 then (if k < 101 then (if k < 99 then (hm_i98 pc) else (if k < 100 then (hm_i99 pc) else (hm_i100 pc))) else (if k < 102 then (hm_i101 pc) else (if k < 103 then (hm_i102 pc) else (hm_i103 pc)))) else (if k < 107 then (if k < 105 then (hm_i104 pc) else (if k < 106 then (hm_i105 pc) else (hm_i106 pc))) else (if k < 108 then (hm_i107 pc) else (if k < 109 then (hm_i108 pc) else (hm_i109 pc))))) else (if k < 116 then (if k < 113 then (if k < 111 then (hm_i110 pc) else (if k < 112 then (hm_i111 pc) else (hm_i112 pc))) else (if k < 114 then (hm_i113 pc) else (if k < 115 then (hm_i114 pc) else (hm_i115 pc)))) else (if k < 119 then (if k < 117 then (hm_i116 pc) else (if k < 118 then (hm_i117 pc) else (hm_i118 pc))) else (if k < 120 then (hm_i119 pc) else (if k < 121 then (hm_i120 pc) else (hm_i121 pc)))))) else (if k < 134 then (if k < 128 then (if k < 125 then (if k < 123 then (hm_i122 pc) else (if k < 124 then (hm_i123 pc) else (hm_i124 pc))) else (if k < 126 then (hm_i125 pc) else (if k < 127 then (hm_i126 pc) else (hm_i127 pc)))) else (if k < 131 then (if k < 129 then (hm_i128 pc) else (if k < 130 then (hm_i129 pc) else (hm_i130 pc))) else (if k < 132 then (hm_i131 pc) else (if k < 133 then (hm_i132 pc) else (hm_i133 pc))))) else (if k < 140 then (if k < 137 then (if k < 135 then (hm_i134 pc) else (if k < 136 then (hm_i135 pc) else (hm_i136 pc))) else (if k < 138 then (hm_i137 pc) else (if k < 139 then (hm_i138 pc) else (hm_i139 pc)))) else (if k < 143 then (if k < 141 then (hm_i140 pc) else (if k < 142 then (hm_i141 pc) else (hm_i142 pc))) else (if k < 145 then (if k < 144 then (hm_i143 pc) else (hm_i144 pc)) else (if k < 146 then (hm_i145 pc) else (hm_i146 pc))))))) else (if k < 172 then (if k < 159 then (if k < 153 then (if k < 150 then (if k < 148 then (hm_i147 pc) else (if k < 149 then (hm_i148 pc) else (hm_i149 pc))) else (if k < 151 then (hm_i150 pc) else (if k < 152 then (hm_i151 pc) else (hm_i152 pc)))) else (if k < 156 then (if k < 154 then (hm_i153 pc) else (if k < 155 then (hm_i154 pc) else (hm_i155 pc))) else (if k < 157 then (hm_i156 pc) else (if k < 158 then (hm_i157 pc) else (hm_i158 pc))))) else (if k < 165 then (if k < 162 then (if k < 160 then (hm_i159 pc) else (if k < 161 then (hm_i160 pc) else (hm_i161 pc))) else (if k < 163 then (hm_i162 pc) else (if k < 164 then (hm_i163 pc) else (hm_i164 pc)))) else (if k < 168 then (if k < 166 then (hm_i165 pc) else (if k < 167 then (hm_i166 pc) else (hm_i167 pc))) else (if k < 170 then (if k < 169 then (hm_i168 pc) else (hm_i169 pc)) else (if k < 171 then (hm_i170 pc) else (hm_i171 pc)))))) else (if k < 184 then (if k < 178 then (if k < 175 then (if k < 173 then (hm_i172 pc) else (if k < 174 then (hm_i173 pc) else (hm_i174 pc))) else (if k < 176 then (hm_i175 pc) else (if k < 177 then (hm_i176 pc) else (hm_i177 pc)))) else (if k < 181 then (if k < 179 then (hm_i178 pc) else (if k < 180 then (hm_i179 pc) else (hm_i180 pc))) else (if k < 182 then (hm_i181 pc) else (if k < 183 then (hm_i182 pc) else (hm_i183 pc))))) else (if k < 190 then (if k < 187 then (if k < 185 then (hm_i184 pc) else (if k < 186 then (hm_i185 pc) else (hm_i186 pc))) else (if k < 188 then (hm_i187 pc) else (if k < 189 then (hm_i188 pc) else (hm_i189 pc)))) else (if k < 193 then (if k < 191 then (hm_i190 pc) else (if k < 192 then (hm_i191 pc) else (hm_i192 pc))) else (if k < 195 then (if k < 194 then (hm_i193 pc) else (hm_i194 pc)) else (if k < 196 then (hm_i195 pc) else (hm_i196 pc))))))))) else none
end
section
/-! An abstract machine over the printed code: cells by number (0: the row TABLES, 1: the script, 2 and on: what was made since the start), what each holds; a relation R is closed under it where R holds of a place whenever the step from there comes to where R holds. -/
abbrev hm_Sh : Type := Nat × Nat × (Nat → Option Nat)
abbrev hm_Hp : Type := Nat × (Nat → hm_Sh) × (Nat → Nat → Int32)
abbrev hm_Lv : Type := List (Nat × Value)
abbrev hm_Out : Type := String ⊕ Option Value
abbrev hm_Q : Type := hm_Out → hm_Hp → Prop
abbrev hm_B : Type := Nat × Nat
abbrev hm_R : Type := Nat → Nat → hm_Lv → List Value → hm_Hp → hm_B → hm_Q → Prop
def hm_get : hm_Lv → Nat → Option Value
  | [], _ => none
  | q :: r, i => if q.1 = i then some q.2 else hm_get r i
def hm_set1 (lv : hm_Lv) (i : Nat) (v : Value) : hm_Lv := (i, v) :: lv.filter (fun q => !(q.1 == i) && !(q.1 + 1 == i && q.2.category == 2))
def hm_set2 (lv : hm_Lv) (i : Nat) (v : Value) : hm_Lv := (i, v) :: lv.filter (fun q => !(q.1 == i) && (!(q.1 == i + 1) && !(q.1 + 1 == i && q.2.category == 2)))
def hm_cs (st : List Value) : Nat := (st.map fun v => v.category).sum
def hm_fv (sh : hm_Sh) (σ : Nat → Int32) (j : Nat) : Value := if hm_isR sh.1 j then va_rf (sh.2.2 j) else .int (σ j)
/-- a cell's field set -/
def hm_wi (h : hm_Hp) (a j : Nat) (x : Int32) : hm_Hp := (h.1, h.2.1, fun i => if i = a then (fun q => if q = j then x else h.2.2 i q) else h.2.2 i)
def hm_wr (h : hm_Hp) (a j : Nat) (r : Option Nat) : hm_Hp := (h.1, (fun i => if i = a then ((h.2.1 i).1, (h.2.1 i).2.1, fun q => if q = j then r else (h.2.1 i).2.2 q) else h.2.1 i), h.2.2)
/-- a cell more -/
def hm_mk (h : hm_Hp) (c n : Nat) : hm_Hp := (h.1 + 1, (fun i => if i = h.1 then (c, n, fun _ => none) else h.2.1 i), fun i => if i = h.1 then (fun _ => 0) else h.2.2 i)
/-- cells of which nothing is known -/
def hm_unk (h : hm_Hp) (N : Nat) : hm_Hp := (N, (fun i => if i < h.1 then h.2.1 i else (2000, 0, fun _ => none)), h.2.2)
def hm_xn (x : Nat) : String := match x with
  | 0 => "java/lang/IllegalArgumentException"
  | 1 => "java/lang/IllegalStateException"
  | _ => "java/lang/IndexOutOfBoundsException"
def hm_ldi (lv : hm_Lv) (i : Nat) (K : Int32 → Prop) : Prop := match hm_get lv i with
  | some (.int v) => K v
  | _ => False
def hm_ldl (lv : hm_Lv) (i : Nat) (K : Int64 → Prop) : Prop := match hm_get lv i with
  | some (.long v) => K v
  | _ => False
def hm_lda (lv : hm_Lv) (i : Nat) (K : Nat → Prop) : Prop := match hm_get lv i with
  | some (.ref v) => K v
  | _ => False
def hm_if (c : Jvm.ClassFile.Cond) (x y : Int32) (T F : Prop) : Prop := match c with
  | .eq => (x = y → T) ∧ (¬ x = y → F)
  | .ne => (¬ x = y → T) ∧ (x = y → F)
  | .lt => (x < y → T) ∧ (¬ x < y → F)
  | .ge => (y ≤ x → T) ∧ (¬ y ≤ x → F)
  | .gt => (y < x → T) ∧ (¬ y < x → F)
  | .le => (x ≤ y → T) ∧ (¬ x ≤ y → F)
def hm_tsw (d lo hi : Int) (offs : List Int) (x : Int32) : Int := if x.toInt < lo ∨ hi < x.toInt then d else offs.getD (x.toInt - lo).toNat d
def hm_bin (st : List Value) (K : Int32 → Int32 → List Value → Prop) : Prop := match st with
  | .int y :: .int x :: r => K x y r
  | _ => False
def hm_binl (st : List Value) (K : Int64 → Int64 → List Value → Prop) : Prop := match st with
  | .long y :: .long x :: r => K x y r
  | _ => False
def hm_un (st : List Value) (K : Int32 → List Value → Prop) : Prop := match st with
  | .int x :: r => K x r
  | _ => False
def hm_rfs (st : List Value) (K : Nat → List Value → Prop) : Prop := match st with
  | .ref x :: r => K x r
  | _ => False
def hm_ul (st : List Value) (K : Int64 → List Value → Prop) : Prop := match st with
  | .long x :: r => K x r
  | _ => False
def hm_tp (st : List Value) (K : Value → List Value → Prop) : Prop := match st with
  | v :: r => K v r
  | _ => False
def hm_pf (st : List Value) (K1 : Int32 → Nat → List Value → Prop) (K2 : Nat → Nat → List Value → Prop) : Prop := match st with
  | .int v :: .ref a :: r => K1 v a r
  | .ref v :: .ref a :: r => K2 v a r
  | _ => False
def hm_ia (st : List Value) (K : Int32 → Nat → List Value → Prop) : Prop := match st with
  | .int i :: .ref a :: r => K i a r
  | _ => False
def hm_is (st : List Value) (K : Int32 → Int32 → Nat → List Value → Prop) : Prop := match st with
  | .int v :: .int i :: .ref a :: r => K v i a r
  | _ => False
def hm_r1 (st : List Value) (K : Int32 → Prop) : Prop := match st with
  | [.int v] => K v
  | _ => False
def hm_rl (st : List Value) (K : Int64 → Prop) : Prop := match st with
  | [.long v] => K v
  | _ => False
def hm_ra (st : List Value) (K : Nat → Prop) : Prop := match st with
  | [.ref v] => K v
  | _ => False
def hm_r0 (st : List Value) (K : Prop) : Prop := match st with
  | [] => K
  | _ => False
def hm_K (R : hm_R) (k pc : Nat) (lv : hm_Lv) (rest : List Value) (b : hm_B) (Q : hm_Q) : hm_Q := fun o h' => match o with
  | .inr r => R k (pc + 3) lv (r.toList ++ rest) h' b Q
  | .inl E => if k = 195 then (26 ≤ pc ∧ pc < 214 ∧ ((E = "java/lang/IndexOutOfBoundsException" ∧ R k 219 (lv.filter (fun q => !(q.1 == 7) && !(q.1 + 1 == 7 && q.2.category == 2))) [] h' b Q) ∨ (E = "java/lang/IllegalStateException" ∧ R k 222 (lv.filter (fun q => !(q.1 == 7) && !(q.1 + 1 == 7 && q.2.category == 2))) [] h' b Q))) else Q (.inl E) h'
def hm_Cl0 (R : hm_R) (k pc n z : Nat) (args : List Value) (lv : hm_Lv) (rest : List Value) (h : hm_Hp) (b : hm_B) (Q : hm_Q) : Prop :=
  hm_cs rest ≤ 8 ∧ (lg_sl args).length ≤ z / 8192 ∧ ∃ c : hm_B, c.1 ≤ b.1 ∧ c.2 ≤ b.2 ∧ R n 0 (lv_args 0 args) [] h c (hm_K R k pc lv rest (b.1 - c.1, b.2 - c.2) Q)
def hm_CallV (R : hm_R) (k pc n z : Nat) (lv : hm_Lv) (st : List Value) (h : hm_Hp) (b : hm_B) (Q : hm_Q) : Prop :=
  z / 128 % 64 ≤ st.length ∧ match st.drop (z / 128 % 64) with
  | .ref a :: rest => (h.2.1 a).1 = z % 128 ∧ 2 ≤ a ∧ a < h.1 ∧ hm_Cl0 R k pc n z (.ref a :: (st.take (z / 128 % 64)).reverse) lv rest h b Q
  | _ => False
/-- .. a constructor, which throws nothing -/
def hm_KN (R : hm_R) (k pc : Nat) (lv : hm_Lv) (rest : List Value) (b : hm_B) (Q : hm_Q) : hm_Q := fun o h' => match o with
  | .inr r => R k (pc + 3) lv (r.toList ++ rest) h' b Q
  | .inl _ => False
def hm_CallI (R : hm_R) (k pc n z : Nat) (lv : hm_Lv) (st : List Value) (h : hm_Hp) (b : hm_B) (Q : hm_Q) : Prop :=
  z / 128 % 64 ≤ st.length ∧ match st.drop (z / 128 % 64) with
  | .ref a :: rest => 2 ≤ a ∧ hm_cs rest ≤ 8 ∧ (lg_sl (.ref a :: (st.take (z / 128 % 64)).reverse)).length ≤ z / 8192 ∧
      ∃ c : hm_B, c.1 ≤ b.1 ∧ c.2 ≤ b.2 ∧ R n 0 (lv_args 0 (.ref a :: (st.take (z / 128 % 64)).reverse)) [] h c (hm_KN R k pc lv rest (b.1 - c.1, b.2 - c.2) Q)
  | _ => False
def hm_CallS (R : hm_R) (k pc n z : Nat) (lv : hm_Lv) (st : List Value) (h : hm_Hp) (b : hm_B) (Q : hm_Q) : Prop :=
  z / 128 % 64 ≤ st.length ∧ hm_Cl0 R k pc n z (st.take (z / 128 % 64)).reverse lv (st.drop (z / 128 % 64)) h b Q
/-- one step -/
def hm_S (R : hm_R) (k pc : Nat) (i : Instr) (n x z : Nat) (lv : hm_Lv) (st : List Value) (h : hm_Hp) (b : hm_B) (Q : hm_Q) : Prop := match i with
  | .iconst v => R k (pc + n) lv (.int (Int32.ofInt v) :: st) h b Q
  | .lconst v => R k (pc + 1) lv (.long (Int64.ofNat v) :: st) h b Q
  | .ldc2_w v => R k (pc + 3) lv (.long (Int64.ofNat v) :: st) h b Q
  | .iload_n j => hm_ldi lv j fun v => R k (pc + 1) lv (.int v :: st) h b Q
  | .iload j => hm_ldi lv j fun v => R k (pc + 2) lv (.int v :: st) h b Q
  | .lload_n j => hm_ldl lv j fun v => R k (pc + 1) lv (.long v :: st) h b Q
  | .lload j => hm_ldl lv j fun v => R k (pc + 2) lv (.long v :: st) h b Q
  | .aload_n j => hm_lda lv j fun v => R k (pc + 1) lv (.ref v :: st) h b Q
  | .aload j => hm_lda lv j fun v => R k (pc + 2) lv (.ref v :: st) h b Q
  | .istore_n j => hm_un st fun v r => R k (pc + 1) (hm_set1 lv j (.int v)) r h b Q
  | .istore j => hm_un st fun v r => R k (pc + 2) (hm_set1 lv j (.int v)) r h b Q
  | .lstore_n j => hm_ul st fun v r => R k (pc + 1) (hm_set2 lv j (.long v)) r h b Q
  | .lstore j => hm_ul st fun v r => R k (pc + 2) (hm_set2 lv j (.long v)) r h b Q
  | .astore_n j => hm_rfs st fun v r => R k (pc + 1) (hm_set1 lv j (.ref v)) r h b Q
  | .astore j => hm_rfs st fun v r => R k (pc + 2) (hm_set1 lv j (.ref v)) r h b Q
  | .iinc j d => hm_ldi lv j fun v => R k (pc + 3) (hm_set1 lv j (.int (v + Int32.ofInt d))) st h b Q
  | .iadd => hm_bin st fun x y r => R k (pc + 1) lv (.int (x + y) :: r) h b Q
  | .isub => hm_bin st fun x y r => R k (pc + 1) lv (.int (x - y) :: r) h b Q
  | .imul => hm_bin st fun x y r => R k (pc + 1) lv (.int (x * y) :: r) h b Q
  | .idiv => hm_bin st fun x y r => ¬ y = 0 ∧ R k (pc + 1) lv (.int (x / y) :: r) h b Q
  | .irem => hm_bin st fun x y r => ¬ y = 0 ∧ R k (pc + 1) lv (.int (x - x / y * y) :: r) h b Q
  | .iand => hm_bin st fun x y r => R k (pc + 1) lv (.int (x &&& y) :: r) h b Q
  | .ior => hm_bin st fun x y r => R k (pc + 1) lv (.int (x ||| y) :: r) h b Q
  | .ishl => hm_bin st fun x y r => R k (pc + 1) lv (.int (x <<< (y &&& 31)) :: r) h b Q
  | .ishr => hm_bin st fun x y r => R k (pc + 1) lv (.int (x >>> (y &&& 31)) :: r) h b Q
  | .i2l => hm_un st fun x r => R k (pc + 1) lv (.long x.toInt64 :: r) h b Q
  | .ladd => hm_binl st fun x y r => R k (pc + 1) lv (.long (x + y) :: r) h b Q
  | .lmul => hm_binl st fun x y r => R k (pc + 1) lv (.long (x * y) :: r) h b Q
  | .lcmp => hm_binl st fun x y r => R k (pc + 1) lv (.int (lg_cmp x y) :: r) h b Q
  | .dup => hm_tp st fun v r => v.category = 1 ∧ R k (pc + 1) lv (v :: v :: r) h b Q
  | .pop => hm_tp st fun v r => v.category = 1 ∧ R k (pc + 1) lv r h b Q
  | .goto t => R k t.toNat lv st h b Q
  | .ifCond c t => hm_un st fun x r => hm_if c x 0 (R k t.toNat lv r h b Q) (R k (pc + 3) lv r h b Q)
  | .if_icmp c t => hm_bin st fun x y r => hm_if c x y (R k t.toNat lv r h b Q) (R k (pc + 3) lv r h b Q)
  | .tableswitch d lo hi offs => hm_un st fun x r => R k (hm_tsw d lo hi offs.toList x).toNat lv r h b Q
  | .lookupswitch d ps => hm_un st fun x r => R k (Op.lookupswitch.offset ps.toList d x.toInt).toNat lv r h b Q
  | .getfield f => hm_rfs st fun a r => (h.2.1 a).1 = f / 64 ∧ 2 ≤ a ∧ a < h.1 ∧ R k (pc + 3) lv (hm_fv (h.2.1 a) (h.2.2 a) (f % 64) :: r) h b Q
  | .putfield f => hm_pf st (fun v a r => (h.2.1 a).1 = f / 64 ∧ hm_isR (f / 64) (f % 64) = false ∧ 2 ≤ a ∧ a < h.1 ∧ R k (pc + 3) lv r (hm_wi h a (f % 64) v) b Q)
      (fun v a r => (h.2.1 a).1 = f / 64 ∧ hm_isR (f / 64) (f % 64) = true ∧ 2 ≤ a ∧ a < h.1 ∧ R k (pc + 3) lv r (hm_wr h a (f % 64) (some v)) b Q)
  | .getstatic _ => R k (pc + 3) lv (.ref 0 :: st) h b Q
  | .new c => 1 ≤ b.1 ∧ hm_nf c ≤ b.2 ∧ R k (pc + 3) lv (.ref h.1 :: st) (hm_mk h c 0) (b.1 - 1, b.2 - hm_nf c) Q
  | .newarray _ => hm_un st fun v r => ¬ v < 0 ∧ v.toNatClampNeg ≤ 100000 ∧ 1 ≤ b.1 ∧ v.toNatClampNeg ≤ b.2 ∧ R k (pc + 2) lv (.ref h.1 :: r) (hm_mk h 1000 v.toNatClampNeg) (b.1 - 1, b.2 - v.toNatClampNeg) Q
  | .arraylength => hm_rfs st fun a r => (h.2.1 a).1 = 1000 ∧ a < h.1 ∧ R k (pc + 1) lv (.int (Int32.ofNat (h.2.1 a).2.1) :: r) h b Q
  | .iaload => hm_ia st fun i a r => (h.2.1 a).1 = 1000 ∧ a < h.1 ∧ vp_in i (h.2.1 a).2.1 ∧ R k (pc + 1) lv (.int (h.2.2 a i.toNatClampNeg) :: r) h b Q
  | .iastore => hm_is st fun v i a r => (h.2.1 a).1 = 1000 ∧ 2 ≤ a ∧ a < h.1 ∧ vp_in i (h.2.1 a).2.1 ∧ R k (pc + 1) lv r (hm_wi h a i.toNatClampNeg v) b Q
  | .invokevirtual m => hm_CallV R k pc m z lv st h b Q
  | .invokespecial m => if m = 1000 then hm_rfs st fun _ r => hm_cs r ≤ 8 ∧ R k (pc + 3) lv r h b Q else hm_CallI R k pc m z lv st h b Q
  | .invokestatic m =>
    if m = 1001 then hm_bin st fun x y r => hm_cs r ≤ 8 ∧ R k (pc + 3) lv (.int (if x < y then y else x) :: r) h b Q
    else if m = 1002 then hm_bin st fun x y r => hm_cs r ≤ 8 ∧ R k (pc + 3) lv (.int (if y < x then y else x) :: r) h b Q
    else if m = 1003 then hm_un st fun x r => hm_cs r ≤ 8 ∧ R k (pc + 3) lv (.int (if 0 ≤ x then x else 0 - x) :: r) h b Q
    else hm_CallS R k pc m z lv st h b Q
  | .ireturn => hm_r1 st fun v => (x = 1 → v = 0 ∨ v = 1) ∧ Q (.inr (some (.int v))) h
  | .lreturn => hm_rl st fun v => Q (.inr (some (.long v))) h
  | .areturn => hm_ra st fun v => Q (.inr (some (.ref v))) h
  | .return_ => hm_r0 st (Q (.inr none) h)
  | .athrow => hm_r0 st (1 ≤ b.1 ∧ 6 ≤ b.2 ∧ ∀ N : Nat, h.1 ≤ N → Q (.inl (hm_xn x)) (hm_unk h N))
  | _ => False
def hm_Step (R : hm_R) (k pc : Nat) (lv : hm_Lv) (st : List Value) (h : hm_Hp) (b : hm_B) (Q : hm_Q) : Prop := match hm_ins k pc with
  | some (i, n, x, _, z) => hm_S R k pc i n x z lv st h b Q
  | none => False
/-- closed under steps, and under weaker ends -/
def hm_Cl (R : hm_R) : Prop := (∀ k pc lv st h b Q, hm_Step R k pc lv st h b Q → R k pc lv st h b Q) ∧ ∀ k pc lv st h b (Q Q' : hm_Q), (∀ o h', Q o h' → Q' o h') → R k pc lv st h b Q → R k pc lv st h b Q'
end
section
/-! What the machine's heap is when the abstract one is h. -/
section HW
variable (D : va_G) (cI : ClassId) (B t0 bs L : Nat) (xs : Nat → Int32)
def hm_tab (j : Nat) : Int32 := [0, 8, 16, 24, 1, 16, 24, 15, 0, 8, 24, 16, 0, 8, 16, 24].getD j 0
def hm_ad (i : Nat) : Nat := if i = 0 then t0 else if i = 1 then bs else B + i
def hm_tr (v : Value) : Value := match v with
  | .ref i => .ref (hm_ad B t0 bs i)
  | v => v
def hm_fs (sh : hm_Sh) (σ : Nat → Int32) : List Value := (List.range (hm_nf sh.1)).map (fun j => hm_tr B t0 bs (hm_fv sh σ j))
def hm_E (sh : hm_Sh) (σ : Nat → Int32) : va_E := if sh.1 = 1000 then .inl (cI, sh.2.1, .inl σ) else .inr (sh.1, hm_fs B t0 bs sh σ)
def hm_kn (h : hm_Hp) (i : Nat) : Bool := decide (2 ≤ i) && decide ((h.2.1 i).1 ≠ 2000)
def hm_Ls (h : hm_Hp) : List Nat := ((List.range h.1).filter (hm_kn h)).map (B + ·)
def hm_wf (h : hm_Hp) (a : Nat) : va_E := hm_E cI B t0 bs (h.2.1 (a - B)) (h.2.2 (a - B))
def hm_ws (h : hm_Hp) : va_W := va_pl (hm_Ls B h) (hm_wf cI B t0 bs h)
def hm_A : Nat → Prop := fun q => B + 2 ≤ q
/-- the fixed cells -/
def hm_fx (h : hm_Hp) : Prop := 2 ≤ h.1 ∧ (h.2.1 0).1 = 1000 ∧ (h.2.1 0).2.1 = 16 ∧ h.2.2 0 = hm_tab ∧ (h.2.1 1).1 = 1000 ∧ (h.2.1 1).2.1 = L ∧ h.2.2 1 = xs
def hm_W (h : hm_Hp) (H : Heap) : Prop := hm_fx L xs h ∧ H.size = B + h.1 ∧ va_P D hm_cls (hm_ws cI B t0 bs h) H ∧ va_D (hm_A B) (hm_ws cI B t0 bs h)
/-- the statics -/
def hm_X (U : State) (H : Heap) : Prop :=
  va_Z "CurvekeyHouse" "TABLES" "[I" (.ref t0) (hm_A B) U H ∧ va_T .int t0 16 (fun j => .int (hm_tab j)) (hm_A B) U H ∧ va_T .int bs L (fun j => .int (xs j)) (hm_A B) U H ∧
  vx_Zq Bundle.tN "UNASSIGNED_STACK" Bundle.steD (hm_A B) U H ∧ vx_Zq Bundle.tN "SUPPRESSED_SENTINEL" Bundle.listD (hm_A B) U H
def hm_Y (U : State) : Prop := va_K D hm_cls [(cI, .int)] U
end HW
section HV
variable {D : va_G} {cI : ClassId} {B t0 bs L : Nat} {xs : Nat → Int32}
theorem hm_tr_cat (v : Value) : (hm_tr B t0 bs v).category = v.category := by cases v <;> rfl
theorem hm_ad2 {i : Nat} (h : 2 ≤ i) : hm_ad B t0 bs i = B + i := by
  unfold hm_ad
  rw [if_neg (by omega), if_neg (by omega)]
theorem hm_kn_iff {h : hm_Hp} {i : Nat} : hm_kn h i = true ↔ 2 ≤ i ∧ (h.2.1 i).1 ≠ 2000 := by simp [hm_kn]
theorem hm_mem {h : hm_Hp} {i : Nat} (h1 : 2 ≤ i) (h2 : i < h.1) (h3 : (h.2.1 i).1 ≠ 2000) : B + i ∈ hm_Ls B h :=
  List.mem_map.mpr ⟨i, List.mem_filter.mpr ⟨List.mem_range.mpr h2, hm_kn_iff.mpr ⟨h1, h3⟩⟩, rfl⟩
theorem hm_wget {h : hm_Hp} {i : Nat} (h1 : 2 ≤ i) (h2 : i < h.1) (h3 : (h.2.1 i).1 ≠ 2000) : ∃ k : Nat, (hm_ws cI B t0 bs h)[k]? = some (B + i, hm_E cI B t0 bs (h.2.1 i) (h.2.2 i)) := by
  obtain ⟨k, hk⟩ := va_pl_get (X := []) (f := hm_wf cI B t0 bs h) (hm_mem (B := B) h1 h2 h3)
  refine ⟨k, ?_⟩
  have e : hm_wf cI B t0 bs h (B + i) = hm_E cI B t0 bs (h.2.1 i) (h.2.2 i) := by unfold hm_wf; rw [Nat.add_sub_cancel_left]
  rw [← e]
  exact hk
/-- a cell is changed, its kind and the list of the known stay -/
theorem hm_wset {A : Nat → Prop} {h h' : hm_Hp} {i k : Nat} (hD : va_D A (hm_ws cI B t0 bs h)) (h1 : 2 ≤ i) (h2 : i < h.1) (h3 : (h.2.1 i).1 ≠ 2000) (hk : (hm_ws cI B t0 bs h)[k]? = some (B + i, hm_E cI B t0 bs (h.2.1 i) (h.2.2 i)))
    (hn : h'.1 = h.1) (hkd : ∀ j, (h'.2.1 j).1 = (h.2.1 j).1) (ho : ∀ j, j ≠ i → h'.2.1 j = h.2.1 j ∧ h'.2.2 j = h.2.2 j) :
    (hm_ws cI B t0 bs h).set k (B + i, hm_E cI B t0 bs (h'.2.1 i) (h'.2.2 i)) = hm_ws cI B t0 bs h' := by
  have e : hm_wf cI B t0 bs h (B + i) = hm_E cI B t0 bs (h.2.1 i) (h.2.2 i) := by unfold hm_wf; rw [Nat.add_sub_cancel_left]
  have h4 := va_pl_set (X := []) (f := hm_wf cI B t0 bs h) (e := hm_E cI B t0 bs (h'.2.1 i) (h'.2.2 i)) (A := A) hD (hm_mem (B := B) h1 h2 h3) (k := k) (by rw [e]; exact hk)
  have h5 : hm_Ls B h' = hm_Ls B h := by
    unfold hm_Ls
    rw [hn]
    congr 1
    apply List.filter_congr
    intro j _
    unfold hm_kn
    rw [hkd]
  show (va_pl (hm_Ls B h) (hm_wf cI B t0 bs h)).set k _ = va_pl (hm_Ls B h') (hm_wf cI B t0 bs h')
  rw [h5]
  refine Eq.trans h4 ?_
  show va_pl _ _ = _
  apply va_pl_congr
  intro a
  by_cases ha : a = B + i
  · subst ha
    rw [va_up_self]
    unfold hm_wf
    rw [Nat.add_sub_cancel_left]
  · rw [va_up_ne _ _ ha]
    unfold hm_wf
    obtain ⟨o1, o2⟩ := ho (a - B) (by omega)
    rw [o1, o2]
/-- a cell more -/
theorem hm_wpush {h h' : hm_Hp} {H : Heap} (hP : va_P D hm_cls (hm_ws cI B t0 bs h) H) (hz : H.size = B + h.1) (h2 : 2 ≤ h.1) (hn : h'.1 = h.1 + 1) (ho : ∀ j, j ≠ h.1 → h'.2.1 j = h.2.1 j ∧ h'.2.2 j = h.2.2 j) (hk : (h'.2.1 h.1).1 ≠ 2000) :
    hm_ws cI B t0 bs h ++ [(B + h.1, hm_E cI B t0 bs (h'.2.1 h.1) (h'.2.2 h.1))] = hm_ws cI B t0 bs h' := by
  have hf : B + h.1 ∉ hm_Ls B h := fun hm => by
    obtain ⟨i, hi, he⟩ := List.mem_map.mp hm
    have := List.mem_range.mp (List.mem_filter.mp hi).1
    omega
  show va_pl _ _ ++ _ = va_pl _ _
  rw [va_pl_push hf]
  have h5 : hm_Ls B h' = hm_Ls B h ++ [B + h.1] := by
    unfold hm_Ls
    rw [hn, List.range_succ, List.filter_append, List.map_append]
    congr 1
    · congr 1
      apply List.filter_congr
      intro j hj
      have hj2 := List.mem_range.mp hj
      unfold hm_kn
      rw [(ho j (by omega)).1]
    · have : hm_kn h' h.1 = true := hm_kn_iff.mpr ⟨h2, hk⟩
      simp [List.filter, this]
  rw [h5]
  apply va_pl_congr
  intro a
  by_cases ha : a = B + h.1
  · subst ha
    rw [va_up_self]
    unfold hm_wf
    rw [Nat.add_sub_cancel_left]
  · rw [va_up_ne _ _ ha]
    unfold hm_wf
    obtain ⟨o1, o2⟩ := ho (a - B) (by omega)
    rw [o1, o2]
/-- cells of which nothing is known: the world stays -/
theorem hm_wunk {h : hm_Hp} {N : Nat} (hN : h.1 ≤ N) : hm_ws cI B t0 bs (hm_unk h N) = hm_ws cI B t0 bs h := by
  have h5 : hm_Ls B (hm_unk h N) = hm_Ls B h := by
    unfold hm_Ls
    congr 1
    obtain ⟨d, rfl⟩ := Nat.exists_eq_add_of_le hN
    show (List.range (h.1 + d)).filter (hm_kn (hm_unk h (h.1 + d))) = _
    rw [List.range_add, List.filter_append]
    have e1 : (List.range h.1).filter (hm_kn (hm_unk h (h.1 + d))) = (List.range h.1).filter (hm_kn h) := by
      apply List.filter_congr
      intro j hj
      have hj2 := List.mem_range.mp hj
      unfold hm_kn hm_unk
      simp only [if_pos hj2]
    have e2 : ((List.range d).map (h.1 + ·)).filter (hm_kn (hm_unk h (h.1 + d))) = [] := by
      apply List.filter_eq_nil_iff.mpr
      intro j hj
      obtain ⟨q, _, rfl⟩ := List.mem_map.mp hj
      have hn : ¬ (h.1 + q < h.1) := by omega
      unfold hm_kn hm_unk
      simp [if_neg hn]
    rw [e1, e2, List.append_nil]
  show va_pl _ _ = va_pl _ _
  rw [h5]
  unfold va_pl
  apply List.map_congr_left
  intro a ha
  obtain ⟨i, hi, rfl⟩ := List.mem_map.mp ha
  have hi2 := List.mem_range.mp (List.mem_filter.mp hi).1
  congr 1
  unfold hm_wf
  rw [Nat.add_sub_cancel_left]
  unfold hm_unk
  simp only [if_pos hi2]
/-- a field set, as the list of an object's fields has it -/
theorem hm_fset {n j : Nat} {F F' : Nat → Value} {v : Value} (hv : F' j = v) (ho : ∀ q, q ≠ j → F' q = F q) : ((List.range n).map F).set j v = (List.range n).map F' := by
  apply List.ext_getElem?
  intro q
  by_cases hq : q = j
  · subst hq
    by_cases hl : q < n
    · rw [List.getElem?_set_self (by simpa using hl)]
      simp [hl, hv]
    · rw [List.getElem?_eq_none (by simpa using hl), List.getElem?_eq_none (by simpa using hl)]
  · rw [List.getElem?_set_ne (Ne.symm hq)]
    simp only [List.getElem?_map]
    cases hr : (List.range n)[q]? with
    | none => rfl
    | some w =>
      have : w = q := by
        have h9 := (List.getElem?_eq_some_iff.mp hr)
        obtain ⟨h8, h7⟩ := h9
        rw [← h7, List.getElem_range]
      subst this
      simp [ho _ hq]
theorem hm_fget {n j : Nat} {F : Nat → Value} (h : j < n) : ((List.range n).map F)[j]? = some (F j) := by simp [h]
end HV
end
section
/-! The printed rows are the code's. -/
def hm_d0 : MethodName × ByteArray × Nat × Option FieldType := (⟨"", "", ""⟩, code, 0, none)
def hm_y (k : Nat) : MethodName := (hm_ms.getD k hm_d0).1
def hm_cc (k : Nat) : ByteArray := (hm_ms.getD k hm_d0).2.1
def hm_mL (k : Nat) : Nat := (hm_ms.getD k hm_d0).2.2.1
def hm_rt (k : Nat) : Option FieldType := (hm_ms.getD k hm_d0).2.2.2
def hm_own (k : Nat) : String := (hm_y k).cls
def hm_d1 : Bool × Nat × Nat × Nat × Nat × Nat × Nat × Nat × Nat := (false, 0, 0, 0, 0, 0, 0, 0, 99)
def hm_stat (k : Nat) : Bool := (hm_mi.getD k hm_d1).1
def hm_na (k : Nat) : Nat := (hm_mi.getD k hm_d1).2.1
def hm_fr (k : Nat) : Nat := (hm_mi.getD k hm_d1).2.2.1
def hm_lo (k : Nat) : Nat := (hm_mi.getD k hm_d1).2.2.2.1
def hm_pC (k : Nat) : Nat := (hm_mi.getD k hm_d1).2.2.2.2.1
def hm_pI (k : Nat) : Nat := (hm_mi.getD k hm_d1).2.2.2.2.2.1
def hm_pS (k : Nat) : Nat := (hm_mi.getD k hm_d1).2.2.2.2.2.2.1
def hm_pN (k : Nat) : Nat := (hm_mi.getD k hm_d1).2.2.2.2.2.2.2.1
def hm_cx (k : Nat) : Nat := (hm_mi.getD k hm_d1).2.2.2.2.2.2.2.2
def hm_hh (k : Nat) : List (Nat × Nat × Nat × Nat) := if k = 195 then [(26, 214, 217, 70), (26, 214, 220, 72)] else []
def hm_cw (k : Nat) : Jvm.Cond := if k = 195 then .codeWith (hm_y k) (hm_cc k) (hm_mL k) (hm_rt k) (hm_hh k) else .code (hm_y k) (hm_cc k) (hm_mL k) (hm_rt k)
def hm_d2 : vw_C := ("", hm_T0, 0)
def hm_cn (c : Nat) : String := (hm_cls.getD c hm_d2).1
def hm_T (c : Nat) : u_T := (hm_cls.getD c hm_d2).2.1
def hm_G : List Jvm.Cond := lw_tbl.filter goodWord
def hm_wl (k : Nat) : List Jvm.Cond := hm_cw k :: hm_G
def hm_vk : Jvm.Cond → Bool
  | .fieldLinkNest .. => true
  | .methodLinkNest .. => true
  | .castable .. => true
  | .declares .. => true
  | _ => false
def hm_dc (k pc : Nat) (i : Instr) (n : Nat) : Bool := decide (decode (hm_cc k) pc = .ok (i, n))
def hm_wd (y : Nat) (w : Jvm.Cond) : Bool := decide (lw_tbl[y]? = some w) && goodWord w
def hm_wv (y : Nat) (w : Jvm.Cond) : Bool := decide (lw_tbl[y]? = some w) && hm_vk w
/-- what a call needs of the callee m, from k -/
def hm_cm (k m z : Nat) : Bool :=
  decide (z = ((hm_mL m) * 64 + hm_na m) * 128 + hm_cx m) && decide (hm_na m < 64) && decide (hm_cx m < 128) && hm_wd (hm_pC m) (hm_cw m) && hm_wd (hm_pN m) (.initialized (hm_own m)) &&
  decide ((hm_own m ≠ "java/lang/invoke/MethodHandle" ∧ hm_own m ≠ "java/lang/invoke/VarHandle") ∧ (parseMethodDescriptor (hm_y m).desc).map (fun d => d.parameters.length) = some (hm_na m)) &&
  decide (hm_fr m + 1 ≤ hm_fr k ∧ 8 + (hm_mL m + 11) + hm_lo m ≤ hm_lo k) && plainName (hm_own m)
def hm_ck (k pc : Nat) (i : Instr) (n x y z : Nat) : Bool := match i with
  | .iconst v => (decide (n = 1) && hm_dc k pc (.iconst v) 1) || (decide (n = 2) && (hm_dc k pc (.bipush v) 2 && decide ((Int8.ofInt v).toInt32 = Int32.ofInt v))) || (decide (n = 3) && (hm_dc k pc (.sipush v) 3 && decide ((Int16.ofInt v).toInt32 = Int32.ofInt v))) || (decide (n = 2) && (hm_dc k pc (.ldc x) 2 && hm_wd y (.constant (hm_own k) x (Int32.ofInt v))))
  | .lconst v => hm_dc k pc (.lconst v) 1
  | .ldc2_w v => hm_dc k pc (.ldc2_w x) 3 && hm_wd y (.constantLong (hm_own k) x (Int64.ofNat v))
  | .iload_n j => hm_dc k pc (.iload_n j) 1
  | .iload j => hm_dc k pc (.iload j) 2
  | .lload_n j => hm_dc k pc (.lload_n j) 1
  | .lload j => hm_dc k pc (.lload j) 2
  | .aload_n j => hm_dc k pc (.aload_n j) 1
  | .aload j => hm_dc k pc (.aload j) 2
  | .istore_n j => hm_dc k pc (.istore_n j) 1 && decide ((j : Nat) < hm_mL k)
  | .istore j => hm_dc k pc (.istore j) 2 && decide (j < hm_mL k)
  | .lstore_n j => hm_dc k pc (.lstore_n j) 1 && decide ((j : Nat) + 1 < hm_mL k)
  | .lstore j => hm_dc k pc (.lstore j) 2 && decide (j + 1 < hm_mL k)
  | .astore_n j => hm_dc k pc (.astore_n j) 1 && decide ((j : Nat) < hm_mL k)
  | .astore j => hm_dc k pc (.astore j) 2 && decide (j < hm_mL k)
  | .iinc j d => hm_dc k pc (.iinc j d) 3 && decide (j < hm_mL k)
  | .goto t => decide (0 ≤ t) && hm_dc k pc (.goto (t - pc)) 3
  | .ifCond c t => decide (0 ≤ t) && hm_dc k pc (.ifCond c (t - pc)) 3
  | .if_icmp c t => decide (0 ≤ t) && hm_dc k pc (.if_icmp c (t - pc)) 3
  | .tableswitch d lo hi offs => decide (0 ≤ d) && (offs.toList.all fun o => decide (0 ≤ o)) && (match decode (hm_cc k) pc with
    | .ok (.tableswitch d' lo' hi' offs', _) => decide (d' + (pc : Int) = d ∧ lo' = lo ∧ hi' = hi ∧ offs'.toList.map (fun o : Int => o + (pc : Int)) = offs.toList ∧ (offs'.size : Int) = hi - lo + 1)
    | _ => false)
  | .lookupswitch d ps => decide (0 ≤ d) && (ps.toList.all fun o => decide (0 ≤ o.2)) && (match decode (hm_cc k) pc with
    | .ok (.lookupswitch d' ps', _) => decide (d' + (pc : Int) = d ∧ ps'.toList.map (fun o : Int × Int => (o.1, o.2 + (pc : Int))) = ps.toList) && (ps'.toList.zip (ps'.toList.drop 1)).all (fun (a, next) => a.1 < next.1)
    | _ => false)
  | .getfield f => hm_dc k pc (.getfield x) 3 && decide (f % 64 < hm_nf (f / 64) ∧ f / 64 < 11) && hm_wd y (.fieldLink (hm_own k) x (hm_T (f / 64) (f % 64)).1 (hm_T (f / 64) (f % 64)).2.1 (hm_T (f / 64) (f % 64)).2.2.1)
  | .putfield f => hm_dc k pc (.putfield x) 3 && decide (f % 64 < hm_nf (f / 64) ∧ f / 64 < 11) && hm_wd y (.fieldLink (hm_own k) x (hm_T (f / 64) (f % 64)).1 (hm_T (f / 64) (f % 64)).2.1 (hm_T (f / 64) (f % 64)).2.2.1) &&
      (decide ((hm_T (f / 64) (f % 64)).2.2.2 = false) || decide ((hm_T (f / 64) (f % 64)).2.2.2 = true ∧ (hm_y k).name = "<init>" ∧ (hm_T (f / 64) (f % 64)).1 = hm_own k))
  | .getstatic _ => hm_dc k pc (.getstatic x) 3 && hm_wv y (.fieldLinkNest (hm_own k) x "CurvekeyHouse" "TABLES" "[I" "CurvekeyHouse")
  | .new c => hm_dc k pc (.new x) 3 && decide (c < 11) && hm_wd y (.classLink (hm_own k) x (hm_cn c)) && hm_wd (hm_cp.getD c (0, 0)).1 (.instantiable (hm_cn c) (hm_nf c)) && hm_wd (hm_cp.getD c (0, 0)).2 (.initialized (hm_cn c))
  | .newarray t => decide (t = .int) && hm_dc k pc (.newarray .int) 2
  | .invokevirtual m => hm_dc k pc (.invokevirtual x) 3 && hm_cm k m z && decide (hm_cx m < 11 ∧ hm_own m = hm_cn (hm_cx m) ∧ m ≠ 195) && hm_wd y (.methodLink (hm_own k) x (hm_y m)) && hm_wd (hm_pI m) (.instanceMethod (hm_y m)) && hm_wd (hm_pS m) (.selects (hm_own m) (hm_y m) (hm_y m))
  | .invokespecial m => if m = 1000 then hm_dc k pc (.invokespecial x) 3 && hm_wd y (.methodLink (hm_own k) x Lib.objectInit) && decide (1 ≤ hm_fr k ∧ 20 ≤ hm_lo k)
      else hm_dc k pc (.invokespecial x) 3 && hm_cm k m z && decide (hm_cx m < 11 ∧ m ≠ 195 ∧ (hm_y m).name = "<init>" ∧ hm_rt m = none) && (if n = 7 then hm_wv y (.methodLinkNest (hm_own k) x (hm_y m) "CurvekeyHouse") else hm_wd y (.methodLink (hm_own k) x (hm_y m))) && hm_wd (hm_pI m) (.instanceMethod (hm_y m))
  | .invokestatic m =>
      if m = 1001 then hm_dc k pc (.invokestatic x) 3 && hm_wd y (.methodLink (hm_own k) x Lib.Math.max.name) && decide (1 ≤ hm_fr k ∧ 21 ≤ hm_lo k)
      else if m = 1002 then hm_dc k pc (.invokestatic x) 3 && hm_wd y (.methodLink (hm_own k) x Lib.Math.min.name) && decide (1 ≤ hm_fr k ∧ 21 ≤ hm_lo k)
      else if m = 1003 then hm_dc k pc (.invokestatic x) 3 && hm_wd y (.methodLink (hm_own k) x Lib.Math.abs.name) && decide (1 ≤ hm_fr k ∧ 21 ≤ hm_lo k)
      else hm_dc k pc (.invokestatic x) 3 && hm_cm k m z && hm_wd y (.methodLink (hm_own k) x (hm_y m)) && hm_wd (hm_pI m) (.static (hm_y m))
  | .ireturn => hm_dc k pc .ireturn 1 && ((decide (x = 1) && decide (hm_rt k = some .boolean)) || (decide (x = 0) && decide (hm_rt k = some .int)))
  | .lreturn => hm_dc k pc .lreturn 1 && decide (hm_rt k = some .long)
  | .areturn => hm_dc k pc .areturn 1 && (match hm_rt k with
    | some (.object _) => true
    | _ => false)
  | .return_ => hm_dc k pc .return_ 1 && decide (hm_rt k = none)
  | .athrow => decide (pc = 4) && (decide (k = 31 ∧ x = 0) || decide (k = 32 ∧ x = 1) || decide (k = 33 ∧ x = 2))
  | i => hm_dc k pc i 1
def hm_ckr (k pc : Nat) : Bool := match hm_ins k pc with
  | some (i, n, x, y, z) => hm_ck k pc i n x y z
  | none => true
end
section
/-! each row of each method is the code's -/
theorem hm_okl {k N : Nat} (T : Nat → Option hm_Row) (hT : ∀ pc, hm_ins k pc = if pc < N then T pc else none) (h : (List.range N).all (fun pc => hm_ckr k pc) = true) : ∀ pc, hm_ckr k pc = true := by
  intro pc
  by_cases hp : pc < N
  · exact List.all_eq_true.mp h pc (List.mem_range.mpr hp)
  · unfold hm_ckr
    rw [hT pc, if_neg hp]
theorem hm_okr {k lo n : Nat} (h : (List.range n).all (fun i => hm_ckr k (lo + i)) = true) {pc : Nat} (h1 : lo ≤ pc) (h2 : pc < lo + n) : hm_ckr k pc = true := by
  have h3 := List.all_eq_true.mp h (pc - lo) (List.mem_range.mpr (by omega))
  rw [show lo + (pc - lo) = pc by omega] at h3
  exact h3
theorem hm_okm {k N : Nat} (T : Nat → Option hm_Row) (hT : ∀ pc, hm_ins k pc = if pc < N then T pc else none) (h : ∀ pc, pc < N → hm_ckr k pc = true) : ∀ pc, hm_ckr k pc = true := by
  intro pc
  by_cases hp : pc < N
  · exact h pc hp
  · unfold hm_ckr
    rw [hT pc, if_neg hp]
set_option maxRecDepth 100000 in
theorem hm_ok0 : ∀ pc, hm_ckr 0 pc = true := hm_okl hm_j0 (fun _ => rfl) (N := 107) (by decide +kernel)
set_option maxRecDepth 100000 in
theorem hm_ok1 : ∀ pc, hm_ckr 1 pc = true := hm_okl hm_j1 (fun _ => rfl) (N := 35) (by decide +kernel)
set_option maxRecDepth 100000 in
theorem hm_ok2 : ∀ pc, hm_ckr 2 pc = true := hm_okl hm_j2 (fun _ => rfl) (N := 49) (by decide +kernel)
set_option maxRecDepth 100000 in
theorem hm_ok3 : ∀ pc, hm_ckr 3 pc = true := hm_okl hm_j3 (fun _ => rfl) (N := 47) (by decide +kernel)
set_option maxRecDepth 100000 in
theorem hm_ok4 : ∀ pc, hm_ckr 4 pc = true := hm_okl hm_j4 (fun _ => rfl) (N := 113) (by decide +kernel)
set_option maxRecDepth 100000 in
theorem hm_ok5 : ∀ pc, hm_ckr 5 pc = true := hm_okl hm_j5 (fun _ => rfl) (N := 46) (by decide +kernel)
set_option maxRecDepth 100000 in
theorem hm_ok6 : ∀ pc, hm_ckr 6 pc = true := hm_okl hm_j6 (fun _ => rfl) (N := 123) (by decide +kernel)
set_option maxRecDepth 100000 in
theorem hm_ok7 : ∀ pc, hm_ckr 7 pc = true := hm_okl hm_j7 (fun _ => rfl) (N := 79) (by decide +kernel)
set_option maxRecDepth 100000 in
theorem hm_ok8 : ∀ pc, hm_ckr 8 pc = true := hm_okl hm_j8 (fun _ => rfl) (N := 58) (by decide +kernel)
set_option maxRecDepth 100000 in
theorem hm_ok9 : ∀ pc, hm_ckr 9 pc = true := hm_okl hm_j9 (fun _ => rfl) (N := 8) (by decide +kernel)
set_option maxRecDepth 100000 in
theorem hm_ok10 : ∀ pc, hm_ckr 10 pc = true := hm_okl hm_j10 (fun _ => rfl) (N := 28) (by decide +kernel)
set_option maxRecDepth 100000 in
theorem hm_ok11 : ∀ pc, hm_ckr 11 pc = true := hm_okl hm_j11 (fun _ => rfl) (N := 30) (by decide +kernel)
set_option maxRecDepth 100000 in
theorem hm_ok12 : ∀ pc, hm_ckr 12 pc = true := hm_okl hm_j12 (fun _ => rfl) (N := 124) (by decide +kernel)
set_option maxRecDepth 100000 in
theorem hm_ok13 : ∀ pc, hm_ckr 13 pc = true := hm_okl hm_j13 (fun _ => rfl) (N := 58) (by decide +kernel)
set_option maxRecDepth 100000 in
theorem hm_ok14 : ∀ pc, hm_ckr 14 pc = true := hm_okl hm_j14 (fun _ => rfl) (N := 60) (by decide +kernel)
set_option maxRecDepth 100000 in
theorem hm_ok15 : ∀ pc, hm_ckr 15 pc = true := hm_okl hm_j15 (fun _ => rfl) (N := 32) (by decide +kernel)
set_option maxRecDepth 100000 in
theorem hm_ok16 : ∀ pc, hm_ckr 16 pc = true := hm_okl hm_j16 (fun _ => rfl) (N := 79) (by decide +kernel)
set_option maxRecDepth 100000 in
theorem hm_ok17 : ∀ pc, hm_ckr 17 pc = true := hm_okl hm_j17 (fun _ => rfl) (N := 77) (by decide +kernel)
set_option maxRecDepth 100000 in
theorem hm_ok18 : ∀ pc, hm_ckr 18 pc = true := hm_okl hm_j18 (fun _ => rfl) (N := 93) (by decide +kernel)
set_option maxRecDepth 100000 in
theorem hm_ok19 : ∀ pc, hm_ckr 19 pc = true := hm_okl hm_j19 (fun _ => rfl) (N := 43) (by decide +kernel)
set_option maxRecDepth 100000 in
theorem hm_ok20 : ∀ pc, hm_ckr 20 pc = true := hm_okl hm_j20 (fun _ => rfl) (N := 30) (by decide +kernel)
set_option maxRecDepth 100000 in
theorem hm_ok21 : ∀ pc, hm_ckr 21 pc = true := hm_okl hm_j21 (fun _ => rfl) (N := 64) (by decide +kernel)
set_option maxRecDepth 100000 in
theorem hm_ok22 : ∀ pc, hm_ckr 22 pc = true := hm_okl hm_j22 (fun _ => rfl) (N := 30) (by decide +kernel)
set_option maxRecDepth 100000 in
theorem hm_ok23 : ∀ pc, hm_ckr 23 pc = true := hm_okl hm_j23 (fun _ => rfl) (N := 63) (by decide +kernel)
set_option maxRecDepth 100000 in
theorem hm_ok24 : ∀ pc, hm_ckr 24 pc = true := hm_okl hm_j24 (fun _ => rfl) (N := 22) (by decide +kernel)
set_option maxRecDepth 100000 in
theorem hm_ok25 : ∀ pc, hm_ckr 25 pc = true := hm_okl hm_j25 (fun _ => rfl) (N := 57) (by decide +kernel)
set_option maxRecDepth 100000 in
theorem hm_ok26 : ∀ pc, hm_ckr 26 pc = true := hm_okl hm_j26 (fun _ => rfl) (N := 46) (by decide +kernel)
set_option maxRecDepth 100000 in
theorem hm_ok27 : ∀ pc, hm_ckr 27 pc = true := hm_okl hm_j27 (fun _ => rfl) (N := 15) (by decide +kernel)
set_option maxRecDepth 100000 in
theorem hm_ok28 : ∀ pc, hm_ckr 28 pc = true := hm_okl hm_j28 (fun _ => rfl) (N := 39) (by decide +kernel)
set_option maxRecDepth 100000 in
theorem hm_ok29 : ∀ pc, hm_ckr 29 pc = true := hm_okl hm_j29 (fun _ => rfl) (N := 51) (by decide +kernel)
set_option maxRecDepth 100000 in
theorem hm_ok30 : ∀ pc, hm_ckr 30 pc = true := hm_okl hm_j30 (fun _ => rfl) (N := 135) (by decide +kernel)
set_option maxRecDepth 100000 in
theorem hm_ok31 : ∀ pc, hm_ckr 31 pc = true := hm_okl hm_j31 (fun _ => rfl) (N := 16) (by decide +kernel)
set_option maxRecDepth 100000 in
theorem hm_ok32 : ∀ pc, hm_ckr 32 pc = true := hm_okl hm_j32 (fun _ => rfl) (N := 16) (by decide +kernel)
set_option maxRecDepth 100000 in
theorem hm_ok33 : ∀ pc, hm_ckr 33 pc = true := hm_okl hm_j33 (fun _ => rfl) (N := 16) (by decide +kernel)
set_option maxRecDepth 100000 in
theorem hm_ok34 : ∀ pc, hm_ckr 34 pc = true := hm_okl hm_j34 (fun _ => rfl) (N := 16) (by decide +kernel)
set_option maxRecDepth 100000 in
theorem hm_ok35 : ∀ pc, hm_ckr 35 pc = true := hm_okl hm_j35 (fun _ => rfl) (N := 7) (by decide +kernel)
set_option maxRecDepth 100000 in
theorem hm_ok36 : ∀ pc, hm_ckr 36 pc = true := hm_okl hm_j36 (fun _ => rfl) (N := 15) (by decide +kernel)
set_option maxRecDepth 100000 in
theorem hm_ok37 : ∀ pc, hm_ckr 37 pc = true := hm_okl hm_j37 (fun _ => rfl) (N := 40) (by decide +kernel)
set_option maxRecDepth 100000 in
theorem hm_ok38 : ∀ pc, hm_ckr 38 pc = true := hm_okl hm_j38 (fun _ => rfl) (N := 50) (by decide +kernel)
set_option maxRecDepth 100000 in
theorem hm_ok39 : ∀ pc, hm_ckr 39 pc = true := hm_okl hm_j39 (fun _ => rfl) (N := 14) (by decide +kernel)
set_option maxRecDepth 100000 in
theorem hm_ok40 : ∀ pc, hm_ckr 40 pc = true := hm_okl hm_j40 (fun _ => rfl) (N := 21) (by decide +kernel)
set_option maxRecDepth 100000 in
theorem hm_ok41 : ∀ pc, hm_ckr 41 pc = true := hm_okl hm_j41 (fun _ => rfl) (N := 14) (by decide +kernel)
set_option maxRecDepth 100000 in
theorem hm_ok42 : ∀ pc, hm_ckr 42 pc = true := hm_okl hm_j42 (fun _ => rfl) (N := 11) (by decide +kernel)
set_option maxRecDepth 100000 in
theorem hm_ok43 : ∀ pc, hm_ckr 43 pc = true := hm_okl hm_j43 (fun _ => rfl) (N := 32) (by decide +kernel)
set_option maxRecDepth 100000 in
theorem hm_ok44 : ∀ pc, hm_ckr 44 pc = true := hm_okl hm_j44 (fun _ => rfl) (N := 20) (by decide +kernel)
set_option maxRecDepth 100000 in
theorem hm_ok45 : ∀ pc, hm_ckr 45 pc = true := hm_okl hm_j45 (fun _ => rfl) (N := 58) (by decide +kernel)
set_option maxRecDepth 100000 in
theorem hm_ok46 : ∀ pc, hm_ckr 46 pc = true := hm_okl hm_j46 (fun _ => rfl) (N := 63) (by decide +kernel)
set_option maxRecDepth 100000 in
theorem hm_ok47 : ∀ pc, hm_ckr 47 pc = true := hm_okl hm_j47 (fun _ => rfl) (N := 75) (by decide +kernel)
set_option maxRecDepth 100000 in
theorem hm_ok48 : ∀ pc, hm_ckr 48 pc = true := hm_okl hm_j48 (fun _ => rfl) (N := 21) (by decide +kernel)
set_option maxRecDepth 100000 in
theorem hm_ok49 : ∀ pc, hm_ckr 49 pc = true := hm_okl hm_j49 (fun _ => rfl) (N := 25) (by decide +kernel)
end
section
/-! each row is the code's, further -/
set_option maxRecDepth 100000 in
theorem hm_ok50 : ∀ pc, hm_ckr 50 pc = true := hm_okl hm_j50 (fun _ => rfl) (N := 24) (by decide +kernel)
set_option maxRecDepth 100000 in
theorem hm_ok51 : ∀ pc, hm_ckr 51 pc = true := hm_okl hm_j51 (fun _ => rfl) (N := 78) (by decide +kernel)
set_option maxRecDepth 100000 in
theorem hm_ok52 : ∀ pc, hm_ckr 52 pc = true := hm_okl hm_j52 (fun _ => rfl) (N := 30) (by decide +kernel)
set_option maxRecDepth 100000 in
theorem hm_ok53_0 : (List.range 45).all (fun i => hm_ckr 53 (0 + i)) = true := by decide +kernel
set_option maxRecDepth 100000 in
theorem hm_ok53_45 : (List.range 45).all (fun i => hm_ckr 53 (45 + i)) = true := by decide +kernel
set_option maxRecDepth 100000 in
theorem hm_ok53_90 : (List.range 45).all (fun i => hm_ckr 53 (90 + i)) = true := by decide +kernel
set_option maxRecDepth 100000 in
theorem hm_ok53_135 : (List.range 31).all (fun i => hm_ckr 53 (135 + i)) = true := by decide +kernel
theorem hm_ok53 : ∀ pc, hm_ckr 53 pc = true := hm_okm hm_j53 (fun _ => rfl) (N := 166) (fun pc hp => by
  by_cases h0 : pc < 45
  · exact hm_okr hm_ok53_0 (by omega) (by omega)
  by_cases h45 : pc < 90
  · exact hm_okr hm_ok53_45 (by omega) (by omega)
  by_cases h90 : pc < 135
  · exact hm_okr hm_ok53_90 (by omega) (by omega)
  exact hm_okr hm_ok53_135 (by omega) (by omega))
set_option maxRecDepth 100000 in
theorem hm_ok54 : ∀ pc, hm_ckr 54 pc = true := hm_okl hm_j54 (fun _ => rfl) (N := 94) (by decide +kernel)
set_option maxRecDepth 100000 in
theorem hm_ok55 : ∀ pc, hm_ckr 55 pc = true := hm_okl hm_j55 (fun _ => rfl) (N := 105) (by decide +kernel)
set_option maxRecDepth 100000 in
theorem hm_ok56 : ∀ pc, hm_ckr 56 pc = true := hm_okl hm_j56 (fun _ => rfl) (N := 96) (by decide +kernel)
set_option maxRecDepth 100000 in
theorem hm_ok57 : ∀ pc, hm_ckr 57 pc = true := hm_okl hm_j57 (fun _ => rfl) (N := 67) (by decide +kernel)
set_option maxRecDepth 100000 in
theorem hm_ok58 : ∀ pc, hm_ckr 58 pc = true := hm_okl hm_j58 (fun _ => rfl) (N := 52) (by decide +kernel)
set_option maxRecDepth 100000 in
theorem hm_ok59 : ∀ pc, hm_ckr 59 pc = true := hm_okl hm_j59 (fun _ => rfl) (N := 87) (by decide +kernel)
set_option maxRecDepth 100000 in
theorem hm_ok60 : ∀ pc, hm_ckr 60 pc = true := hm_okl hm_j60 (fun _ => rfl) (N := 8) (by decide +kernel)
set_option maxRecDepth 100000 in
theorem hm_ok61 : ∀ pc, hm_ckr 61 pc = true := hm_okl hm_j61 (fun _ => rfl) (N := 97) (by decide +kernel)
set_option maxRecDepth 100000 in
theorem hm_ok62 : ∀ pc, hm_ckr 62 pc = true := hm_okl hm_j62 (fun _ => rfl) (N := 55) (by decide +kernel)
set_option maxRecDepth 100000 in
theorem hm_ok63 : ∀ pc, hm_ckr 63 pc = true := hm_okl hm_j63 (fun _ => rfl) (N := 55) (by decide +kernel)
set_option maxRecDepth 100000 in
theorem hm_ok64 : ∀ pc, hm_ckr 64 pc = true := hm_okl hm_j64 (fun _ => rfl) (N := 59) (by decide +kernel)
set_option maxRecDepth 100000 in
theorem hm_ok65 : ∀ pc, hm_ckr 65 pc = true := hm_okl hm_j65 (fun _ => rfl) (N := 26) (by decide +kernel)
set_option maxRecDepth 100000 in
theorem hm_ok66 : ∀ pc, hm_ckr 66 pc = true := hm_okl hm_j66 (fun _ => rfl) (N := 48) (by decide +kernel)
set_option maxRecDepth 100000 in
theorem hm_ok67 : ∀ pc, hm_ckr 67 pc = true := hm_okl hm_j67 (fun _ => rfl) (N := 52) (by decide +kernel)
set_option maxRecDepth 100000 in
theorem hm_ok68 : ∀ pc, hm_ckr 68 pc = true := hm_okl hm_j68 (fun _ => rfl) (N := 24) (by decide +kernel)
set_option maxRecDepth 100000 in
theorem hm_ok69 : ∀ pc, hm_ckr 69 pc = true := hm_okl hm_j69 (fun _ => rfl) (N := 14) (by decide +kernel)
set_option maxRecDepth 100000 in
theorem hm_ok70 : ∀ pc, hm_ckr 70 pc = true := hm_okl hm_j70 (fun _ => rfl) (N := 18) (by decide +kernel)
set_option maxRecDepth 100000 in
theorem hm_ok71 : ∀ pc, hm_ckr 71 pc = true := hm_okl hm_j71 (fun _ => rfl) (N := 26) (by decide +kernel)
set_option maxRecDepth 100000 in
theorem hm_ok72 : ∀ pc, hm_ckr 72 pc = true := hm_okl hm_j72 (fun _ => rfl) (N := 6) (by decide +kernel)
set_option maxRecDepth 100000 in
theorem hm_ok73 : ∀ pc, hm_ckr 73 pc = true := hm_okl hm_j73 (fun _ => rfl) (N := 11) (by decide +kernel)
set_option maxRecDepth 100000 in
theorem hm_ok74 : ∀ pc, hm_ckr 74 pc = true := hm_okl hm_j74 (fun _ => rfl) (N := 20) (by decide +kernel)
set_option maxRecDepth 100000 in
theorem hm_ok75 : ∀ pc, hm_ckr 75 pc = true := hm_okl hm_j75 (fun _ => rfl) (N := 13) (by decide +kernel)
set_option maxRecDepth 100000 in
theorem hm_ok76 : ∀ pc, hm_ckr 76 pc = true := hm_okl hm_j76 (fun _ => rfl) (N := 40) (by decide +kernel)
set_option maxRecDepth 100000 in
theorem hm_ok77 : ∀ pc, hm_ckr 77 pc = true := hm_okl hm_j77 (fun _ => rfl) (N := 40) (by decide +kernel)
set_option maxRecDepth 100000 in
theorem hm_ok78 : ∀ pc, hm_ckr 78 pc = true := hm_okl hm_j78 (fun _ => rfl) (N := 56) (by decide +kernel)
set_option maxRecDepth 100000 in
theorem hm_ok79 : ∀ pc, hm_ckr 79 pc = true := hm_okl hm_j79 (fun _ => rfl) (N := 8) (by decide +kernel)
set_option maxRecDepth 100000 in
theorem hm_ok80 : ∀ pc, hm_ckr 80 pc = true := hm_okl hm_j80 (fun _ => rfl) (N := 18) (by decide +kernel)
set_option maxRecDepth 100000 in
theorem hm_ok81 : ∀ pc, hm_ckr 81 pc = true := hm_okl hm_j81 (fun _ => rfl) (N := 102) (by decide +kernel)
set_option maxRecDepth 100000 in
theorem hm_ok82 : ∀ pc, hm_ckr 82 pc = true := hm_okl hm_j82 (fun _ => rfl) (N := 51) (by decide +kernel)
set_option maxRecDepth 100000 in
theorem hm_ok83 : ∀ pc, hm_ckr 83 pc = true := hm_okl hm_j83 (fun _ => rfl) (N := 62) (by decide +kernel)
set_option maxRecDepth 100000 in
theorem hm_ok84 : ∀ pc, hm_ckr 84 pc = true := hm_okl hm_j84 (fun _ => rfl) (N := 110) (by decide +kernel)
set_option maxRecDepth 100000 in
theorem hm_ok85 : ∀ pc, hm_ckr 85 pc = true := hm_okl hm_j85 (fun _ => rfl) (N := 5) (by decide +kernel)
set_option maxRecDepth 100000 in
theorem hm_ok86 : ∀ pc, hm_ckr 86 pc = true := hm_okl hm_j86 (fun _ => rfl) (N := 5) (by decide +kernel)
set_option maxRecDepth 100000 in
theorem hm_ok87 : ∀ pc, hm_ckr 87 pc = true := hm_okl hm_j87 (fun _ => rfl) (N := 10) (by decide +kernel)
set_option maxRecDepth 100000 in
theorem hm_ok88 : ∀ pc, hm_ckr 88 pc = true := hm_okl hm_j88 (fun _ => rfl) (N := 22) (by decide +kernel)
set_option maxRecDepth 100000 in
theorem hm_ok89 : ∀ pc, hm_ckr 89 pc = true := hm_okl hm_j89 (fun _ => rfl) (N := 22) (by decide +kernel)
set_option maxRecDepth 100000 in
theorem hm_ok90 : ∀ pc, hm_ckr 90 pc = true := hm_okl hm_j90 (fun _ => rfl) (N := 20) (by decide +kernel)
set_option maxRecDepth 100000 in
theorem hm_ok91 : ∀ pc, hm_ckr 91 pc = true := hm_okl hm_j91 (fun _ => rfl) (N := 13) (by decide +kernel)
set_option maxRecDepth 100000 in
theorem hm_ok92 : ∀ pc, hm_ckr 92 pc = true := hm_okl hm_j92 (fun _ => rfl) (N := 41) (by decide +kernel)
set_option maxRecDepth 100000 in
theorem hm_ok93 : ∀ pc, hm_ckr 93 pc = true := hm_okl hm_j93 (fun _ => rfl) (N := 35) (by decide +kernel)
set_option maxRecDepth 100000 in
theorem hm_ok94 : ∀ pc, hm_ckr 94 pc = true := hm_okl hm_j94 (fun _ => rfl) (N := 143) (by decide +kernel)
set_option maxRecDepth 100000 in
theorem hm_ok95 : ∀ pc, hm_ckr 95 pc = true := hm_okl hm_j95 (fun _ => rfl) (N := 52) (by decide +kernel)
set_option maxRecDepth 100000 in
theorem hm_ok96_0 : (List.range 45).all (fun i => hm_ckr 96 (0 + i)) = true := by decide +kernel
set_option maxRecDepth 100000 in
theorem hm_ok96_45 : (List.range 45).all (fun i => hm_ckr 96 (45 + i)) = true := by decide +kernel
set_option maxRecDepth 100000 in
theorem hm_ok96_90 : (List.range 45).all (fun i => hm_ckr 96 (90 + i)) = true := by decide +kernel
set_option maxRecDepth 100000 in
theorem hm_ok96_135 : (List.range 45).all (fun i => hm_ckr 96 (135 + i)) = true := by decide +kernel
set_option maxRecDepth 100000 in
theorem hm_ok96_180 : (List.range 45).all (fun i => hm_ckr 96 (180 + i)) = true := by decide +kernel
set_option maxRecDepth 100000 in
theorem hm_ok96_225 : (List.range 5).all (fun i => hm_ckr 96 (225 + i)) = true := by decide +kernel
theorem hm_ok96 : ∀ pc, hm_ckr 96 pc = true := hm_okm hm_j96 (fun _ => rfl) (N := 230) (fun pc hp => by
  by_cases h0 : pc < 45
  · exact hm_okr hm_ok96_0 (by omega) (by omega)
  by_cases h45 : pc < 90
  · exact hm_okr hm_ok96_45 (by omega) (by omega)
  by_cases h90 : pc < 135
  · exact hm_okr hm_ok96_90 (by omega) (by omega)
  by_cases h135 : pc < 180
  · exact hm_okr hm_ok96_135 (by omega) (by omega)
  by_cases h180 : pc < 225
  · exact hm_okr hm_ok96_180 (by omega) (by omega)
  exact hm_okr hm_ok96_225 (by omega) (by omega))
set_option maxRecDepth 100000 in
theorem hm_ok97 : ∀ pc, hm_ckr 97 pc = true := hm_okl hm_j97 (fun _ => rfl) (N := 37) (by decide +kernel)
set_option maxRecDepth 100000 in
theorem hm_ok98 : ∀ pc, hm_ckr 98 pc = true := hm_okl hm_j98 (fun _ => rfl) (N := 51) (by decide +kernel)
set_option maxRecDepth 100000 in
theorem hm_ok99_0 : (List.range 45).all (fun i => hm_ckr 99 (0 + i)) = true := by decide +kernel
set_option maxRecDepth 100000 in
theorem hm_ok99_45 : (List.range 45).all (fun i => hm_ckr 99 (45 + i)) = true := by decide +kernel
set_option maxRecDepth 100000 in
theorem hm_ok99_90 : (List.range 45).all (fun i => hm_ckr 99 (90 + i)) = true := by decide +kernel
set_option maxRecDepth 100000 in
theorem hm_ok99_135 : (List.range 34).all (fun i => hm_ckr 99 (135 + i)) = true := by decide +kernel
theorem hm_ok99 : ∀ pc, hm_ckr 99 pc = true := hm_okm hm_j99 (fun _ => rfl) (N := 169) (fun pc hp => by
  by_cases h0 : pc < 45
  · exact hm_okr hm_ok99_0 (by omega) (by omega)
  by_cases h45 : pc < 90
  · exact hm_okr hm_ok99_45 (by omega) (by omega)
  by_cases h90 : pc < 135
  · exact hm_okr hm_ok99_90 (by omega) (by omega)
  exact hm_okr hm_ok99_135 (by omega) (by omega))
end
section
/-! each row is the code's, further -/
set_option maxRecDepth 100000 in
theorem hm_ok100 : ∀ pc, hm_ckr 100 pc = true := hm_okl hm_j100 (fun _ => rfl) (N := 33) (by decide +kernel)
set_option maxRecDepth 100000 in
theorem hm_ok101 : ∀ pc, hm_ckr 101 pc = true := hm_okl hm_j101 (fun _ => rfl) (N := 5) (by decide +kernel)
set_option maxRecDepth 100000 in
theorem hm_ok102 : ∀ pc, hm_ckr 102 pc = true := hm_okl hm_j102 (fun _ => rfl) (N := 5) (by decide +kernel)
set_option maxRecDepth 100000 in
theorem hm_ok103 : ∀ pc, hm_ckr 103 pc = true := hm_okl hm_j103 (fun _ => rfl) (N := 14) (by decide +kernel)
set_option maxRecDepth 100000 in
theorem hm_ok104 : ∀ pc, hm_ckr 104 pc = true := hm_okl hm_j104 (fun _ => rfl) (N := 109) (by decide +kernel)
set_option maxRecDepth 100000 in
theorem hm_ok105 : ∀ pc, hm_ckr 105 pc = true := hm_okl hm_j105 (fun _ => rfl) (N := 26) (by decide +kernel)
set_option maxRecDepth 100000 in
theorem hm_ok106 : ∀ pc, hm_ckr 106 pc = true := hm_okl hm_j106 (fun _ => rfl) (N := 22) (by decide +kernel)
set_option maxRecDepth 100000 in
theorem hm_ok107 : ∀ pc, hm_ckr 107 pc = true := hm_okl hm_j107 (fun _ => rfl) (N := 37) (by decide +kernel)
set_option maxRecDepth 100000 in
theorem hm_ok108 : ∀ pc, hm_ckr 108 pc = true := hm_okl hm_j108 (fun _ => rfl) (N := 51) (by decide +kernel)
set_option maxRecDepth 100000 in
theorem hm_ok109 : ∀ pc, hm_ckr 109 pc = true := hm_okl hm_j109 (fun _ => rfl) (N := 68) (by decide +kernel)
set_option maxRecDepth 100000 in
theorem hm_ok110 : ∀ pc, hm_ckr 110 pc = true := hm_okl hm_j110 (fun _ => rfl) (N := 113) (by decide +kernel)
set_option maxRecDepth 100000 in
theorem hm_ok111 : ∀ pc, hm_ckr 111 pc = true := hm_okl hm_j111 (fun _ => rfl) (N := 11) (by decide +kernel)
set_option maxRecDepth 100000 in
theorem hm_ok112 : ∀ pc, hm_ckr 112 pc = true := hm_okl hm_j112 (fun _ => rfl) (N := 5) (by decide +kernel)
set_option maxRecDepth 100000 in
theorem hm_ok113 : ∀ pc, hm_ckr 113 pc = true := hm_okl hm_j113 (fun _ => rfl) (N := 5) (by decide +kernel)
set_option maxRecDepth 100000 in
theorem hm_ok114 : ∀ pc, hm_ckr 114 pc = true := hm_okl hm_j114 (fun _ => rfl) (N := 9) (by decide +kernel)
set_option maxRecDepth 100000 in
theorem hm_ok115 : ∀ pc, hm_ckr 115 pc = true := hm_okl hm_j115 (fun _ => rfl) (N := 9) (by decide +kernel)
set_option maxRecDepth 100000 in
theorem hm_ok116 : ∀ pc, hm_ckr 116 pc = true := hm_okl hm_j116 (fun _ => rfl) (N := 9) (by decide +kernel)
set_option maxRecDepth 100000 in
theorem hm_ok117 : ∀ pc, hm_ckr 117 pc = true := hm_okl hm_j117 (fun _ => rfl) (N := 11) (by decide +kernel)
set_option maxRecDepth 100000 in
theorem hm_ok118 : ∀ pc, hm_ckr 118 pc = true := hm_okl hm_j118 (fun _ => rfl) (N := 31) (by decide +kernel)
set_option maxRecDepth 100000 in
theorem hm_ok119 : ∀ pc, hm_ckr 119 pc = true := hm_okl hm_j119 (fun _ => rfl) (N := 13) (by decide +kernel)
set_option maxRecDepth 100000 in
theorem hm_ok120 : ∀ pc, hm_ckr 120 pc = true := hm_okl hm_j120 (fun _ => rfl) (N := 84) (by decide +kernel)
set_option maxRecDepth 100000 in
theorem hm_ok121 : ∀ pc, hm_ckr 121 pc = true := hm_okl hm_j121 (fun _ => rfl) (N := 20) (by decide +kernel)
set_option maxRecDepth 100000 in
theorem hm_ok122 : ∀ pc, hm_ckr 122 pc = true := hm_okl hm_j122 (fun _ => rfl) (N := 84) (by decide +kernel)
set_option maxRecDepth 100000 in
theorem hm_ok123 : ∀ pc, hm_ckr 123 pc = true := hm_okl hm_j123 (fun _ => rfl) (N := 18) (by decide +kernel)
set_option maxRecDepth 100000 in
theorem hm_ok124 : ∀ pc, hm_ckr 124 pc = true := hm_okl hm_j124 (fun _ => rfl) (N := 53) (by decide +kernel)
set_option maxRecDepth 100000 in
theorem hm_ok125 : ∀ pc, hm_ckr 125 pc = true := hm_okl hm_j125 (fun _ => rfl) (N := 35) (by decide +kernel)
set_option maxRecDepth 100000 in
theorem hm_ok126 : ∀ pc, hm_ckr 126 pc = true := hm_okl hm_j126 (fun _ => rfl) (N := 49) (by decide +kernel)
set_option maxRecDepth 100000 in
theorem hm_ok127 : ∀ pc, hm_ckr 127 pc = true := hm_okl hm_j127 (fun _ => rfl) (N := 23) (by decide +kernel)
set_option maxRecDepth 100000 in
theorem hm_ok128 : ∀ pc, hm_ckr 128 pc = true := hm_okl hm_j128 (fun _ => rfl) (N := 46) (by decide +kernel)
set_option maxRecDepth 100000 in
theorem hm_ok129 : ∀ pc, hm_ckr 129 pc = true := hm_okl hm_j129 (fun _ => rfl) (N := 46) (by decide +kernel)
set_option maxRecDepth 100000 in
theorem hm_ok130 : ∀ pc, hm_ckr 130 pc = true := hm_okl hm_j130 (fun _ => rfl) (N := 45) (by decide +kernel)
set_option maxRecDepth 100000 in
theorem hm_ok131 : ∀ pc, hm_ckr 131 pc = true := hm_okl hm_j131 (fun _ => rfl) (N := 39) (by decide +kernel)
set_option maxRecDepth 100000 in
theorem hm_ok132 : ∀ pc, hm_ckr 132 pc = true := hm_okl hm_j132 (fun _ => rfl) (N := 59) (by decide +kernel)
set_option maxRecDepth 100000 in
theorem hm_ok133 : ∀ pc, hm_ckr 133 pc = true := hm_okl hm_j133 (fun _ => rfl) (N := 5) (by decide +kernel)
set_option maxRecDepth 100000 in
theorem hm_ok134 : ∀ pc, hm_ckr 134 pc = true := hm_okl hm_j134 (fun _ => rfl) (N := 5) (by decide +kernel)
set_option maxRecDepth 100000 in
theorem hm_ok135 : ∀ pc, hm_ckr 135 pc = true := hm_okl hm_j135 (fun _ => rfl) (N := 5) (by decide +kernel)
set_option maxRecDepth 100000 in
theorem hm_ok136 : ∀ pc, hm_ckr 136 pc = true := hm_okl hm_j136 (fun _ => rfl) (N := 5) (by decide +kernel)
set_option maxRecDepth 100000 in
theorem hm_ok137 : ∀ pc, hm_ckr 137 pc = true := hm_okl hm_j137 (fun _ => rfl) (N := 5) (by decide +kernel)
set_option maxRecDepth 100000 in
theorem hm_ok138 : ∀ pc, hm_ckr 138 pc = true := hm_okl hm_j138 (fun _ => rfl) (N := 9) (by decide +kernel)
set_option maxRecDepth 100000 in
theorem hm_ok139 : ∀ pc, hm_ckr 139 pc = true := hm_okl hm_j139 (fun _ => rfl) (N := 34) (by decide +kernel)
set_option maxRecDepth 100000 in
theorem hm_ok140 : ∀ pc, hm_ckr 140 pc = true := hm_okl hm_j140 (fun _ => rfl) (N := 13) (by decide +kernel)
set_option maxRecDepth 100000 in
theorem hm_ok141 : ∀ pc, hm_ckr 141 pc = true := hm_okl hm_j141 (fun _ => rfl) (N := 53) (by decide +kernel)
set_option maxRecDepth 100000 in
theorem hm_ok142 : ∀ pc, hm_ckr 142 pc = true := hm_okl hm_j142 (fun _ => rfl) (N := 54) (by decide +kernel)
set_option maxRecDepth 100000 in
theorem hm_ok143 : ∀ pc, hm_ckr 143 pc = true := hm_okl hm_j143 (fun _ => rfl) (N := 7) (by decide +kernel)
set_option maxRecDepth 100000 in
theorem hm_ok144 : ∀ pc, hm_ckr 144 pc = true := hm_okl hm_j144 (fun _ => rfl) (N := 13) (by decide +kernel)
set_option maxRecDepth 100000 in
theorem hm_ok145 : ∀ pc, hm_ckr 145 pc = true := hm_okl hm_j145 (fun _ => rfl) (N := 63) (by decide +kernel)
set_option maxRecDepth 100000 in
theorem hm_ok146 : ∀ pc, hm_ckr 146 pc = true := hm_okl hm_j146 (fun _ => rfl) (N := 21) (by decide +kernel)
set_option maxRecDepth 100000 in
theorem hm_ok147 : ∀ pc, hm_ckr 147 pc = true := hm_okl hm_j147 (fun _ => rfl) (N := 49) (by decide +kernel)
set_option maxRecDepth 100000 in
theorem hm_ok148 : ∀ pc, hm_ckr 148 pc = true := hm_okl hm_j148 (fun _ => rfl) (N := 36) (by decide +kernel)
set_option maxRecDepth 100000 in
theorem hm_ok149 : ∀ pc, hm_ckr 149 pc = true := hm_okl hm_j149 (fun _ => rfl) (N := 37) (by decide +kernel)
end
section
/-! each row is the code's, further -/
set_option maxRecDepth 100000 in
theorem hm_ok150 : ∀ pc, hm_ckr 150 pc = true := hm_okl hm_j150 (fun _ => rfl) (N := 100) (by decide +kernel)
set_option maxRecDepth 100000 in
theorem hm_ok151 : ∀ pc, hm_ckr 151 pc = true := hm_okl hm_j151 (fun _ => rfl) (N := 21) (by decide +kernel)
set_option maxRecDepth 100000 in
theorem hm_ok152 : ∀ pc, hm_ckr 152 pc = true := hm_okl hm_j152 (fun _ => rfl) (N := 54) (by decide +kernel)
set_option maxRecDepth 100000 in
theorem hm_ok153 : ∀ pc, hm_ckr 153 pc = true := hm_okl hm_j153 (fun _ => rfl) (N := 73) (by decide +kernel)
set_option maxRecDepth 100000 in
theorem hm_ok154 : ∀ pc, hm_ckr 154 pc = true := hm_okl hm_j154 (fun _ => rfl) (N := 66) (by decide +kernel)
set_option maxRecDepth 100000 in
theorem hm_ok155 : ∀ pc, hm_ckr 155 pc = true := hm_okl hm_j155 (fun _ => rfl) (N := 70) (by decide +kernel)
set_option maxRecDepth 100000 in
theorem hm_ok156 : ∀ pc, hm_ckr 156 pc = true := hm_okl hm_j156 (fun _ => rfl) (N := 11) (by decide +kernel)
set_option maxRecDepth 100000 in
theorem hm_ok157 : ∀ pc, hm_ckr 157 pc = true := hm_okl hm_j157 (fun _ => rfl) (N := 5) (by decide +kernel)
set_option maxRecDepth 100000 in
theorem hm_ok158 : ∀ pc, hm_ckr 158 pc = true := hm_okl hm_j158 (fun _ => rfl) (N := 5) (by decide +kernel)
set_option maxRecDepth 100000 in
theorem hm_ok159 : ∀ pc, hm_ckr 159 pc = true := hm_okl hm_j159 (fun _ => rfl) (N := 18) (by decide +kernel)
set_option maxRecDepth 100000 in
theorem hm_ok160 : ∀ pc, hm_ckr 160 pc = true := hm_okl hm_j160 (fun _ => rfl) (N := 26) (by decide +kernel)
set_option maxRecDepth 100000 in
theorem hm_ok161 : ∀ pc, hm_ckr 161 pc = true := hm_okl hm_j161 (fun _ => rfl) (N := 9) (by decide +kernel)
set_option maxRecDepth 100000 in
theorem hm_ok162 : ∀ pc, hm_ckr 162 pc = true := hm_okl hm_j162 (fun _ => rfl) (N := 9) (by decide +kernel)
set_option maxRecDepth 100000 in
theorem hm_ok163 : ∀ pc, hm_ckr 163 pc = true := hm_okl hm_j163 (fun _ => rfl) (N := 9) (by decide +kernel)
set_option maxRecDepth 100000 in
theorem hm_ok164 : ∀ pc, hm_ckr 164 pc = true := hm_okl hm_j164 (fun _ => rfl) (N := 9) (by decide +kernel)
set_option maxRecDepth 100000 in
theorem hm_ok165 : ∀ pc, hm_ckr 165 pc = true := hm_okl hm_j165 (fun _ => rfl) (N := 43) (by decide +kernel)
set_option maxRecDepth 100000 in
theorem hm_ok166 : ∀ pc, hm_ckr 166 pc = true := hm_okl hm_j166 (fun _ => rfl) (N := 19) (by decide +kernel)
set_option maxRecDepth 100000 in
theorem hm_ok167 : ∀ pc, hm_ckr 167 pc = true := hm_okl hm_j167 (fun _ => rfl) (N := 19) (by decide +kernel)
set_option maxRecDepth 100000 in
theorem hm_ok168 : ∀ pc, hm_ckr 168 pc = true := hm_okl hm_j168 (fun _ => rfl) (N := 20) (by decide +kernel)
set_option maxRecDepth 100000 in
theorem hm_ok169 : ∀ pc, hm_ckr 169 pc = true := hm_okl hm_j169 (fun _ => rfl) (N := 24) (by decide +kernel)
set_option maxRecDepth 100000 in
theorem hm_ok170 : ∀ pc, hm_ckr 170 pc = true := hm_okl hm_j170 (fun _ => rfl) (N := 24) (by decide +kernel)
set_option maxRecDepth 100000 in
theorem hm_ok171 : ∀ pc, hm_ckr 171 pc = true := hm_okl hm_j171 (fun _ => rfl) (N := 59) (by decide +kernel)
set_option maxRecDepth 100000 in
theorem hm_ok172 : ∀ pc, hm_ckr 172 pc = true := hm_okl hm_j172 (fun _ => rfl) (N := 30) (by decide +kernel)
set_option maxRecDepth 100000 in
theorem hm_ok173 : ∀ pc, hm_ckr 173 pc = true := hm_okl hm_j173 (fun _ => rfl) (N := 44) (by decide +kernel)
set_option maxRecDepth 100000 in
theorem hm_ok174 : ∀ pc, hm_ckr 174 pc = true := hm_okl hm_j174 (fun _ => rfl) (N := 75) (by decide +kernel)
set_option maxRecDepth 100000 in
theorem hm_ok175 : ∀ pc, hm_ckr 175 pc = true := hm_okl hm_j175 (fun _ => rfl) (N := 22) (by decide +kernel)
set_option maxRecDepth 100000 in
theorem hm_ok176 : ∀ pc, hm_ckr 176 pc = true := hm_okl hm_j176 (fun _ => rfl) (N := 91) (by decide +kernel)
set_option maxRecDepth 100000 in
theorem hm_ok177 : ∀ pc, hm_ckr 177 pc = true := hm_okl hm_j177 (fun _ => rfl) (N := 20) (by decide +kernel)
set_option maxRecDepth 100000 in
theorem hm_ok178 : ∀ pc, hm_ckr 178 pc = true := hm_okl hm_j178 (fun _ => rfl) (N := 24) (by decide +kernel)
set_option maxRecDepth 100000 in
theorem hm_ok179 : ∀ pc, hm_ckr 179 pc = true := hm_okl hm_j179 (fun _ => rfl) (N := 21) (by decide +kernel)
set_option maxRecDepth 100000 in
theorem hm_ok180 : ∀ pc, hm_ckr 180 pc = true := hm_okl hm_j180 (fun _ => rfl) (N := 13) (by decide +kernel)
set_option maxRecDepth 100000 in
theorem hm_ok181 : ∀ pc, hm_ckr 181 pc = true := hm_okl hm_j181 (fun _ => rfl) (N := 25) (by decide +kernel)
set_option maxRecDepth 100000 in
theorem hm_ok182 : ∀ pc, hm_ckr 182 pc = true := hm_okl hm_j182 (fun _ => rfl) (N := 36) (by decide +kernel)
set_option maxRecDepth 100000 in
theorem hm_ok183 : ∀ pc, hm_ckr 183 pc = true := hm_okl hm_j183 (fun _ => rfl) (N := 28) (by decide +kernel)
set_option maxRecDepth 100000 in
theorem hm_ok184 : ∀ pc, hm_ckr 184 pc = true := hm_okl hm_j184 (fun _ => rfl) (N := 57) (by decide +kernel)
end
section
/-! each row is the code's, further -/
set_option maxRecDepth 100000 in
theorem hm_ok185 : ∀ pc, hm_ckr 185 pc = true := hm_okl hm_j185 (fun _ => rfl) (N := 6) (by decide +kernel)
set_option maxRecDepth 100000 in
theorem hm_ok186 : ∀ pc, hm_ckr 186 pc = true := hm_okl hm_j186 (fun _ => rfl) (N := 5) (by decide +kernel)
set_option maxRecDepth 100000 in
theorem hm_ok187 : ∀ pc, hm_ckr 187 pc = true := hm_okl hm_j187 (fun _ => rfl) (N := 44) (by decide +kernel)
set_option maxRecDepth 100000 in
theorem hm_ok188 : ∀ pc, hm_ckr 188 pc = true := hm_okl hm_j188 (fun _ => rfl) (N := 25) (by decide +kernel)
set_option maxRecDepth 100000 in
theorem hm_ok189 : ∀ pc, hm_ckr 189 pc = true := hm_okl hm_j189 (fun _ => rfl) (N := 71) (by decide +kernel)
set_option maxRecDepth 100000 in
theorem hm_ok190 : ∀ pc, hm_ckr 190 pc = true := hm_okl hm_j190 (fun _ => rfl) (N := 31) (by decide +kernel)
set_option maxRecDepth 100000 in
theorem hm_ok191 : ∀ pc, hm_ckr 191 pc = true := hm_okl hm_j191 (fun _ => rfl) (N := 56) (by decide +kernel)
set_option maxRecDepth 100000 in
theorem hm_ok192 : ∀ pc, hm_ckr 192 pc = true := hm_okl hm_j192 (fun _ => rfl) (N := 7) (by decide +kernel)
set_option maxRecDepth 100000 in
theorem hm_ok193 : ∀ pc, hm_ckr 193 pc = true := hm_okl hm_j193 (fun _ => rfl) (N := 19) (by decide +kernel)
set_option maxRecDepth 100000 in
theorem hm_ok194_0 : (List.range 45).all (fun i => hm_ckr 194 (0 + i)) = true := by decide +kernel
set_option maxRecDepth 100000 in
theorem hm_ok194_45 : (List.range 45).all (fun i => hm_ckr 194 (45 + i)) = true := by decide +kernel
set_option maxRecDepth 100000 in
theorem hm_ok194_90 : (List.range 45).all (fun i => hm_ckr 194 (90 + i)) = true := by decide +kernel
set_option maxRecDepth 100000 in
theorem hm_ok194_135 : (List.range 45).all (fun i => hm_ckr 194 (135 + i)) = true := by decide +kernel
set_option maxRecDepth 100000 in
theorem hm_ok194_180 : (List.range 29).all (fun i => hm_ckr 194 (180 + i)) = true := by decide +kernel
theorem hm_ok194 : ∀ pc, hm_ckr 194 pc = true := hm_okm hm_j194 (fun _ => rfl) (N := 209) (fun pc hp => by
  by_cases h0 : pc < 45
  · exact hm_okr hm_ok194_0 (by omega) (by omega)
  by_cases h45 : pc < 90
  · exact hm_okr hm_ok194_45 (by omega) (by omega)
  by_cases h90 : pc < 135
  · exact hm_okr hm_ok194_90 (by omega) (by omega)
  by_cases h135 : pc < 180
  · exact hm_okr hm_ok194_135 (by omega) (by omega)
  exact hm_okr hm_ok194_180 (by omega) (by omega))
set_option maxRecDepth 100000 in
theorem hm_ok195_0 : (List.range 45).all (fun i => hm_ckr 195 (0 + i)) = true := by decide +kernel
set_option maxRecDepth 100000 in
theorem hm_ok195_45 : (List.range 45).all (fun i => hm_ckr 195 (45 + i)) = true := by decide +kernel
set_option maxRecDepth 100000 in
theorem hm_ok195_90 : (List.range 45).all (fun i => hm_ckr 195 (90 + i)) = true := by decide +kernel
set_option maxRecDepth 100000 in
theorem hm_ok195_135 : (List.range 45).all (fun i => hm_ckr 195 (135 + i)) = true := by decide +kernel
set_option maxRecDepth 100000 in
theorem hm_ok195_180 : (List.range 44).all (fun i => hm_ckr 195 (180 + i)) = true := by decide +kernel
theorem hm_ok195 : ∀ pc, hm_ckr 195 pc = true := hm_okm hm_j195 (fun _ => rfl) (N := 224) (fun pc hp => by
  by_cases h0 : pc < 45
  · exact hm_okr hm_ok195_0 (by omega) (by omega)
  by_cases h45 : pc < 90
  · exact hm_okr hm_ok195_45 (by omega) (by omega)
  by_cases h90 : pc < 135
  · exact hm_okr hm_ok195_90 (by omega) (by omega)
  by_cases h135 : pc < 180
  · exact hm_okr hm_ok195_135 (by omega) (by omega)
  exact hm_okr hm_ok195_180 (by omega) (by omega))
set_option maxRecDepth 100000 in
theorem hm_ok196_0 : (List.range 45).all (fun i => hm_ckr 196 (0 + i)) = true := by decide +kernel
set_option maxRecDepth 100000 in
theorem hm_ok196_45 : (List.range 45).all (fun i => hm_ckr 196 (45 + i)) = true := by decide +kernel
set_option maxRecDepth 100000 in
theorem hm_ok196_90 : (List.range 45).all (fun i => hm_ckr 196 (90 + i)) = true := by decide +kernel
set_option maxRecDepth 100000 in
theorem hm_ok196_135 : (List.range 45).all (fun i => hm_ckr 196 (135 + i)) = true := by decide +kernel
set_option maxRecDepth 100000 in
theorem hm_ok196_180 : (List.range 45).all (fun i => hm_ckr 196 (180 + i)) = true := by decide +kernel
set_option maxRecDepth 100000 in
theorem hm_ok196_225 : (List.range 45).all (fun i => hm_ckr 196 (225 + i)) = true := by decide +kernel
set_option maxRecDepth 100000 in
theorem hm_ok196_270 : (List.range 45).all (fun i => hm_ckr 196 (270 + i)) = true := by decide +kernel
set_option maxRecDepth 100000 in
theorem hm_ok196_315 : (List.range 45).all (fun i => hm_ckr 196 (315 + i)) = true := by decide +kernel
set_option maxRecDepth 100000 in
theorem hm_ok196_360 : (List.range 45).all (fun i => hm_ckr 196 (360 + i)) = true := by decide +kernel
set_option maxRecDepth 100000 in
theorem hm_ok196_405 : (List.range 45).all (fun i => hm_ckr 196 (405 + i)) = true := by decide +kernel
set_option maxRecDepth 100000 in
theorem hm_ok196_450 : (List.range 45).all (fun i => hm_ckr 196 (450 + i)) = true := by decide +kernel
set_option maxRecDepth 100000 in
theorem hm_ok196_495 : (List.range 45).all (fun i => hm_ckr 196 (495 + i)) = true := by decide +kernel
set_option maxRecDepth 100000 in
theorem hm_ok196_540 : (List.range 45).all (fun i => hm_ckr 196 (540 + i)) = true := by decide +kernel
set_option maxRecDepth 100000 in
theorem hm_ok196_585 : (List.range 14).all (fun i => hm_ckr 196 (585 + i)) = true := by decide +kernel
theorem hm_ok196 : ∀ pc, hm_ckr 196 pc = true := hm_okm hm_j196 (fun _ => rfl) (N := 599) (fun pc hp => by
  by_cases h0 : pc < 45
  · exact hm_okr hm_ok196_0 (by omega) (by omega)
  by_cases h45 : pc < 90
  · exact hm_okr hm_ok196_45 (by omega) (by omega)
  by_cases h90 : pc < 135
  · exact hm_okr hm_ok196_90 (by omega) (by omega)
  by_cases h135 : pc < 180
  · exact hm_okr hm_ok196_135 (by omega) (by omega)
  by_cases h180 : pc < 225
  · exact hm_okr hm_ok196_180 (by omega) (by omega)
  by_cases h225 : pc < 270
  · exact hm_okr hm_ok196_225 (by omega) (by omega)
  by_cases h270 : pc < 315
  · exact hm_okr hm_ok196_270 (by omega) (by omega)
  by_cases h315 : pc < 360
  · exact hm_okr hm_ok196_315 (by omega) (by omega)
  by_cases h360 : pc < 405
  · exact hm_okr hm_ok196_360 (by omega) (by omega)
  by_cases h405 : pc < 450
  · exact hm_okr hm_ok196_405 (by omega) (by omega)
  by_cases h450 : pc < 495
  · exact hm_okr hm_ok196_450 (by omega) (by omega)
  by_cases h495 : pc < 540
  · exact hm_okr hm_ok196_495 (by omega) (by omega)
  by_cases h540 : pc < 585
  · exact hm_okr hm_ok196_540 (by omega) (by omega)
  exact hm_okr hm_ok196_585 (by omega) (by omega))
end
section
theorem hm_okA : ∀ k, k < 197 → ∀ pc, hm_ckr k pc = true := lt_s (lt_s (lt_s (lt_s (lt_s (lt_s (lt_s (lt_s (lt_s (lt_s (lt_s (lt_s (lt_s (lt_s (lt_s (lt_s (lt_s (lt_s (lt_s (lt_s (lt_s (lt_s (lt_s (lt_s (lt_s (lt_s (lt_s (lt_s (lt_s (lt_s (lt_s (lt_s (lt_s (lt_s (lt_s (lt_s (lt_s (lt_s (lt_s (lt_s (lt_s (lt_s (lt_s (lt_s (lt_s (lt_s (lt_s (lt_s (lt_s (lt_s (lt_s (lt_s (lt_s (lt_s (lt_s (lt_s (lt_s (lt_s (lt_s (lt_s (lt_s (lt_s (lt_s (lt_s (lt_s (lt_s (lt_s (lt_s (lt_s (lt_s (lt_s (lt_s (lt_s (lt_s (lt_s (lt_s (lt_s (lt_s (lt_s (lt_s (lt_s (lt_s (lt_s (lt_s (lt_s (lt_s (lt_s (lt_s (lt_s (lt_s (lt_s (lt_s (lt_s (lt_s (lt_s (lt_s (lt_s (lt_s (lt_s (lt_s (lt_s (lt_s (lt_s (lt_s (lt_s (lt_s (lt_s (lt_s (lt_s (lt_s (lt_s (lt_s (lt_s (lt_s (lt_s (lt_s (lt_s (lt_s (lt_s (lt_s (lt_s (lt_s (lt_s (lt_s (lt_s (lt_s (lt_s (lt_s (lt_s (lt_s (lt_s (lt_s (lt_s (lt_s (lt_s (lt_s (lt_s (lt_s (lt_s (lt_s (lt_s (lt_s (lt_s (lt_s (lt_s (lt_s (lt_s (lt_s (lt_s (lt_s (lt_s (lt_s (lt_s (lt_s (lt_s (lt_s (lt_s (lt_s (lt_s (lt_s (lt_s (lt_s (lt_s (lt_s (lt_s (lt_s (lt_s (lt_s (lt_s (lt_s (lt_s (lt_s (lt_s (lt_s (lt_s (lt_s (lt_s (lt_s (lt_s (lt_s (lt_s (lt_s (lt_s (lt_s (lt_s (lt_s (lt_s (lt_s (lt_s (lt_s (lt_s (lt_s (lt_s (lt_s (lt_s (lt_s (lt_s (lt_0 (p := fun k => ∀ pc, hm_ckr k pc = true)) hm_ok0) hm_ok1) hm_ok2) hm_ok3) hm_ok4) hm_ok5) hm_ok6) hm_ok7) hm_ok8) hm_ok9) hm_ok10) hm_ok11) hm_ok12) hm_ok13) hm_ok14) hm_ok15) hm_ok16) hm_ok17) hm_ok18) hm_ok19) hm_ok20) hm_ok21) hm_ok22) hm_ok23) hm_ok24) hm_ok25) hm_ok26) hm_ok27) hm_ok28) hm_ok29) hm_ok30) hm_ok31) hm_ok32) hm_ok33) hm_ok34) hm_ok35) hm_ok36) hm_ok37) hm_ok38) hm_ok39) hm_ok40) hm_ok41) hm_ok42) hm_ok43) hm_ok44) hm_ok45) hm_ok46) hm_ok47) hm_ok48) hm_ok49) hm_ok50) hm_ok51) hm_ok52) hm_ok53) hm_ok54) hm_ok55) hm_ok56) hm_ok57) hm_ok58) hm_ok59) hm_ok60) hm_ok61) hm_ok62) hm_ok63) hm_ok64) hm_ok65) hm_ok66) hm_ok67) hm_ok68) hm_ok69) hm_ok70) hm_ok71) hm_ok72) hm_ok73) hm_ok74) hm_ok75) hm_ok76) hm_ok77) hm_ok78) hm_ok79) hm_ok80) hm_ok81) hm_ok82) hm_ok83) hm_ok84) hm_ok85) hm_ok86) hm_ok87) hm_ok88) hm_ok89) hm_ok90) hm_ok91) hm_ok92) hm_ok93) hm_ok94) hm_ok95) hm_ok96) hm_ok97) hm_ok98) hm_ok99) hm_ok100) hm_ok101) hm_ok102) hm_ok103) hm_ok104) hm_ok105) hm_ok106) hm_ok107) hm_ok108) hm_ok109) hm_ok110) hm_ok111) hm_ok112) hm_ok113) hm_ok114) hm_ok115) hm_ok116) hm_ok117) hm_ok118) hm_ok119) hm_ok120) hm_ok121) hm_ok122) hm_ok123) hm_ok124) hm_ok125) hm_ok126) hm_ok127) hm_ok128) hm_ok129) hm_ok130) hm_ok131) hm_ok132) hm_ok133) hm_ok134) hm_ok135) hm_ok136) hm_ok137) hm_ok138) hm_ok139) hm_ok140) hm_ok141) hm_ok142) hm_ok143) hm_ok144) hm_ok145) hm_ok146) hm_ok147) hm_ok148) hm_ok149) hm_ok150) hm_ok151) hm_ok152) hm_ok153) hm_ok154) hm_ok155) hm_ok156) hm_ok157) hm_ok158) hm_ok159) hm_ok160) hm_ok161) hm_ok162) hm_ok163) hm_ok164) hm_ok165) hm_ok166) hm_ok167) hm_ok168) hm_ok169) hm_ok170) hm_ok171) hm_ok172) hm_ok173) hm_ok174) hm_ok175) hm_ok176) hm_ok177) hm_ok178) hm_ok179) hm_ok180) hm_ok181) hm_ok182) hm_ok183) hm_ok184) hm_ok185) hm_ok186) hm_ok187) hm_ok188) hm_ok189) hm_ok190) hm_ok191) hm_ok192) hm_ok193) hm_ok194) hm_ok195) hm_ok196
theorem hm_ok {k pc : Nat} {i : Instr} {n x y z : Nat} (h : hm_ins k pc = some (i, n, x, y, z)) : hm_ck k pc i n x y z = true := by
  have hk : k < 197 := by
    apply Classical.byContradiction
    intro q
    have h2 : hm_ins k pc = none := by unfold hm_ins; rw [if_neg q]
    rw [h2] at h
    cases h
  have h3 := hm_okA k hk pc
  unfold hm_ckr at h3
  rw [h] at h3
  exact h3
end
section
/-! Stores and makings, with what becomes of the heap's size. -/
section HR
variable {p : Program} {l : Launch} {e : Env} {R : Room} {s : State} {m : MethodId} {args : Array Value} {below : List Frame} {meth : Method} {c : Code} {H : Heap} {locs : List Loc} {cells slots : Nat} {Q : State → Prop}
variable {cc : ByteArray} {pc : Nat} {ls : Array Slot} {rest : List Value} {A : Nat → Prop} {H0 : Heap} {D : va_G} {cl : List vw_C} {ws : va_W} {tys : List (ClassId × FieldType)} {a : Nat}
theorem hm_put (hexec : p.tables.exec = Jvm.exec) (hb : c.code = cc) {own C : String} {T : u_T} {N ci index : Nat} {Ts : List Jvm.Cond} (hts : ∀ w ∈ Ts, w.before args s = true) (hin : ∀ w ∈ u_ws C T N, w ∈ Ts) (ty0 : Nat → FieldType)
    (hty : ∀ k, k < N → parseFieldDescriptor (T k).2.2.1 = some (ty0 k)) (hnm : ∀ a, a < N → ∀ b, b < N → a ≠ b → (T a).2.1 ≠ (T b).2.1) (hown : s.vm.findClass own = some m.cls) (hK : va_K D cl tys s) (hP : va_P D cl ws H) (hD : va_D A ws) (hS0 : va_S A H0 H locs)
    (q0 : Nat) {fs : List Value} (he : ws[q0]? = some (a, .inr (ci, fs))) (hc : cl[ci]? = some (C, T, N)) (k : Nat) (hk : k < N) (hlink : (Cond.fieldLink own index (T k).1 (T k).2.1 (T k).2.2.1).before args s = true)
    (hfin : (T k).2.2.2 = false ∨ ((T k).2.2.2 = true ∧ meth.name = "<init>" ∧ (T k).1 = own)) {v : Value} (hn : narrow (ty0 k) v = v) (hfit : fits (ty0 k) v = true) (hl : k < fs.length)
    (hdg : decode cc pc = .ok (.putfield index, 3))
    (kk : ∀ (H1 : Heap) (locs1 : List Loc), H1.size = H.size → va_P D cl (ws.set q0 (a, .inr (ci, fs.set k v))) H1 → va_D A (ws.set q0 (a, .inr (ci, fs.set k v))) → va_S A H0 H1 locs1 → W p l e R s m args below meth c H1 locs1 cells slots Q (F0 m (pc + 3) ls rest)) :
    W p l e R s m args below meth c H locs cells slots Q (F0 m pc ls (v :: .ref a :: rest)) := by
  have hap := va_apart (own := own) hts hin ty0 hty hnm hK hc
  obtain ⟨r, h1, cell, q1, q2, q3, q4⟩ := hP q0 _ he
  have hr : r = (C, T, N) := Option.some.inj (h1.symm.trans hc)
  subst hr
  obtain ⟨hS, hfc, kC, hkC, hkind⟩ := hK.1 ci _ hc
  obtain ⟨cf, kf, fi, f, hi, hsl⟩ := hS k hk
  have hd := hty k hk
  have hlay := hts _ (hin _ (u_in_lay hk))
  unfold u_lay at hlay
  have hst := (u_facts hfc hkC (u_lays hts hin hk) hi).1
  have fin : ∀ H' : Heap, H'[a]? = some (cell.setSlot f.slot v) → H'.size = H.size → (∀ q : Nat, q ≠ a → H'[q]? = H[q]?) → W p l e R s m args below meth c H' (locs ++ [⟨a, f.slot⟩]) cells slots Q (F0 m (pc + 3) ls rest) := by
    intro H' e1 e2 e3
    rw [hsl] at e1 ⊢
    exact kk H' _ e2 (hP.set hD he ⟨_, hc, t_OB.to (V := updV (vp_V fs) k v) ⟨_, e1, q2, q3, t_set q4 hap hk v⟩ (fun j _ => vp_updV_set hl v j)⟩ e3) (hD.set he) (hS0.put e2 e3 (hD.2 q0 _ he))
  rcases hfin with hfin | ⟨hfin, hin2, hdecl⟩
  · rw [if_neg (by rw [hfin]; decide)] at hlay
    have h6 := u_store hfc hkC hkind hlay hi hd hn hfit
    exact W.putK hexec hb (f := f) ⟨hown, hlink, ⟨_, _, _, hi⟩, hst⟩ (by rw [q2]; exact h6) q1 q3 (by rw [hsl]; exact k2_hasslot (q4 k hk)) rfl rfl hdg fin
  · rw [if_pos hfin] at hlay
    have hcf : m.cls = cf := by
      obtain ⟨_, _, c', _, _, _, -, -, hf', -, -, -, hown2, -⟩ := Cond.laysFinal_spec hlay
      have e1 : c' = cf := by have := hi.symm.trans hf'; simp at this; exact this.1.symm
      rw [hdecl] at hown2
      rw [← e1]; exact Option.some.inj (hown.symm.trans hown2)
    have h6 := u_fits hfc hkC hkind (Or.inr hlay) hi hd hn hfit
    exact W.putFinK hexec hb hown hlink hi hst hcf hin2 (by rw [q2]; exact h6) q1 q3 (by rw [hsl]; exact k2_hasslot (q4 k hk)) rfl rfl hdg fin
theorem hm_iast (hexec : p.tables.exec = Jvm.exec) (hb : c.code = cc) (hK : va_K D cl tys s) (hP : va_P D cl ws H) (hD : va_D A ws) (hS : va_S A H0 H locs) (q0 t0 : Nat) {cA : ClassId} {n : Nat} {f : Nat → Int32} (ha : ws[q0]? = some (a, .inl (cA, n, .inl f))) (ht : tys[t0]? = some (cA, .int)) {i : Int32} {x : Int32} (hin : vp_in i n) (hdg : decode cc pc = .ok (.iastore, 1))
    (kk : ∀ (H1 : Heap) (locs1 : List Loc), H1.size = H.size → va_P D cl (ws.set q0 (a, .inl (cA, n, .inl (upd f i.toNatClampNeg x)))) H1 → va_D A (ws.set q0 (a, .inl (cA, n, .inl (upd f i.toNatClampNeg x)))) → va_S A H0 H1 locs1 → W p l e R s m args below meth c H1 locs1 cells slots Q (F0 m (pc + 1) ls rest)) : W p l e R s m args below meth c H locs cells slots Q (F0 m pc ls (.int x :: .int i :: .ref a :: rest)) := by
  refine W.iast hexec hb (hP q0 _ ha) ((hK.2 t0 _ ht).1 n (fun j => .int (f j))) (fun q => by cases q) (by show ¬ (i < 0 ∨ (arrV _ _ _).slots.size ≤ _); rw [arrV_size]; exact hin) rfl rfl hdg fun H1 e z oq => ?_
  refine kk H1 _ z (hP.set hD ha ?_ oq) (hD.set ha) (hS.put z oq (hD.2 q0 _ ha))
  show H1[a]? = some (vp_cell _ _)
  rw [e, vp_cell_i, vp_cell_i, arrV_store]
  congr 2
  funext q
  by_cases hq : q = i.toNatClampNeg
  · subst hq
    simp [updV, upd]
  · simp [updV, upd, hq]
theorem hm_new {c0 : Code} (hexec : p.tables.exec = Jvm.exec) (hb : c0.code = cc) {own C : String} {T : u_T} {N ci index : Nat} {Ts : List Jvm.Cond} (hts : ∀ w ∈ Ts, w.before args s = true) (hin : ∀ w ∈ u_ws C T N, w ∈ Ts) (ty : Nat → FieldType) (hty : ∀ k, k < N → parseFieldDescriptor (T k).2.2.1 = some (ty k)) (hown : s.vm.findClass own = some m.cls) (hcl : (Cond.classLink own index C).before args s = true) (hinst : (Cond.instantiable C N).before args s = true) (hini : (Cond.initialized C).before args s = true)
    (hK : va_K D cl tys s) (hP : va_P D cl ws H) (hD : va_D A ws) (hS : va_S A H0 H locs) (hA : ∀ q, H0.size ≤ q → A q) (hc : cl[ci]? = some (C, T, N)) {fs : List Value} (hfs : ∀ j, j < N → defaultValue (ty j) = vp_V fs j) (hcells : cells + 1 ≤ R.cells) (hslots : slots + N ≤ R.slots) (hdg : decode cc pc = .ok (.new index, 3))
    (kk : ∀ (H1 : Heap), H1.size = H.size + 1 → va_P D cl (ws ++ [(H.size, .inr (ci, fs))]) H1 → va_D A (ws ++ [(H.size, .inr (ci, fs))]) → va_S A H0 H1 locs →
      W p l e R s m args below meth c0 H1 locs (cells + 1) (slots + N) Q (F0 m (pc + 3) ls (.ref H.size :: rest))) : W p l e R s m args below meth c0 H locs cells slots Q (F0 m pc ls rest) := by
  have hKn := hK.1 ci _ hc
  refine W.newcK hexec hb hown hcl hinst hini rfl hdg hcells hslots hKn.2.1 rfl fun H1 kC hkC e1 z1 o1 => ?_
  have hk : ∀ (k : Nat) (x : Nat × va_E), ws[k]? = some x → H1[x.1]? = H[x.1]? := fun k x hx => o1 x.1 ((hP k x hx).lt)
  refine kk H1 z1 ((hP.kept hk).app (fun k x hx => ?_)) (hD.push hP rfl (hA _ hS.1)) ⟨Nat.le_trans hS.1 (by omega), fun x h1 h2 => (o1 x (Nat.lt_of_lt_of_le h1 hS.1)).trans (hS.2.1 x h1 h2), hS.2.2⟩
  have hz : k < 1 := (List.getElem?_eq_some_iff.mp hx).1
  rw [show k = 0 by omega] at hx
  cases hx
  exact ⟨_, hc, (u_born ty hts hin hKn hkC e1 hty).to hfs⟩
/-- a row of ints, its class the one that the world's rows have -/
theorem hm_newa (hexec : p.tables.exec = Jvm.exec) (hb : c.code = cc) (harr : (Cond.arrayClass .int).before args s = true) {cI : ClassId} (hK : va_K D cl [(cI, .int)] s) (hP : va_P D cl ws H) (hD : va_D A ws) (hS : va_S A H0 H locs) (hA : ∀ q, H0.size ≤ q → A q)
    {n : Int32} {N' : Nat} (hn : ¬ n < 0) (hN : n.toNatClampNeg = N') (hbytes : N' * 4 ≤ 536870912) (hcells : cells + 1 ≤ R.cells) (hslots : slots + N' ≤ R.slots) (hdg : decode cc pc = .ok (.newarray .int, 2))
    (kk : ∀ (H1 : Heap), H1.size = H.size + 1 → va_P D cl (ws ++ [(H.size, .inl (cI, N', .inl (fun _ => 0)))]) H1 → va_D A (ws ++ [(H.size, .inl (cI, N', .inl (fun _ => 0)))]) → va_S A H0 H1 locs →
      W p l e R s m args below meth c H1 locs (cells + 1) (slots + N') Q (F0 m (pc + 2) ls (.ref H.size :: rest))) : W p l e R s m args below meth c H locs cells slots Q (F0 m pc ls (.int n :: rest)) := by
  refine va_newaK (atype := .int) hexec hb harr rfl hdg rfl hn hN hbytes hcells hslots rfl fun H1 cA e1 z1 o1 hAr hNm => ?_
  have hcA : cA = cI := by
    have h1 := (hK.2 0 _ rfl).2
    have h2 : s.vm.findClass ("[" ++ FieldType.int.toString) = some cI := h1
    have h3 : s.vm.findClass ("[" ++ FieldType.int.toString) = some cA := hNm
    exact Option.some.inj (h3.symm.trans h2)
  subst hcA
  have hk : ∀ (k : Nat) (x : Nat × va_E), ws[k]? = some x → H1[x.1]? = H[x.1]? := fun k x hx => o1 x.1 ((hP k x hx).lt)
  refine kk H1 z1 ((hP.kept hk).app (fun k x hx => ?_)) (hD.push hP rfl (hA _ hS.1)) ⟨Nat.le_trans hS.1 (by omega), fun x h1 h2 => (o1 x (Nat.lt_of_lt_of_le h1 hS.1)).trans (hS.2.1 x h1 h2), hS.2.2⟩
  have hz : k < 1 := (List.getElem?_eq_some_iff.mp hx).1
  rw [show k = 0 by omega] at hx
  cases hx
  show H1[H.size]? = some (vp_cell _ _)
  exact e1
/-- a call that returns or throws: what comes behind -/
theorem hm_call {g : JFrame} {Qa : State → Outcome → State → Prop} {XC : String → State → State → Prop} {mc ms : Nat} (hr : vx_Run p l e R s m args below meth c H locs cells slots mc ms g rest Qa XC A) (hS : va_S A H0 H locs)
    (hQ : ∀ st o t, Qa st o t → va_F A st t) (hX : ∀ E st t, XC E st t → va_F A st t)
    (kk : ∀ (v : Option Value) (st t : State) (H1 : Heap) (locs1 : List Loc), t.heap = H1 → Qa st (.returned v) t → va_S A H0 H1 locs1 → W p l e R s m args below meth c H1 locs1 (cells + mc) (slots + ms) Q { g with pc := g.pc + 3, stack := v.toList ++ rest })
    (kx : ∀ (E : String) (ce : Cell) (q9 : Addr) (st t : State) (H1 : Heap) (locs1 : List Loc), t.heap = H1 → XC E st t → va_S A H0 H1 locs1 → H1[q9]? = some ce → ce.vm = .none → s.vm.findClass E = some ce.cls → vx_W p l e R s m args below meth c H1 locs1 (cells + mc) (slots + ms) Q { g with stack := rest } q9) :
    W p l e R s m args below meth c H locs cells slots Q g := by
  intro T hT X
  rcases hr T hT X with ⟨v, st₀, t, T', L, h0, X', hL, e1, e2, hq, st⟩ | ⟨q, st₀, t, T', L, E, ce, h0, X', hL, e1, e2, hx, hce, hcv, hcl, st⟩
  · obtain ⟨k1, k2, k3⟩ := vx_keep h0 e1 hS (fun _ _ h => h) (fun _ h => h) hL (hQ _ _ _ hq)
    obtain ⟨t2, a1, b1⟩ := kk v st₀ t T'.heap (locs ++ L) e1.symm hq k3 T' rfl X'
    exact ⟨t2, st t2 a1, b1⟩
  · obtain ⟨k1, k2, k3⟩ := vx_keep h0 e1 hS (fun _ _ h => h) (fun _ h => h) hL (hX _ _ _ hx)
    obtain ⟨t2, a1, b1⟩ := kx E ce q st₀ t T'.heap (locs ++ L) e1.symm hx k3 (by rw [e1]; exact hce) hcv hcl T' rfl X'
    exact ⟨t2, st.trans a1, b1⟩
/-- .. of a call that doesn't throw -/
theorem hm_callN {g : JFrame} {Qa : State → Outcome → State → Prop} {mc ms : Nat} (hr : va_Run p l e R s m args below meth c H locs cells slots mc ms g rest Qa A) (hS : va_S A H0 H locs)
    (hQ : ∀ st o t, Qa st o t → va_F A st t)
    (kk : ∀ (v : Option Value) (st t : State) (H1 : Heap) (locs1 : List Loc), t.heap = H1 → Qa st (.returned v) t → va_S A H0 H1 locs1 → W p l e R s m args below meth c H1 locs1 (cells + mc) (slots + ms) Q { g with pc := g.pc + 3, stack := v.toList ++ rest }) :
    W p l e R s m args below meth c H locs cells slots Q g := by
  intro T hT X
  obtain ⟨v, st₀, t, T', L, h0, X', hL, e1, e2, hq, st⟩ := hr T hT X
  obtain ⟨k1, k2, k3⟩ := vx_keep h0 e1 hS (fun _ _ h => h) (fun _ h => h) hL (hQ _ _ _ hq)
  obtain ⟨t2, a1, b1⟩ := kk v st₀ t T'.heap (locs ++ L) e1.symm hq k3 T' rfl X'
  exact ⟨t2, st t2 a1, b1⟩
/-- a contract that never throws -/
theorem hm_noX {y : MethodName} {ws : List Jvm.Cond} {rm : Room} {Pc : Array Value → State → Prop} {Qc : Array Value → State → Outcome → State → Prop} {XC : String → State → State → Prop} {mc ms : Nat} {free : Addr → Prop}
    (h : vx_Met l y ws rm Pc Qc XC mc ms free) (hX : ∀ E st t, XC E st t → False) : Met l y ws rm Pc Qc mc ms free := by
  refine MetFree.mono h (fun _ _ h => h) (fun _ _ _ _ _ h => h) (fun a st o t _ q => ?_)
  rcases q with q | ⟨q9, _, E, ce, L, hx, _⟩
  · exact q
  · exact (hX _ _ _ hx).elim
end HR
end
section
/-! What holds where the abstract machine stands at a place. -/
def hm_V (U : State) : Prop := ∀ w ∈ lw_tbl, hm_vk w = true → va_Nw w U
def hm_Vs (U : State) : Prop := (∃ sa, vk_R "CurvekeyHouse" 410 "an argument is outside what the call allows" sa U) ∧ (∃ sa, vk_R "CurvekeyHouse" 417 "the store does not allow the call as it is now" sa U) ∧ (∃ sa, vk_R "CurvekeyHouse" 422 "there is no such number" sa U) ∧
  va_Nc "java/lang/IllegalStateException" "java/lang/IndexOutOfBoundsException" U
theorem hm_V.warm {s U : State} (hW : s.WarmedH U.vm) (h : hm_V s) : hm_V U := by
  intro w hw hk
  have h1 := h w hw hk
  cases w with
  | fieldLinkNest a i b n d h => exact va_Nw.warmF hW h1
  | methodLinkNest a i x h => exact va_Nw.warmM hW h1
  | castable C T => exact va_Nw.warmC hW h1
  | declares x => exact va_Nw.warmD hW h1
  | _ => cases hk
theorem hm_V.same {u U : State} (hv : u.vm = U.vm) (h : hm_V u) : hm_V U := by
  intro w hw hk
  have h1 := h w hw hk
  cases w with
  | fieldLinkNest a i b n d h => exact va_Nw.same rfl hv h1
  | methodLinkNest a i x h => exact va_Nw.same rfl hv h1
  | castable C T => exact va_Nw.same rfl hv h1
  | declares x => exact va_Nw.same rfl hv h1
  | _ => cases hk
theorem hm_Vs.warm {s U : State} (hW : s.WarmedH U.vm) (h : hm_Vs s) : hm_Vs U := by
  obtain ⟨⟨a, h1⟩, ⟨b, h2⟩, ⟨c, h3⟩, h4⟩ := h
  exact ⟨⟨a, h1.warm hW⟩, ⟨b, h2.warm hW⟩, ⟨c, h3.warm hW⟩, h4.moved hW.alike⟩
theorem hm_Vs.same {u U : State} (hv : u.vm = U.vm) (h : hm_Vs u) : hm_Vs U := by
  obtain ⟨⟨a, h1⟩, ⟨b, h2⟩, ⟨c, h3⟩, h4⟩ := h
  exact ⟨⟨a, h1.same hv.symm⟩, ⟨b, h2.same hv.symm⟩, ⟨c, h3.same hv.symm⟩, h4.moved (hv ▸ Vm.Alike.refl u.vm)⟩
theorem hm_inG {y : Nat} {w : Jvm.Cond} (h : hm_wd y w = true) : w ∈ hm_G := by
  simp only [hm_wd, Bool.and_eq_true, decide_eq_true_eq] at h
  exact List.mem_filter.mpr ⟨List.mem_of_getElem? h.1, h.2⟩
theorem hm_inV {y : Nat} {w : Jvm.Cond} (h : hm_wv y w = true) {U : State} (hV : hm_V U) : va_Nw w U := by
  simp only [hm_wv, Bool.and_eq_true, decide_eq_true_eq] at h
  exact hV w (List.mem_of_getElem? h.1) h.2
theorem hm_goodG {ws : List Jvm.Cond} (h : ∀ w ∈ ws, w ∈ hm_G) : GoodIn hm_G ws := fun w hw => ⟨h w hw, good_of_word (List.mem_filter.mp (h w hw)).2⟩
theorem hm_clsOk {c : Nat} (h : c < 11) : hm_cls[c]? = some (hm_cn c, hm_T c, hm_nf c) := by
  have : ∀ c, c < 11 → hm_cls[c]? = some (hm_cn c, hm_T c, hm_nf c) := by
    intro c hc
    rcases (show c = 0 ∨ c = 1 ∨ c = 2 ∨ c = 3 ∨ c = 4 ∨ c = 5 ∨ c = 6 ∨ c = 7 ∨ c = 8 ∨ c = 9 ∨ c = 10 by omega) with rfl | rfl | rfl | rfl | rfl | rfl | rfl | rfl | rfl | rfl | rfl <;> rfl
  exact this c h
def hm_ty (c : Nat) : Nat → FieldType := hm_tys.getD c (fun _ => .int)
/-- what the classes' tables say, decided -/
def hm_ckc (c : Nat) : Bool := (u_ws (hm_cn c) (hm_T c) (hm_nf c)).all (fun w => decide (w ∈ lw_tbl) && goodWord w) &&
  (List.range (hm_nf c)).all (fun k => decide (parseFieldDescriptor (hm_T c k).2.2.1 = some (hm_ty c k)) && (List.range (hm_nf c)).all (fun j => decide (k = j) || decide ((hm_T c k).2.1 ≠ (hm_T c j).2.1)) &&
    (if hm_isR c k then (match hm_ty c k with
      | .object _ => true
      | .array _ => true
      | _ => false) else decide (hm_ty c k = .int)))
set_option maxRecDepth 100000 in
theorem hm_ckcA : (List.range 11).all hm_ckc = true := by decide +kernel
theorem hm_ckc1 {c : Nat} (h : c < 11) : hm_ckc c = true := List.all_eq_true.mp hm_ckcA c (List.mem_range.mpr h)
theorem hm_cIn {c : Nat} (h : c < 11) : ∀ w ∈ u_ws (hm_cn c) (hm_T c) (hm_nf c), w ∈ hm_G := by
  intro w hw
  have h1 := hm_ckc1 h
  simp only [hm_ckc, Bool.and_eq_true] at h1
  have h2 := List.all_eq_true.mp h1.1 w hw
  simp only [Bool.and_eq_true, decide_eq_true_eq] at h2
  exact List.mem_filter.mpr h2
theorem hm_cF {c k : Nat} (h : c < 11) (hk : k < hm_nf c) : parseFieldDescriptor (hm_T c k).2.2.1 = some (hm_ty c k) ∧ (∀ j, j < hm_nf c → k ≠ j → (hm_T c k).2.1 ≠ (hm_T c j).2.1) ∧ (hm_isR c k = false → hm_ty c k = .int) ∧ (hm_isR c k = true → (∃ n, hm_ty c k = .object n) ∨ ∃ n, hm_ty c k = .array n) := by
  have h1 := hm_ckc1 h
  simp only [hm_ckc, Bool.and_eq_true] at h1
  have h2 := List.all_eq_true.mp h1.2 k (List.mem_range.mpr hk)
  simp only [Bool.and_eq_true, decide_eq_true_eq] at h2
  obtain ⟨⟨a1, a2⟩, a3⟩ := h2
  refine ⟨a1, fun j hj hne => ?_, fun hr => ?_, fun hr => ?_⟩
  · have h3 := List.all_eq_true.mp a2 j (List.mem_range.mpr hj)
    simp only [Bool.or_eq_true, decide_eq_true_eq] at h3
    exact h3.resolve_left hne
  · rw [hr] at a3
    simpa using a3
  · rw [hr] at a3
    simp only [if_true] at a3
    split at a3
    · exact Or.inl ⟨_, by assumption⟩
    · exact Or.inr ⟨_, by assumption⟩
    · cases a3
section HL
variable (l : Launch) (D : va_G) (cI : ClassId) (B t0 bs L : Nat) (xs : Nat → Int32)
def hm_Cx (k : Nat) (p : Program) (s : State) (m : MethodId) (args : Array Value) (meth : Method) (c : Code) : Prop :=
  p.tables.exec = Jvm.exec ∧ c.code = hm_cc k ∧ c.maxLocals = hm_mL k ∧ meth.sig.returnType = hm_rt k ∧ s.vm.findClass (hm_own k) = some m.cls ∧ (∀ w ∈ hm_G, w.before args s = true) ∧ meth.locks = false ∧ meth.name = (hm_y k).name ∧ c.exceptionTable.toList = tableOf (hm_hh k)
def hm_C2 (s : State) : Prop := hm_X B t0 bs L xs s s.heap ∧ hm_Y D cI s ∧ hm_V s ∧ hm_Vs s
def hm_Pc (av : List Value) (h : hm_Hp) : Array Value → State → Prop := va_Pc (av.map (hm_tr B t0 bs)) (fun U => hm_W D cI B t0 bs L xs h U.heap ∧ hm_C2 D cI B t0 bs L xs U)
def hm_Qc (Q : hm_Q) : Array Value → State → Outcome → State → Prop := fun _ st oc t => (∃ (r : Option Value) (h' : hm_Hp), oc = .returned (r.map (hm_tr B t0 bs)) ∧ Q (.inr r) h' ∧ hm_W D cI B t0 bs L xs h' t.heap) ∧ va_F (hm_A B) st t
def hm_XC (Q : hm_Q) : String → State → State → Prop := fun E st t => (∃ h' : hm_Hp, Q (.inl E) h' ∧ hm_W D cI B t0 bs L xs h' t.heap) ∧ va_F (hm_A B) st t
def hm_rm (k : Nat) (b : hm_B) : Room := { frames := hm_fr k, cells := b.1, slots := b.2, locals := hm_lo k }
def hm_lm (lv : hm_Lv) : List (Nat × Value) := lv.map (fun q => (q.1, hm_tr B t0 bs q.2))
/-- the machine comes from this place to an end that Q allows -/
def hm_LF : hm_R := fun k pc lv st h b Q => ∀ (p : Program) (e : Env) (s : State) (m : MethodId) (args : Array Value) (below : List Frame) (meth : Method) (c : Code) (H : Heap) (locs : List Loc) (cells slots mc ms : Nat) (ls : Array Slot),
  hm_Cx k p s m args meth c → hm_W D cI B t0 bs L xs h H → hm_C2 D cI B t0 bs L xs s → B + 2 ≤ s.heap.size → va_S (hm_A B) s.heap H locs → lv_has ls (hm_mL k) (hm_lm B t0 bs lv) → cells + b.1 ≤ mc → slots + b.2 ≤ ms →
  W p l e (hm_rm k (mc, ms)) s m args below meth c H locs cells slots (vx_MQ below (hm_Qc D cI B t0 bs L xs Q) (hm_XC D cI B t0 bs L xs Q) args s mc ms (hm_A B)) (F0 m pc ls (st.map (hm_tr B t0 bs)))
end HL
section HL2
variable {D : va_G} {cI : ClassId} {B t0 bs L : Nat} {xs : Nat → Int32}
theorem hm_lget {ls : Array Slot} {n i : Nat} {lv : hm_Lv} {v : Value} (hl : lv_has ls n (hm_lm B t0 bs lv)) (h : hm_get lv i = some v) : ls[i]? = some (.val (hm_tr B t0 bs v)) := by
  have key : ∀ lv : hm_Lv, hm_get lv i = some v → (i, v) ∈ lv := by
    intro lv
    induction lv with
    | nil => intro h; cases h
    | cons q r ih =>
      intro h
      unfold hm_get at h
      split at h
      · rename_i e
        cases h
        rw [← e]
        exact List.mem_cons_self
      · exact List.mem_cons_of_mem _ (ih h)
  exact hl.2.2 (i, hm_tr B t0 bs v) (List.mem_map.mpr ⟨(i, v), key lv h, rfl⟩)
theorem hm_lpos {i : Nat} {lv : hm_Lv} {v : Value} (h : hm_get lv i = some v) : ∃ k : Nat, (hm_lm B t0 bs lv)[k]? = some (i, hm_tr B t0 bs v) := by
  apply List.getElem?_of_mem
  have key : ∀ lv : hm_Lv, hm_get lv i = some v → (i, v) ∈ lv := by
    intro lv
    induction lv with
    | nil => intro h; cases h
    | cons q r ih =>
      intro h
      unfold hm_get at h
      split at h
      · rename_i e
        cases h
        rw [← e]
        exact List.mem_cons_self
      · exact List.mem_cons_of_mem _ (ih h)
  exact List.mem_map.mpr ⟨(i, v), key lv h, rfl⟩
theorem hm_lset1 (lv : hm_Lv) (i : Nat) (v : Value) : (i, hm_tr B t0 bs v) :: (hm_lm B t0 bs lv).filter (fun q => !(q.1 == i) && !(q.1 + 1 == i && q.2.category == 2)) = hm_lm B t0 bs (hm_set1 lv i v) := by
  unfold hm_lm hm_set1
  rw [List.map_cons, List.filter_map]
  congr 2
  apply List.filter_congr
  intro q _
  simp only [Function.comp, hm_tr_cat]
theorem hm_lset2 (lv : hm_Lv) (i : Nat) (v : Value) : (i, hm_tr B t0 bs v) :: (hm_lm B t0 bs lv).filter (fun q => !(q.1 == i) && (!(q.1 == i + 1) && !(q.1 + 1 == i && q.2.category == 2))) = hm_lm B t0 bs (hm_set2 lv i v) := by
  unfold hm_lm hm_set2
  rw [List.map_cons, List.filter_map]
  congr 2
  apply List.filter_congr
  intro q _
  simp only [Function.comp, hm_tr_cat]
theorem hm_cs_tr (st : List Value) : ((st.map (hm_tr B t0 bs)).map fun v => v.category).sum = hm_cs st := by
  unfold hm_cs
  rw [List.map_map]
  congr 1
  apply List.map_congr_left
  intro v _
  exact hm_tr_cat v
theorem hm_largs (vs : List Value) : ∀ n, lv_args n (vs.map (hm_tr B t0 bs)) = hm_lm B t0 bs (lv_args n vs) := by
  induction vs with
  | nil => intro n; rfl
  | cons v r ih =>
    intro n
    simp only [List.map_cons, lv_args, hm_lm, ih, hm_tr_cat]
theorem hm_lsl (vs : List Value) : (lg_sl (vs.map (hm_tr B t0 bs))).length = (lg_sl vs).length := by
  unfold lg_sl
  rw [List.flatMap_map, List.length_flatMap, List.length_flatMap]
  congr 1
  apply List.map_congr_left
  intro a _
  simp only [hm_tr_cat]
  split <;> rfl
theorem hm_Qc_F {Q : hm_Q} {a : Array Value} {st t : State} {o : Outcome} (h : hm_Qc D cI B t0 bs L xs Q a st o t) : va_F (hm_A B) st t := h.2
/-- what holds of a state holds where the heap is H and the tables are warmer -/
theorem hm_C2.to {s U : State} {H : Heap} {locs : List Loc} (h : hm_C2 D cI B t0 bs L xs s) (hS : va_S (hm_A B) s.heap H locs) (hU : U.heap = H) (hW : s.WarmedH U.vm) : hm_C2 D cI B t0 bs L xs U := by
  obtain ⟨⟨z, t1, t2, u1, u2⟩, y, v, vs⟩ := h
  have hq : ∀ a : Nat, a < s.heap.size → ¬ hm_A B a → U.heap[a]? = s.heap[a]? := fun a h1 h2 => by rw [hU]; exact hS.2.1 a h1 h2
  exact ⟨⟨(z.moved hW.alike).kept hq, (t1.moved hW.alike).kept hq, (t2.moved hW.alike).kept hq, (u1.moved hW.alike).kept hq, (u2.moved hW.alike).kept hq⟩, va_K.moved hW.alike y, v.warm hW, vs.warm hW⟩
theorem hm_C2.same {s U : State} (h : hm_C2 D cI B t0 bs L xs s) (hU : U.heap = s.heap) (hv : s.vm = U.vm) : hm_C2 D cI B t0 bs L xs U := by
  obtain ⟨⟨z, t1, t2, u1, u2⟩, y, v, vs⟩ := h
  have ha : s.vm.Alike U.vm := hv ▸ Vm.Alike.refl s.vm
  unfold hm_C2 hm_X
  rw [hU]
  exact ⟨⟨z.moved ha, t1.moved ha, t2.moved ha, u1.moved ha, u2.moved ha⟩, va_K.moved ha y, v.same hv, vs.same hv⟩
theorem hm_blind {av : List Value} {h : hm_Hp} : FrameBlind (hm_Pc D cI B t0 bs L xs av h) := fun a U g mk q => ⟨q.1, q.2.1, q.2.2.same rfl rfl⟩
end HL2
end
section
/-! hm_LF is closed under steps. -/
section HLift
variable {l : Launch} {D : va_G} {cI : ClassId} {B t0 bs L : Nat} {xs : Nat → Int32}
theorem hm_LF_mono {k pc : Nat} {lv : hm_Lv} {st : List Value} {h : hm_Hp} {b : hm_B} {Q Q' : hm_Q} (hq : ∀ o h', Q o h' → Q' o h') (H : hm_LF l D cI B t0 bs L xs k pc lv st h b Q) : hm_LF l D cI B t0 bs L xs k pc lv st h b Q' := by
  intro p e s m args below meth c Hp locs cells slots mc ms ls C hW hC2 hs hS hl hcb hsb T hT X
  obtain ⟨t, a1, o, b1, b2, b3⟩ := H p e s m args below meth c Hp locs cells slots mc ms ls C hW hC2 hs hS hl hcb hsb T hT X
  refine ⟨t, a1, o, b1, b2, ?_⟩
  rcases b3 with ⟨⟨⟨r, h', e1, e2, e3⟩, e4⟩, e5⟩ | ⟨q, e1, E, ce, Lc, ⟨⟨h', f1, f2⟩, f3⟩, f4⟩
  · exact Or.inl ⟨⟨⟨r, h', e1, hq _ _ e2, e3⟩, e4⟩, e5⟩
  · exact Or.inr ⟨q, e1, E, ce, Lc, ⟨⟨h', hq _ _ f1, f2⟩, f3⟩, f4⟩
theorem hm_dcs {k pc : Nat} {i : Instr} {n : Nat} (h : hm_dc k pc i n = true) : decode (hm_cc k) pc = .ok (i, n) := of_decide_eq_true h
theorem hm_fxWi {h : hm_Hp} {a j : Nat} {v : Int32} (ha : 2 ≤ a) (hf : hm_fx L xs h) : hm_fx L xs (hm_wi h a j v) := by
  obtain ⟨f1, f2, f3, f4, f5, f6, f7⟩ := hf
  refine ⟨f1, f2, f3, ?_, f5, f6, ?_⟩
  · show (if 0 = a then _ else h.2.2 0) = _
    rw [if_neg (by omega)]; exact f4
  · show (if 1 = a then _ else h.2.2 1) = _
    rw [if_neg (by omega)]; exact f7
theorem hm_fxWr {h : hm_Hp} {a j : Nat} {r : Option Nat} (ha : 2 ≤ a) (hf : hm_fx L xs h) : hm_fx L xs (hm_wr h a j r) := by
  obtain ⟨f1, f2, f3, f4, f5, f6, f7⟩ := hf
  have e0 : (hm_wr h a j r).2.1 0 = h.2.1 0 := by show (if 0 = a then _ else h.2.1 0) = _; rw [if_neg (by omega)]
  have e1 : (hm_wr h a j r).2.1 1 = h.2.1 1 := by show (if 1 = a then _ else h.2.1 1) = _; rw [if_neg (by omega)]
  exact ⟨f1, by rw [e0]; exact f2, by rw [e0]; exact f3, f4, by rw [e1]; exact f5, by rw [e1]; exact f6, f7⟩
theorem hm_fxMk {h : hm_Hp} {c n : Nat} (hf : hm_fx L xs h) : hm_fx L xs (hm_mk h c n) := by
  obtain ⟨f1, f2, f3, f4, f5, f6, f7⟩ := hf
  have e0 : (hm_mk h c n).2.1 0 = h.2.1 0 := by show (if 0 = h.1 then _ else h.2.1 0) = _; rw [if_neg (by omega)]
  have e1 : (hm_mk h c n).2.1 1 = h.2.1 1 := by show (if 1 = h.1 then _ else h.2.1 1) = _; rw [if_neg (by omega)]
  have g0 : (hm_mk h c n).2.2 0 = h.2.2 0 := by show (if 0 = h.1 then _ else h.2.2 0) = _; rw [if_neg (by omega)]
  have g1 : (hm_mk h c n).2.2 1 = h.2.2 1 := by show (if 1 = h.1 then _ else h.2.2 1) = _; rw [if_neg (by omega)]
  exact ⟨Nat.le_succ_of_le f1, by rw [e0]; exact f2, by rw [e0]; exact f3, by rw [g0]; exact f4, by rw [e1]; exact f5, by rw [e1]; exact f6, by rw [g1]; exact f7⟩
theorem hm_fxUnk {h : hm_Hp} {N : Nat} (hN : h.1 ≤ N) (hf : hm_fx L xs h) : hm_fx L xs (hm_unk h N) := by
  obtain ⟨f1, f2, f3, f4, f5, f6, f7⟩ := hf
  have e0 : (hm_unk h N).2.1 0 = h.2.1 0 := by show (if 0 < h.1 then h.2.1 0 else _) = _; rw [if_pos (by omega)]
  have e1 : (hm_unk h N).2.1 1 = h.2.1 1 := by show (if 1 < h.1 then h.2.1 1 else _) = _; rw [if_pos (by omega)]
  exact ⟨Nat.le_trans f1 hN, by rw [e0]; exact f2, by rw [e0]; exact f3, f4, by rw [e1]; exact f5, by rw [e1]; exact f6, f7⟩
/-- an object of the world -/
theorem hm_gob {h : hm_Hp} {a ci : Nat} (h1 : (h.2.1 a).1 = ci) (hci : ci < 11) (h2 : 2 ≤ a) (h3 : a < h.1) : ∃ q0 : Nat, (hm_ws cI B t0 bs h)[q0]? = some (B + a, (.inr (ci, hm_fs B t0 bs (h.2.1 a) (h.2.2 a)) : va_E)) := by
  obtain ⟨q0, hq⟩ := hm_wget (cI := cI) (B := B) (t0 := t0) (bs := bs) h2 h3 (by rw [h1]; omega)
  refine ⟨q0, ?_⟩
  rw [hq]
  unfold hm_E
  rw [if_neg (by rw [h1]; omega), h1]
/-- a row of the world -/
theorem hm_gar {h : hm_Hp} {a : Nat} (h1 : (h.2.1 a).1 = 1000) (h2 : 2 ≤ a) (h3 : a < h.1) : ∃ q0 : Nat, (hm_ws cI B t0 bs h)[q0]? = some (B + a, (.inl (cI, (h.2.1 a).2.1, .inl (h.2.2 a)) : va_E)) := by
  obtain ⟨q0, hq⟩ := hm_wget (cI := cI) (B := B) (t0 := t0) (bs := bs) h2 h3 (by rw [h1]; omega)
  refine ⟨q0, ?_⟩
  rw [hq]
  unfold hm_E
  rw [if_pos h1]
theorem hm_arrI : Jvm.Cond.arrayClass .int ∈ hm_G := List.mem_filter.mpr ⟨by decide +kernel, rfl⟩
theorem hm_swL (ps : List (Int × Int)) (d pc x : Int) : lookupswitch.offset (ps.map fun o => (o.1, o.2 + pc)) (d + pc) x = lookupswitch.offset ps d x + pc := by
  induction ps with
  | nil => rfl
  | cons q r ih =>
    obtain ⟨a, o⟩ := q
    simp only [List.map_cons, lookupswitch.offset_cons, ih]
    split <;> rfl
end HLift
theorem hm_swP (ps : List (Int × Int)) (d x : Int) (hd : 0 ≤ d) (hp : ∀ o ∈ ps, 0 ≤ o.2) : 0 ≤ lookupswitch.offset ps d x := by
  induction ps with
  | nil => exact hd
  | cons q r ih =>
    obtain ⟨a, o⟩ := q
    rw [lookupswitch.offset_cons]
    split
    · exact hp _ List.mem_cons_self
    · exact ih (fun o ho => hp o (List.mem_cons_of_mem _ ho))
end
section
/-! Calls: from the callee's run to its contract; what comes behind a call. -/
section HCall
variable {l : Launch} {D : va_G} {cI : ClassId} {B t0 bs L : Nat} {xs : Nat → Int32}
theorem hm_hh0 {k : Nat} (h : ¬ k = 195) : tableOf (hm_hh k) = [] := by
  unfold hm_hh
  rw [if_neg h]
  rfl
theorem hm_met {m : Nat} (hpl : plainName (hm_own m) = true) {av : List Value} {h : hm_Hp} {b : hm_B} {Q : hm_Q} (H : hm_LF l D cI B t0 bs L xs m 0 (lv_args 0 av) [] h b Q) (hsl : (lg_sl av).length ≤ hm_mL m) :
    vx_Met l (hm_y m) (hm_wl m) (hm_rm m b) (hm_Pc D cI B t0 bs L xs av h) (hm_Qc D cI B t0 bs L xs Q) (hm_XC D cI B t0 bs L xs Q) b.1 b.2 (hm_A B) := by
  have hle : lv_has ((lg_sl (av.map (hm_tr B t0 bs)) ++ List.replicate (hm_mL m - (lg_sl (av.map (hm_tr B t0 bs))).length) Slot.unset).toArray) (hm_mL m) (hm_lm B t0 bs (lv_args 0 av)) := by
    rw [← hm_largs]
    exact lv_entry _ (by rw [hm_lsl]; exact hsl)
  by_cases hm : m = 195
  · refine vx_ofWH (cc := hm_cc m) (maxL := hm_mL m) (ret := hm_rt m) (hh := hm_hh m) hpl (ws' := hm_G) (by unfold hm_wl hm_cw; rw [if_pos hm]) ?_
    intro p e s m' args below meth c s₁ Bd hml hv
    obtain ⟨rfl, hW, hC2⟩ := hv
    have hts := atoms_spec (ws := hm_wl m) Bd.pre
    have htab : c.exceptionTable.toList = tableOf (hm_hh m) := vx_table (x := hm_y m) Bd (bytes := hm_cc m) (maxL' := hm_mL m) (ret' := hm_rt m) (by have h9 := hts (hm_cw m) List.mem_cons_self; unfold hm_cw at h9; rw [if_pos hm] at h9; exact h9)
    rw [lg_entry_eq]
    exact H p e s m' _ below meth c s.heap [] 0 0 b.1 b.2 _ ⟨Bd.exec, Bd.bytes, hml, Bd.returns, findClass_of_methodNamed Bd.named, fun w hw => hts w (List.mem_cons_of_mem _ hw), Bd.notSynchronized, (name_of_methodNamed Bd.named Bd.method).1, htab⟩ hW hC2 (by rw [hW.2.1]; exact Nat.add_le_add_left hW.1.1 B) va_S.rf hle (by omega) (by omega)
  · refine vx_ofW (cc := hm_cc m) (maxL := hm_mL m) (ret := hm_rt m) hpl (ws' := hm_G) (by unfold hm_wl hm_cw; rw [if_neg hm]) ?_
    intro p e s m' args below meth c s₁ Bd hml htab hv
    obtain ⟨rfl, hW, hC2⟩ := hv
    have hts := atoms_spec (ws := hm_wl m) Bd.pre
    rw [lg_entry_eq]
    exact H p e s m' _ below meth c s.heap [] 0 0 b.1 b.2 _ ⟨Bd.exec, Bd.bytes, hml, Bd.returns, findClass_of_methodNamed Bd.named, fun w hw => hts w (List.mem_cons_of_mem _ hw), Bd.notSynchronized, (name_of_methodNamed Bd.named Bd.method).1, by rw [hm_hh0 hm]; exact List.eq_nil_iff_forall_not_mem.mpr htab⟩ hW hC2 (by rw [hW.2.1]; exact Nat.add_le_add_left hW.1.1 B) va_S.rf hle (by omega) (by omega)
theorem hm_bk (r : Option Value) (rest : List Value) : (r.map (hm_tr B t0 bs)).toList ++ rest.map (hm_tr B t0 bs) = (r.toList ++ rest).map (hm_tr B t0 bs) := by cases r <;> rfl
theorem hm_hasSub {ls : Array Slot} {n : Nat} {l1 l2 : List (Nat × Value)} (h : lv_has ls n l1) (hs : ∀ q ∈ l2, q ∈ l1) : lv_has ls n l2 := ⟨h.1, h.2.1, fun q hq => h.2.2 q (hs q hq)⟩
section
variable {p : Program} {e : Env} {s : State} {m' : MethodId} {args : Array Value} {below : List Frame} {meth : Method} {c : Code} {H : Heap} {locs : List Loc} {cells slots mc ms : Nat} {ls : Array Slot}
theorem hm_behind {k pc : Nat} {lv : hm_Lv} {rest : List Value} {b b1 : hm_B} {Q : hm_Q} (C : hm_Cx k p s m' args meth c) (hC2 : hm_C2 D cI B t0 bs L xs s) (hs : B + 2 ≤ s.heap.size) (hl : lv_has ls (hm_mL k) (hm_lm B t0 bs lv))
    (hcb : cells + b.1 ≤ mc) (hsb : slots + b.2 ≤ ms) (hb1 : b1.1 ≤ b.1) (hb2 : b1.2 ≤ b.2) {v : Option Value} {st t : State} {H1 : Heap} {locs1 : List Loc} (ht : t.heap = H1) {a : Array Value}
    (hq : hm_Qc D cI B t0 bs L xs (hm_K (hm_LF l D cI B t0 bs L xs) k pc lv rest (b.1 - b1.1, b.2 - b1.2) Q) a st (.returned v) t) (hS1 : va_S (hm_A B) s.heap H1 locs1) :
    W p l e (hm_rm k (mc, ms)) s m' args below meth c H1 locs1 (cells + b1.1) (slots + b1.2) (vx_MQ below (hm_Qc D cI B t0 bs L xs Q) (hm_XC D cI B t0 bs L xs Q) args s mc ms (hm_A B)) (F0 m' (pc + 3) ls (v.toList ++ rest.map (hm_tr B t0 bs))) := by
  obtain ⟨⟨r, h', e1, e2, e3⟩, -⟩ := hq
  cases e1
  rw [hm_bk]
  exact e2 p e s m' args below meth c H1 locs1 (cells + b1.1) (slots + b1.2) mc ms ls C (by rw [← ht]; exact e3) hC2 hs hS1 hl (by show _ + (b.1 - b1.1) ≤ _; omega) (by show _ + (b.2 - b1.2) ≤ _; omega)
theorem hm_thrown {k pc : Nat} {lv : hm_Lv} {rest : List Value} {b b1 : hm_B} {Q : hm_Q} (C : hm_Cx k p s m' args meth c) (hC2 : hm_C2 D cI B t0 bs L xs s) (hs : B + 2 ≤ s.heap.size) (hl : lv_has ls (hm_mL k) (hm_lm B t0 bs lv))
    (hcb : cells + b.1 ≤ mc) (hsb : slots + b.2 ≤ ms) (hb1 : b1.1 ≤ b.1) (hb2 : b1.2 ≤ b.2) {E : String} {ce : Cell} {q9 : Addr} {st t : State} {H1 : Heap} {locs1 : List Loc} (ht : t.heap = H1)
    (hx : hm_XC D cI B t0 bs L xs (hm_K (hm_LF l D cI B t0 bs L xs) k pc lv rest (b.1 - b1.1, b.2 - b1.2) Q) E st t) (hS1 : va_S (hm_A B) s.heap H1 locs1) (hce : H1[q9]? = some ce) (hcv : ce.vm = .none) (hcl : s.vm.findClass E = some ce.cls) :
    vx_W p l e (hm_rm k (mc, ms)) s m' args below meth c H1 locs1 (cells + b1.1) (slots + b1.2) (vx_MQ below (hm_Qc D cI B t0 bs L xs Q) (hm_XC D cI B t0 bs L xs Q) args s mc ms (hm_A B)) (F0 m' pc ls (rest.map (hm_tr B t0 bs))) q9 := by
  obtain ⟨⟨h', e2, e3⟩, -⟩ := hx
  have C0 := C
  obtain ⟨hx, hb, hml, hr, hown, hts, hlocks, hnm, hex⟩ := C
  unfold hm_K at e2
  dsimp only at e2
  by_cases hk : k = 195
  · subst hk
    rw [if_pos rfl] at e2
    obtain ⟨p1, p2, e2⟩ := e2
    have htab : c.exceptionTable.toList = [⟨26, 214, 217, 70⟩, ⟨26, 214, 220, 72⟩] := hex
    have go : ∀ (hp tg : Nat), decode (hm_cc 195) hp = .ok (.astore 7, 2) → tg = hp + 2 → hm_LF l D cI B t0 bs L xs 195 tg (lv.filter (fun q => !(q.1 == 7) && !(q.1 + 1 == 7 && q.2.category == 2))) [] h' (b.1 - b1.1, b.2 - b1.2) Q →
        W p l e (hm_rm 195 (mc, ms)) s m' args below meth c H1 locs1 (cells + b1.1) (slots + b1.2) (vx_MQ below (hm_Qc D cI B t0 bs L xs Q) (hm_XC D cI B t0 bs L xs Q) args s mc ms (hm_A B)) (F0 m' hp ls [.ref q9]) := by
      intro hp tg hd htg F
      subst htg
      refine lv_astore hx hb hd hl (by decide +kernel) rfl (fun ls' hl' => ?_)
      refine F p e s m' args below meth c H1 locs1 (cells + b1.1) (slots + b1.2) mc ms ls' C0 (by rw [← ht]; exact e3) hC2 hs hS1 (hm_hasSub hl' ?_) (by show _ + (b.1 - b1.1) ≤ _; omega) (by show _ + (b.2 - b1.2) ≤ _; omega)
      intro q hq
      obtain ⟨w, hw, rfl⟩ := List.mem_map.mp hq
      obtain ⟨w1, w2⟩ := List.mem_filter.mp hw
      refine List.mem_cons_of_mem _ (List.mem_filter.mpr ⟨List.mem_map.mpr ⟨w, w1, rfl⟩, ?_⟩)
      dsimp only
      rw [hm_tr_cat]
      exact w2
    have hv := hC2.2.2.1
    have cst : ∀ (y : Nat) (E9 : String), hm_wv y (.castable E9 E9) = true → (Cond.castable E9 E9).before args s = true := fun y E9 h9 => va_Nw.use rfl (hm_inV h9 hv)
    rcases e2 with ⟨rfl, F⟩ | ⟨rfl, F⟩
    · exact vx_catch hown [] ⟨26, 214, 217, 70⟩ [⟨26, 214, 220, 72⟩] htab (fun z hz => by cases hz) (by simp [covers]; omega) (by decide) (name := "java/lang/IndexOutOfBoundsException") (hts _ (hm_inG (y := 614) (by decide +kernel))) (cst 756 _ (by decide +kernel)) hce hcv hcl (go 217 219 (by decide +kernel) rfl F)
    · refine vx_catch hown [⟨26, 214, 217, 70⟩] ⟨26, 214, 220, 72⟩ [] htab (fun z hz => ?_) (by simp [covers]; omega) (by decide) (name := "java/lang/IllegalStateException") (hts _ (hm_inG (y := 615) (by decide +kernel))) (cst 640 _ (by decide +kernel)) hce hcv hcl (go 220 222 (by decide +kernel) rfl F)
      cases hz with
      | head => exact Or.inr ⟨by decide, "java/lang/IndexOutOfBoundsException", hts _ (hm_inG (y := 614) (by decide +kernel)), hC2.2.2.2.2.2.2⟩
      | tail _ hz => cases hz
  · rw [if_neg hk] at e2
    rw [hm_hh0 hk] at hex
    exact vx_out (fun x hx => by rw [hex] at hx; cases hx) hlocks hce hcv hcl (fun t' h1 _ => ⟨⟨h', e2, by rw [h1, ← ht]; exact e3⟩, hS1.F h1⟩) hS1.2.2 (by omega) (by omega)
end
end HCall
end
section
/-! The calls and the throws, as steps. -/
theorem hm_obj1 : Jvm.Cond.instanceMethod Lib.objectInit ∈ hm_G := hm_inG (y := 70) (by decide +kernel)
theorem hm_obj2 : Jvm.Cond.code Lib.objectInit ⟨#[0xb1]⟩ 1 none ∈ hm_G := hm_inG (y := 71) (by decide +kernel)
theorem hm_mathI : Jvm.Cond.initialized "java/lang/Math" ∈ hm_G := hm_inG (y := 49) (by decide +kernel)
theorem hm_max1 : Jvm.Cond.static Lib.Math.max.name ∈ hm_G := hm_inG (y := 151) (by decide +kernel)
theorem hm_max2 : Jvm.Cond.code Lib.Math.max.name Lib.Math.max.code 2 (some .int) ∈ hm_G := hm_inG (y := 152) (by decide +kernel)
theorem hm_min1 : Jvm.Cond.static Lib.Math.min.name ∈ hm_G := hm_inG (y := 843) (by decide +kernel)
theorem hm_min2 : Jvm.Cond.code Lib.Math.min.name Lib.Math.min.code 2 (some .int) ∈ hm_G := hm_inG (y := 844) (by decide +kernel)
theorem hm_abs1 : Jvm.Cond.static Lib.Math.abs.name ∈ hm_G := hm_inG (y := 136) (by decide +kernel)
theorem hm_abs2 : Jvm.Cond.code Lib.Math.abs.name Lib.Math.abs.code 1 (some .int) ∈ hm_G := hm_inG (y := 137) (by decide +kernel)
theorem hm_cmS {k m z : Nat} (h : hm_cm k m z = true) : z / 128 % 64 = hm_na m ∧ z % 128 = hm_cx m ∧ z / 8192 = hm_mL m ∧ hm_cw m ∈ hm_G ∧ Jvm.Cond.initialized (hm_own m) ∈ hm_G ∧
    (hm_own m ≠ "java/lang/invoke/MethodHandle" ∧ hm_own m ≠ "java/lang/invoke/VarHandle" ∧ (parseMethodDescriptor (hm_y m).desc).map (fun d => d.parameters.length) = some (hm_na m)) ∧ (hm_fr m + 1 ≤ hm_fr k ∧ 8 + (hm_mL m + 11) + hm_lo m ≤ hm_lo k) ∧ plainName (hm_own m) = true := by
  simp only [hm_cm, Bool.and_eq_true, decide_eq_true_eq] at h
  obtain ⟨⟨⟨⟨⟨⟨⟨h1, h2⟩, h3⟩, h4⟩, h5⟩, h6⟩, h7⟩, h8⟩ := h
  exact ⟨by omega, by omega, by omega, hm_inG h4, hm_inG h5, ⟨h6.1.1, h6.1.2, h6.2⟩, h7, h8⟩
theorem hm_wlG {m : Nat} (h : hm_cw m ∈ hm_G) : ∀ w ∈ hm_wl m, w ∈ hm_G := fun w hw => (List.mem_cons.mp hw).elim (fun e => by rw [e]; exact h) id
section HGo
variable {l : Launch} {D : va_G} {cI : ClassId} {B t0 bs L : Nat} {xs : Nat → Int32}
variable {p : Program} {e : Env} {s : State} {m' : MethodId} {args : Array Value} {below : List Frame} {meth : Method} {c : Code} {H : Heap} {locs : List Loc} {cells slots mc ms : Nat} {ls : Array Slot}
variable {k pc m z x y : Nat} {lv : hm_Lv} {st : List Value} {h : hm_Hp} {b : hm_B} {Q : hm_Q}
theorem hm_behindN {rest : List Value} {b1 : hm_B} (C : hm_Cx k p s m' args meth c) (hC2 : hm_C2 D cI B t0 bs L xs s) (hs : B + 2 ≤ s.heap.size) (hl : lv_has ls (hm_mL k) (hm_lm B t0 bs lv))
    (hcb : cells + b.1 ≤ mc) (hsb : slots + b.2 ≤ ms) (hb1 : b1.1 ≤ b.1) (hb2 : b1.2 ≤ b.2) {v : Option Value} {st' t : State} {H1 : Heap} {locs1 : List Loc} (ht : t.heap = H1) {a : Array Value}
    (hq : hm_Qc D cI B t0 bs L xs (hm_KN (hm_LF l D cI B t0 bs L xs) k pc lv rest (b.1 - b1.1, b.2 - b1.2) Q) a st' (.returned v) t) (hS1 : va_S (hm_A B) s.heap H1 locs1) :
    W p l e (hm_rm k (mc, ms)) s m' args below meth c H1 locs1 (cells + b1.1) (slots + b1.2) (vx_MQ below (hm_Qc D cI B t0 bs L xs Q) (hm_XC D cI B t0 bs L xs Q) args s mc ms (hm_A B)) (F0 m' (pc + 3) ls (v.toList ++ rest.map (hm_tr B t0 bs))) := by
  obtain ⟨⟨r, h', e1, e2, e3⟩, -⟩ := hq
  cases e1
  rw [hm_bk]
  exact e2 p e s m' args below meth c H1 locs1 (cells + b1.1) (slots + b1.2) mc ms ls C (by rw [← ht]; exact e3) hC2 hs hS1 hl (by show _ + (b.1 - b1.1) ≤ _; omega) (by show _ + (b.2 - b1.2) ≤ _; omega)
theorem hm_split {n : Nat} {v : Value} {rest : List Value} (h : st.drop n = v :: rest) : st.map (hm_tr B t0 bs) = (((st.take n).reverse).map (hm_tr B t0 bs)).reverse ++ hm_tr B t0 bs v :: rest.map (hm_tr B t0 bs) := by
  have h1 : st = st.take n ++ (v :: rest) := by rw [← h]; exact (List.take_append_drop n st).symm
  conv => lhs; rw [h1]
  simp
theorem hm_split0 {n : Nat} : st.map (hm_tr B t0 bs) = (((st.take n).reverse).map (hm_tr B t0 bs)).reverse ++ (st.drop n).map (hm_tr B t0 bs) := by
  conv => lhs; rw [← List.take_append_drop n st]
  simp
theorem hm_rmW {r : List Value} (h : hm_cs r ≤ 8) : ((r.map (hm_tr B t0 bs)).map fun v => v.category).sum ≤ 8 := by rw [hm_cs_tr]; exact h
theorem hm_goV (C0 : hm_Cx k p s m' args meth c) (hW : hm_W D cI B t0 bs L xs h H) (hC2 : hm_C2 D cI B t0 bs L xs s) (hsz : B + 2 ≤ s.heap.size) (hS : va_S (hm_A B) s.heap H locs) (hl : lv_has ls (hm_mL k) (hm_lm B t0 bs lv)) (hcb : cells + b.1 ≤ mc) (hsb : slots + b.2 ≤ ms)
    (hd : decode (hm_cc k) pc = .ok (.invokevirtual x, 3)) (hcm : hm_cm k m z = true) (hcx : hm_cx m < 11) (hcn : hm_own m = hm_cn (hm_cx m)) (hm195 : m ≠ 195) (w1 : hm_wd y (.methodLink (hm_own k) x (hm_y m)) = true) (w2 : hm_wd (hm_pI m) (.instanceMethod (hm_y m)) = true) (w3 : hm_wd (hm_pS m) (.selects (hm_own m) (hm_y m) (hm_y m)) = true)
    (hs : hm_CallV (hm_LF l D cI B t0 bs L xs) k pc m z lv st h b Q) :
    W p l e (hm_rm k (mc, ms)) s m' args below meth c H locs cells slots (vx_MQ below (hm_Qc D cI B t0 bs L xs Q) (hm_XC D cI B t0 bs L xs Q) args s mc ms (hm_A B)) (F0 m' pc ls (st.map (hm_tr B t0 bs))) := by
  obtain ⟨n1, n2, n3, g1, g2, g3, g4, g5⟩ := hm_cmS hcm
  obtain ⟨hx, hb, hml, hr, hown, hts, hlocks, hnm, hex⟩ := id C0
  unfold hm_CallV at hs
  rw [n1, n2] at hs
  obtain ⟨hlen, hs⟩ := hs
  split at hs
  · rename_i a rest hdrop
    obtain ⟨k1, k2, k3, h8, hsl, c1, hc1, hc2, F⟩ := hs
    obtain ⟨q0, hq⟩ := hm_gob (cI := cI) (B := B) (t0 := t0) (bs := bs) k1 hcx k2 k3
    have hM := hm_met g5 F (by rw [← n3]; exact hsl)
    rw [hm_split (B := B) (t0 := t0) (bs := bs) hdrop, show hm_tr B t0 bs (.ref a) = .ref (B + a) from congrArg Value.ref (hm_ad2 k2)]
    have hrun := vx_runV (p := p) (e := e) (R := hm_rm k (mc, ms)) (m := m') (args := args) (below := below) (meth := meth) (c := c) (H := H) (locs := locs) (cells := cells) (slots := slots) (own := hm_own k) (index := x) (C := hm_own m) (b := B + a) (bytes := hm_cc m) (maxL := hm_mL m) (ret := hm_rt m) (n := hm_na m) (nL := hm_mL k) (cc := hm_cc k) (Ts := hm_G)
      (As := ((st.take (hm_na m)).reverse).map (hm_tr B t0 bs)) (rest := rest.map (hm_tr B t0 bs)) (g := F0 m' pc ls ((((st.take (hm_na m)).reverse).map (hm_tr B t0 bs)).reverse ++ .ref (B + a) :: rest.map (hm_tr B t0 bs))) ⟨hx, hb, hml, hown, hts⟩ hM
      (cwV (ws' := hm_G) (hm_na m) hts (hm_goodG fun w hw => by
        rcases List.mem_append.mp hw with hw | hw
        · simp only [List.mem_cons, List.not_mem_nil, or_false] at hw
          rcases hw with rfl | rfl | rfl | rfl
          · exact hm_inG w1
          · exact hm_inG w2
          · exact hm_inG w3
          · exact g2
        · exact hm_wlG g1 w hw) (by unfold hm_wl hm_cw; rw [if_neg hm195]) rfl rfl ⟨rfl, g3⟩ g4)
      ⟨hm_blind, by rw [hcn]; exact va_recv (q := (hm_cn (hm_cx m), hm_T (hm_cx m), hm_nf (hm_cx m))) hC2.2.1 hW.2.2.1 (hm_clsOk hcx) hq, fun U hU hWm => ⟨by rw [List.map_cons, show hm_tr B t0 bs (.ref a) = .ref (B + a) from congrArg Value.ref (hm_ad2 k2)], by rw [hU]; exact hW, hC2.to hS hU hWm⟩⟩
      rfl (by simp; omega) hl.1 rfl (lv_room (hm_rmW h8)) hd ⟨by show _ ≤ mc; omega, by show _ ≤ ms; omega⟩
    exact hm_call hrun hS (fun _ _ _ h => h.2) (fun _ _ _ h => h.2) (fun v st' t H1 locs1 ht hq hS1 => hm_behind C0 hC2 hsz hl hcb hsb hc1 hc2 ht hq hS1) (fun E ce q9 st' t H1 locs1 ht hx hS1 hce hcv hcl => hm_thrown C0 hC2 hsz hl hcb hsb hc1 hc2 ht hx hS1 hce hcv hcl)
  · exact hs.elim
theorem hm_goI {n : Nat} (C0 : hm_Cx k p s m' args meth c) (hW : hm_W D cI B t0 bs L xs h H) (hC2 : hm_C2 D cI B t0 bs L xs s) (hsz : B + 2 ≤ s.heap.size) (hS : va_S (hm_A B) s.heap H locs) (hl : lv_has ls (hm_mL k) (hm_lm B t0 bs lv)) (hcb : cells + b.1 ≤ mc) (hsb : slots + b.2 ≤ ms)
    (hd : decode (hm_cc k) pc = .ok (.invokespecial x, 3)) (hcm : hm_cm k m z = true) (hcx : hm_cx m < 11) (hm195 : m ≠ 195) (hin : (hm_y m).name = "<init>") (hrt : hm_rt m = none)
    (w1 : (if n = 7 then hm_wv y (.methodLinkNest (hm_own k) x (hm_y m) "CurvekeyHouse") else hm_wd y (.methodLink (hm_own k) x (hm_y m))) = true) (w2 : hm_wd (hm_pI m) (.instanceMethod (hm_y m)) = true)
    (hs : hm_CallI (hm_LF l D cI B t0 bs L xs) k pc m z lv st h b Q) :
    W p l e (hm_rm k (mc, ms)) s m' args below meth c H locs cells slots (vx_MQ below (hm_Qc D cI B t0 bs L xs Q) (hm_XC D cI B t0 bs L xs Q) args s mc ms (hm_A B)) (F0 m' pc ls (st.map (hm_tr B t0 bs))) := by
  obtain ⟨n1, n2, n3, g1, g2, g3, g4, g5⟩ := hm_cmS hcm
  obtain ⟨hx, hb, hml, hr, hown, hts, hlocks, hnm, hex⟩ := id C0
  unfold hm_CallI at hs
  rw [n1] at hs
  obtain ⟨hlen, hs⟩ := hs
  split at hs
  · rename_i a rest hdrop
    obtain ⟨k2, h8, hsl, c1, hc1, hc2, F⟩ := hs
    have hM := hm_noX (hm_met g5 F (by rw [← n3]; exact hsl)) (fun E st' t hX => by obtain ⟨⟨h', e1, -⟩, -⟩ := hX; exact e1)
    rw [hm_split (B := B) (t0 := t0) (bs := bs) hdrop, show hm_tr B t0 bs (.ref a) = .ref (B + a) from congrArg Value.ref (hm_ad2 k2)]
    have hG : GoodIn hm_G (hm_wl m) := hm_goodG (hm_wlG g1)
    have hwl : hm_wl m = Cond.code (hm_y m) (hm_cc m) (hm_mL m) none :: hm_G := by unfold hm_wl hm_cw; rw [if_neg hm195, hrt]
    have hpre : PreS s H (hm_Pc D cI B t0 bs L xs (.ref a :: (st.take (hm_na m)).reverse) h) (.ref (B + a) :: ((st.take (hm_na m)).reverse).map (hm_tr B t0 bs)) :=
      ⟨hm_blind, fun U hU hWm => ⟨by rw [List.map_cons, show hm_tr B t0 bs (.ref a) = .ref (B + a) from congrArg Value.ref (hm_ad2 k2)], by rw [hU]; exact hW, hC2.to hS hU hWm⟩⟩
    have hrun : va_Run p l e (hm_rm k (mc, ms)) s m' args below meth c H locs cells slots c1.1 c1.2 (F0 m' pc ls ((((st.take (hm_na m)).reverse).map (hm_tr B t0 bs)).reverse ++ .ref (B + a) :: rest.map (hm_tr B t0 bs))) (rest.map (hm_tr B t0 bs)) (hm_Qc D cI B t0 bs L xs (hm_KN (hm_LF l D cI B t0 bs L xs) k pc lv rest (b.1 - c1.1, b.2 - c1.2) Q) (Value.ref (B + a) :: ((st.take (hm_na m)).reverse).map (hm_tr B t0 bs)).toArray) (hm_A B) := by
      by_cases hn : n = 7
      · rw [if_pos hn] at w1
        exact va_runIN (Ts := hm_G) (n := hm_na m) (nL := hm_mL k) (cc := hm_cc k) (own := hm_own k) (index := x) (host := "CurvekeyHouse") (bytes := hm_cc m) (maxL := hm_mL m) ⟨hx, hb, hml, hown, hts⟩ hM ⟨va_cnB (ws' := hm_G) (hm_na m) hts hG hwl rfl rfl (hm_inV w1 hC2.2.2.1) (hts _ g2) g3 g4, hin, hts _ (hm_inG w2)⟩ hpre rfl (by simp; omega) hl.1 rfl (lv_room (hm_rmW h8)) hd ⟨by show _ ≤ mc; omega, by show _ ≤ ms; omega⟩
      · rw [if_neg hn] at w1
        exact va_runI (Ts := hm_G) (n := hm_na m) (nL := hm_mL k) (cc := hm_cc k) (own := hm_own k) (index := x) (bytes := hm_cc m) (maxL := hm_mL m) ⟨hx, hb, hml, hown, hts⟩ hM (cwI (ws' := hm_G) (hm_na m) hts hG hwl rfl rfl (hts _ g2) (hts _ (hm_inG w1)) (hts _ (hm_inG w2)) hin g3 g4) hpre rfl (by simp; omega) hl.1 rfl (lv_room (hm_rmW h8)) hd ⟨by show _ ≤ mc; omega, by show _ ≤ ms; omega⟩
    exact hm_callN hrun hS (fun _ _ _ h => h.2) (fun v st' t H1 locs1 ht hq hS1 => hm_behindN C0 hC2 hsz hl hcb hsb hc1 hc2 ht hq hS1)
  · exact hs.elim
theorem hm_goS (C0 : hm_Cx k p s m' args meth c) (hW : hm_W D cI B t0 bs L xs h H) (hC2 : hm_C2 D cI B t0 bs L xs s) (hsz : B + 2 ≤ s.heap.size) (hS : va_S (hm_A B) s.heap H locs) (hl : lv_has ls (hm_mL k) (hm_lm B t0 bs lv)) (hcb : cells + b.1 ≤ mc) (hsb : slots + b.2 ≤ ms)
    (hd : decode (hm_cc k) pc = .ok (.invokestatic x, 3)) (hcm : hm_cm k m z = true) (w1 : hm_wd y (.methodLink (hm_own k) x (hm_y m)) = true) (w2 : hm_wd (hm_pI m) (.static (hm_y m)) = true)
    (hs : hm_CallS (hm_LF l D cI B t0 bs L xs) k pc m z lv st h b Q) :
    W p l e (hm_rm k (mc, ms)) s m' args below meth c H locs cells slots (vx_MQ below (hm_Qc D cI B t0 bs L xs Q) (hm_XC D cI B t0 bs L xs Q) args s mc ms (hm_A B)) (F0 m' pc ls (st.map (hm_tr B t0 bs))) := by
  obtain ⟨n1, n2, n3, g1, g2, g3, g4, g5⟩ := hm_cmS hcm
  obtain ⟨hx, hb, hml, hr, hown, hts, hlocks, hnm, hex⟩ := id C0
  unfold hm_CallS at hs
  rw [n1] at hs
  obtain ⟨hlen, h8, hsl, c1, hc1, hc2, F⟩ := hs
  have hM := hm_met g5 F (by rw [← n3]; exact hsl)
  rw [hm_split0 (B := B) (t0 := t0) (bs := bs) (st := st) (n := hm_na m)]
  have hpre : PreS s H (hm_Pc D cI B t0 bs L xs (st.take (hm_na m)).reverse h) (((st.take (hm_na m)).reverse).map (hm_tr B t0 bs)) :=
    ⟨hm_blind, fun U hU hWm => ⟨rfl, by rw [hU]; exact hW, hC2.to hS hU hWm⟩⟩
  have hrun : vx_Run p l e (hm_rm k (mc, ms)) s m' args below meth c H locs cells slots c1.1 c1.2 (F0 m' pc ls ((((st.take (hm_na m)).reverse).map (hm_tr B t0 bs)).reverse ++ (st.drop (hm_na m)).map (hm_tr B t0 bs))) ((st.drop (hm_na m)).map (hm_tr B t0 bs)) (hm_Qc D cI B t0 bs L xs (hm_K (hm_LF l D cI B t0 bs L xs) k pc lv (st.drop (hm_na m)) (b.1 - c1.1, b.2 - c1.2) Q) (((st.take (hm_na m)).reverse).map (hm_tr B t0 bs)).toArray) (hm_XC D cI B t0 bs L xs (hm_K (hm_LF l D cI B t0 bs L xs) k pc lv (st.drop (hm_na m)) (b.1 - c1.1, b.2 - c1.2) Q)) (hm_A B) := by
    by_cases hm : m = 195
    · exact vx_runSX (hh := hm_hh m) (Ts := hm_G) (n := hm_na m) (nL := hm_mL k) (cc := hm_cc k) (own := hm_own k) (index := x) (bytes := hm_cc m) (maxL := hm_mL m) (ret := hm_rt m) ⟨hx, hb, hml, hown, hts⟩ hM
        (vx_cwSW (ws' := hm_G) (hm_na m) hts (hm_goodG fun w hw => by
          rcases List.mem_append.mp hw with hw | hw
          · simp only [List.mem_cons, List.not_mem_nil, or_false] at hw
            rcases hw with rfl | rfl | rfl
            · exact hm_inG w1
            · exact hm_inG w2
            · exact g2
          · exact hm_wlG g1 w hw) (by unfold hm_wl hm_cw; rw [if_pos hm]) rfl rfl g3 g4) hpre rfl (by simp; omega) hl.1 rfl (lv_room (hm_rmW h8)) hd ⟨by show _ ≤ mc; omega, by show _ ≤ ms; omega⟩
    · exact vx_runS (Ts := hm_G) (n := hm_na m) (nL := hm_mL k) (cc := hm_cc k) (own := hm_own k) (index := x) (bytes := hm_cc m) (maxL := hm_mL m) (ret := hm_rt m) ⟨hx, hb, hml, hown, hts⟩ hM
        ⟨callB_of (ws' := hm_G) (hm_na m) hts (hm_goodG (hm_wlG g1)) (by unfold hm_wl hm_cw; rw [if_neg hm]) rfl rfl (hts _ g2) (hts _ (hm_inG w1)) g3 g4, hts _ (hm_inG w2)⟩ hpre rfl (by simp; omega) hl.1 rfl (lv_room (hm_rmW h8)) hd ⟨by show _ ≤ mc; omega, by show _ ≤ ms; omega⟩
  exact hm_call hrun hS (fun _ _ _ h => h.2) (fun _ _ _ h => h.2) (fun v st' t H1 locs1 ht hq hS1 => hm_behind C0 hC2 hsz hl hcb hsb hc1 hc2 ht hq hS1) (fun E ce q9 st' t H1 locs1 ht hx hS1 hce hcv hcl => hm_thrown C0 hC2 hsz hl hcb hsb hc1 hc2 ht hx hS1 hce hcv hcl)
theorem hm_V.word (hV : hm_V s) {w : Jvm.Cond} (hw : w ∈ lw_tbl.filter hm_vk) : w.before args s = true := by
  obtain ⟨h1, h2⟩ := List.mem_filter.mp hw
  have h3 := hV w h1 h2
  cases w with
  | fieldLinkNest a i b n d h => exact va_Nw.use rfl h3
  | methodLinkNest a i x h => exact va_Nw.use rfl h3
  | castable C T => exact va_Nw.use rfl h3
  | declares x => exact va_Nw.use rfl h3
  | _ => cases h2
theorem hm_goX (hfl : l.stackTraces = false) (C0 : hm_Cx k p s m' args meth c) (hW : hm_W D cI B t0 bs L xs h H) (hC2 : hm_C2 D cI B t0 bs L xs s) (hsz : B + 2 ≤ s.heap.size) (hS : va_S (hm_A B) s.heap H locs) (hl : lv_has ls (hm_mL k) (hm_lm B t0 bs lv)) (hcb : cells + b.1 ≤ mc) (hsb : slots + b.2 ≤ ms)
    (hc : hm_ck k pc .athrow 0 x y z = true) (b1 : 1 ≤ b.1) (b2 : 6 ≤ b.2) (hq : ∀ N : Nat, h.1 ≤ N → Q (.inl (hm_xn x)) (hm_unk h N)) :
    W p l e (hm_rm k (mc, ms)) s m' args below meth c H locs cells slots (vx_MQ below (hm_Qc D cI B t0 bs L xs Q) (hm_XC D cI B t0 bs L xs Q) args s mc ms (hm_A B)) (F0 m' pc ls []) := by
  obtain ⟨hx, hb, hml, hr, hown, hts, hlocks, hnm, hex⟩ := C0
  have key : ∀ t : State, s.vm.Alike t.vm → H.size ≤ t.heap.size → (∀ q : Nat, q < H.size → t.heap[q]? = H[q]?) → hm_XC D cI B t0 bs L xs Q (hm_xn x) s t := by
    intro t _ hz hk
    obtain ⟨w1, w2, w3, w4⟩ := hW
    have hN : h.1 ≤ t.heap.size - B := by omega
    refine ⟨⟨hm_unk h (t.heap.size - B), hq _ hN, hm_fxUnk hN w1, by show _ = B + (t.heap.size - B); omega, ?_, ?_⟩, Nat.le_trans hS.1 hz, fun q h1 h2 => (hk q (Nat.lt_of_lt_of_le h1 hS.1)).trans (hS.2.1 q h1 h2)⟩
    · rw [hm_wunk hN]
      exact w3.kept (fun j q hj => hk q.1 ((w3 j q hj).lt))
    · rw [hm_wunk hN]
      exact w4
  simp only [hm_ck, Bool.and_eq_true, Bool.or_eq_true, decide_eq_true_eq] at hc
  obtain ⟨rfl, hc⟩ := hc
  obtain ⟨v1, v2, v3, -⟩ := hC2.2.2.2
  have hG9 : ∀ (ws : List Jvm.Cond), (∀ w ∈ ws.filter goodWord, w ∈ lw_tbl) → ∀ w ∈ ws.filter goodWord, w.before args s = true := fun ws h9 w hw => hts w (List.mem_filter.mpr ⟨h9 w hw, (List.mem_filter.mp hw).2⟩)
  rcases hc with (⟨rfl, rfl⟩ | ⟨rfl, rfl⟩) | ⟨rfl, rfl⟩
  · obtain ⟨sa, v1⟩ := v1
    refine vx_throwSW (own := "CurvekeyHouse") (cls := "java/lang/IllegalArgumentException") (names := ["java/lang/RuntimeException", "java/lang/Exception"]) (ik := 408) (is := 410) (ic := 412) hx hb hfl hown (by decide +kernel) (by decide +kernel) (hts _ (hm_inG (y := 418) (by decide +kernel))) (hts _ (hm_inG (y := 60) (by decide +kernel))) v1
      (vx_hat (hG9 _ (by decide +kernel)) (B := lw_tbl.filter hm_vk) (by decide +kernel) (fun w hw => hC2.2.2.1.word hw)) (by decide +kernel) hC2.1.2.2.2.1 hC2.1.2.2.2.2 hS (hl.1.trans hml.symm) (by decide +kernel) (by decide +kernel) (by decide +kernel) (by decide +kernel) (by decide +kernel) ?_ (show 5 < hm_fr 31 by decide +kernel) (show 82 ≤ hm_lo 31 by decide +kernel) ?_ ?_ hlocks key hS.2.2 (by omega) (by omega)
    · rw [hex, hm_hh0 (by decide)]
      intro x hx
      cases hx
    · show _ ≤ mc; omega
    · show _ ≤ ms; omega
  · obtain ⟨sa, v2⟩ := v2
    refine vx_throwSW (own := "CurvekeyHouse") (cls := "java/lang/IllegalStateException") (names := ["java/lang/RuntimeException", "java/lang/Exception"]) (ik := 415) (is := 417) (ic := 419) hx hb hfl hown (by decide +kernel) (by decide +kernel) (hts _ (hm_inG (y := 638) (by decide +kernel))) (hts _ (hm_inG (y := 61) (by decide +kernel))) v2
      (vx_hat (hG9 _ (by decide +kernel)) (B := lw_tbl.filter hm_vk) (by decide +kernel) (fun w hw => hC2.2.2.1.word hw)) (by decide +kernel) hC2.1.2.2.2.1 hC2.1.2.2.2.2 hS (hl.1.trans hml.symm) (by decide +kernel) (by decide +kernel) (by decide +kernel) (by decide +kernel) (by decide +kernel) ?_ (show 5 < hm_fr 32 by decide +kernel) (show 82 ≤ hm_lo 32 by decide +kernel) ?_ ?_ hlocks key hS.2.2 (by omega) (by omega)
    · rw [hex, hm_hh0 (by decide)]
      intro x hx
      cases hx
    · show _ ≤ mc; omega
    · show _ ≤ ms; omega
  · obtain ⟨sa, v3⟩ := v3
    refine vx_throwSW (own := "CurvekeyHouse") (cls := "java/lang/IndexOutOfBoundsException") (names := ["java/lang/RuntimeException", "java/lang/Exception"]) (ik := 420) (is := 422) (ic := 424) hx hb hfl hown (by decide +kernel) (by decide +kernel) (hts _ (hm_inG (y := 754) (by decide +kernel))) (hts _ (hm_inG (y := 62) (by decide +kernel))) v3
      (vx_hat (hG9 _ (by decide +kernel)) (B := lw_tbl.filter hm_vk) (by decide +kernel) (fun w hw => hC2.2.2.1.word hw)) (by decide +kernel) hC2.1.2.2.2.1 hC2.1.2.2.2.2 hS (hl.1.trans hml.symm) (by decide +kernel) (by decide +kernel) (by decide +kernel) (by decide +kernel) (by decide +kernel) ?_ (show 5 < hm_fr 33 by decide +kernel) (show 82 ≤ hm_lo 33 by decide +kernel) ?_ ?_ hlocks key hS.2.2 (by omega) (by omega)
    · rw [hex, hm_hh0 (by decide)]
      intro x hx
      cases hx
    · show _ ≤ mc; omega
    · show _ ≤ ms; omega
end HGo
end
section
/-! hm_LF is closed under steps: the cases. -/
section HStep
variable {l : Launch} {D : va_G} {cI : ClassId} {B t0 bs L : Nat} {xs : Nat → Int32}
set_option maxHeartbeats 4000000 in
set_option maxRecDepth 20000 in
theorem hm_LF_step (hfl : l.stackTraces = false) {k pc : Nat} {lv : hm_Lv} {st : List Value} {h : hm_Hp} {b : hm_B} {Q : hm_Q} (hs : hm_Step (hm_LF l D cI B t0 bs L xs) k pc lv st h b Q) : hm_LF l D cI B t0 bs L xs k pc lv st h b Q := by
  unfold hm_Step at hs
  split at hs
  case h_2 => exact hs.elim
  rename_i i n x y z heq
  have hc := hm_ok heq
  clear heq
  intro p e s m' args below meth c H locs cells slots mc ms ls C hW hC2 hsz hS hl hcb hsb
  have C0 := C
  obtain ⟨hx, hb, hml, hr, hown, hts, hlocks, hnm, hex⟩ := C
  cases i with
  | iconst v =>
    have F : hm_LF l D cI B t0 bs L xs k (pc + n) lv (.int (Int32.ofInt v) :: st) h b Q := hs
    have G := F p e s m' args below meth c H locs cells slots mc ms ls C0 hW hC2 hsz hS hl hcb hsb
    simp only [hm_ck, Bool.or_eq_true, Bool.and_eq_true, decide_eq_true_eq] at hc
    rcases hc with ((⟨rfl, h1⟩ | ⟨rfl, h1, h2⟩) | ⟨rfl, h1, h2⟩) | ⟨rfl, h1, h2⟩
    · exact lv_iconst hx hb (hm_dcs h1) rfl G
    · exact lv_bipush hx hb (hm_dcs h1) h2 G
    · exact lv_sipush hx hb (hm_dcs h1) h2 G
    · exact lv_ldc hx hb hown (hts _ (hm_inG h2)) (hm_dcs h1) G
  | lconst v => exact lv_lconst hx hb (hm_dcs hc) rfl (hs p e s m' args below meth c H locs cells slots mc ms ls C0 hW hC2 hsz hS hl hcb hsb)
  | ldc2_w v =>
    simp only [hm_ck, Bool.and_eq_true] at hc
    exact lv_ldc2 hx hb hown (hts _ (hm_inG hc.2)) (hm_dcs hc.1) (hs p e s m' args below meth c H locs cells slots mc ms ls C0 hW hC2 hsz hS hl hcb hsb)
  | iload_n j =>
    change hm_ldi _ _ _ at hs
    unfold hm_ldi at hs
    split at hs
    · rename_i v hg
      exact lv_iload_n hx hb (hm_dcs hc) rfl (hm_lget hl hg) (hs p e s m' args below meth c H locs cells slots mc ms ls C0 hW hC2 hsz hS hl hcb hsb)
    · exact hs.elim
  | iload j =>
    change hm_ldi _ _ _ at hs
    unfold hm_ldi at hs
    split at hs
    · rename_i v hg
      exact lv_iload hx hb (hm_dcs hc) (hm_lget hl hg) (hs p e s m' args below meth c H locs cells slots mc ms ls C0 hW hC2 hsz hS hl hcb hsb)
    · exact hs.elim
  | lload_n j =>
    change hm_ldl _ _ _ at hs
    unfold hm_ldl at hs
    split at hs
    · rename_i v hg
      exact lv_lload_n hx hb (hm_dcs hc) rfl (hm_lget hl hg) (hs p e s m' args below meth c H locs cells slots mc ms ls C0 hW hC2 hsz hS hl hcb hsb)
    · exact hs.elim
  | lload j =>
    change hm_ldl _ _ _ at hs
    unfold hm_ldl at hs
    split at hs
    · rename_i v hg
      exact lv_lload hx hb (hm_dcs hc) (hm_lget hl hg) (hs p e s m' args below meth c H locs cells slots mc ms ls C0 hW hC2 hsz hS hl hcb hsb)
    · exact hs.elim
  | aload_n j =>
    change hm_lda _ _ _ at hs
    unfold hm_lda at hs
    split at hs
    · rename_i v hg
      exact lv_aload_n hx hb (hm_dcs hc) rfl (hm_lget hl hg) (hs p e s m' args below meth c H locs cells slots mc ms ls C0 hW hC2 hsz hS hl hcb hsb)
    · exact hs.elim
  | aload j =>
    change hm_lda _ _ _ at hs
    unfold hm_lda at hs
    split at hs
    · rename_i v hg
      exact lv_aload hx hb (hm_dcs hc) (hm_lget hl hg) (hs p e s m' args below meth c H locs cells slots mc ms ls C0 hW hC2 hsz hS hl hcb hsb)
    · exact hs.elim
  | istore_n j =>
    simp only [hm_ck, Bool.and_eq_true, decide_eq_true_eq] at hc
    change hm_un _ _ at hs
    unfold hm_un at hs
    split at hs
    · rename_i v r
      exact lv_istore_n hx hb (hm_dcs hc.1) rfl hl hc.2 (hm_lset1 lv j (.int v)) (fun ls' hl' => hs p e s m' args below meth c H locs cells slots mc ms ls' C0 hW hC2 hsz hS hl' hcb hsb)
    · exact hs.elim
  | istore j =>
    simp only [hm_ck, Bool.and_eq_true, decide_eq_true_eq] at hc
    change hm_un _ _ at hs
    unfold hm_un at hs
    split at hs
    · rename_i v r
      exact lv_istore hx hb (hm_dcs hc.1) hl hc.2 (hm_lset1 lv j (.int v)) (fun ls' hl' => hs p e s m' args below meth c H locs cells slots mc ms ls' C0 hW hC2 hsz hS hl' hcb hsb)
    · exact hs.elim
  | lstore_n j =>
    simp only [hm_ck, Bool.and_eq_true, decide_eq_true_eq] at hc
    change hm_ul _ _ at hs
    unfold hm_ul at hs
    split at hs
    · rename_i v r
      exact lv_lstore_n hx hb (hm_dcs hc.1) rfl hl hc.2 (hm_lset2 lv j (.long v)) (fun ls' hl' => hs p e s m' args below meth c H locs cells slots mc ms ls' C0 hW hC2 hsz hS hl' hcb hsb)
    · exact hs.elim
  | lstore j =>
    simp only [hm_ck, Bool.and_eq_true, decide_eq_true_eq] at hc
    change hm_ul _ _ at hs
    unfold hm_ul at hs
    split at hs
    · rename_i v r
      exact lv_lstore hx hb (hm_dcs hc.1) hl hc.2 (hm_lset2 lv j (.long v)) (fun ls' hl' => hs p e s m' args below meth c H locs cells slots mc ms ls' C0 hW hC2 hsz hS hl' hcb hsb)
    · exact hs.elim
  | astore_n j =>
    simp only [hm_ck, Bool.and_eq_true, decide_eq_true_eq] at hc
    change hm_rfs _ _ at hs
    unfold hm_rfs at hs
    split at hs
    · rename_i v r
      exact lv_astore_n hx hb (hm_dcs hc.1) rfl hl hc.2 (hm_lset1 lv j (.ref v)) (fun ls' hl' => hs p e s m' args below meth c H locs cells slots mc ms ls' C0 hW hC2 hsz hS hl' hcb hsb)
    · exact hs.elim
  | astore j =>
    simp only [hm_ck, Bool.and_eq_true, decide_eq_true_eq] at hc
    change hm_rfs _ _ at hs
    unfold hm_rfs at hs
    split at hs
    · rename_i v r
      exact lv_astore hx hb (hm_dcs hc.1) hl hc.2 (hm_lset1 lv j (.ref v)) (fun ls' hl' => hs p e s m' args below meth c H locs cells slots mc ms ls' C0 hW hC2 hsz hS hl' hcb hsb)
    · exact hs.elim
  | iinc j d =>
    simp only [hm_ck, Bool.and_eq_true, decide_eq_true_eq] at hc
    change hm_ldi _ _ _ at hs
    unfold hm_ldi at hs
    split at hs
    · rename_i v hg
      obtain ⟨q, hq⟩ := hm_lpos (B := B) (t0 := t0) (bs := bs) hg
      exact lv_iinc hx hb (hm_dcs hc.1) hl hq rfl hc.2 (hm_lset1 lv j (.int (v + Int32.ofInt d))) (fun ls' hl' => hs p e s m' args below meth c H locs cells slots mc ms ls' C0 hW hC2 hsz hS hl' hcb hsb)
    · exact hs.elim
  | iadd =>
    change hm_bin _ _ at hs
    unfold hm_bin at hs
    split at hs
    · exact lv_iadd hx hb (hm_dcs hc) (hs p e s m' args below meth c H locs cells slots mc ms ls C0 hW hC2 hsz hS hl hcb hsb)
    · exact hs.elim
  | isub =>
    change hm_bin _ _ at hs
    unfold hm_bin at hs
    split at hs
    · exact lv_isub hx hb (hm_dcs hc) (hs p e s m' args below meth c H locs cells slots mc ms ls C0 hW hC2 hsz hS hl hcb hsb)
    · exact hs.elim
  | imul =>
    change hm_bin _ _ at hs
    unfold hm_bin at hs
    split at hs
    · exact lv_imul hx hb (hm_dcs hc) (hs p e s m' args below meth c H locs cells slots mc ms ls C0 hW hC2 hsz hS hl hcb hsb)
    · exact hs.elim
  | idiv =>
    change hm_bin _ _ at hs
    unfold hm_bin at hs
    split at hs
    · exact lv_idiv hx hb (hm_dcs hc) hs.1 (hs.2 p e s m' args below meth c H locs cells slots mc ms ls C0 hW hC2 hsz hS hl hcb hsb)
    · exact hs.elim
  | irem =>
    change hm_bin _ _ at hs
    unfold hm_bin at hs
    split at hs
    · exact lv_irem hx hb (hm_dcs hc) hs.1 (hs.2 p e s m' args below meth c H locs cells slots mc ms ls C0 hW hC2 hsz hS hl hcb hsb)
    · exact hs.elim
  | iand =>
    change hm_bin _ _ at hs
    unfold hm_bin at hs
    split at hs
    · exact lv_iand hx hb (hm_dcs hc) (hs p e s m' args below meth c H locs cells slots mc ms ls C0 hW hC2 hsz hS hl hcb hsb)
    · exact hs.elim
  | ior =>
    change hm_bin _ _ at hs
    unfold hm_bin at hs
    split at hs
    · exact lv_ior hx hb (hm_dcs hc) (hs p e s m' args below meth c H locs cells slots mc ms ls C0 hW hC2 hsz hS hl hcb hsb)
    · exact hs.elim
  | ishl =>
    change hm_bin _ _ at hs
    unfold hm_bin at hs
    split at hs
    · exact lv_ishl hx hb (hm_dcs hc) (hs p e s m' args below meth c H locs cells slots mc ms ls C0 hW hC2 hsz hS hl hcb hsb)
    · exact hs.elim
  | ishr =>
    change hm_bin _ _ at hs
    unfold hm_bin at hs
    split at hs
    · exact lv_ishr hx hb (hm_dcs hc) (hs p e s m' args below meth c H locs cells slots mc ms ls C0 hW hC2 hsz hS hl hcb hsb)
    · exact hs.elim
  | i2l =>
    change hm_un _ _ at hs
    unfold hm_un at hs
    split at hs
    · exact lv_i2l hx hb (hm_dcs hc) rfl (hs p e s m' args below meth c H locs cells slots mc ms ls C0 hW hC2 hsz hS hl hcb hsb)
    · exact hs.elim
  | ladd =>
    change hm_binl _ _ at hs
    unfold hm_binl at hs
    split at hs
    · exact lv_ladd hx hb (hm_dcs hc) (hs p e s m' args below meth c H locs cells slots mc ms ls C0 hW hC2 hsz hS hl hcb hsb)
    · exact hs.elim
  | lmul =>
    change hm_binl _ _ at hs
    unfold hm_binl at hs
    split at hs
    · exact lv_lmul hx hb (hm_dcs hc) (hs p e s m' args below meth c H locs cells slots mc ms ls C0 hW hC2 hsz hS hl hcb hsb)
    · exact hs.elim
  | lcmp =>
    change hm_binl _ _ at hs
    unfold hm_binl at hs
    split at hs
    · exact W.lcmp hx hb (hm_dcs hc) (hs p e s m' args below meth c H locs cells slots mc ms ls C0 hW hC2 hsz hS hl hcb hsb)
    · exact hs.elim
  | dup =>
    change hm_tp _ _ at hs
    unfold hm_tp at hs
    split at hs
    · exact lv_dup hx hb (hm_dcs hc) (by rw [hm_tr_cat]; exact hs.1) (hs.2 p e s m' args below meth c H locs cells slots mc ms ls C0 hW hC2 hsz hS hl hcb hsb)
    · exact hs.elim
  | pop =>
    change hm_tp _ _ at hs
    unfold hm_tp at hs
    split at hs
    · exact lv_pop hx hb (hm_dcs hc) (by rw [hm_tr_cat]; exact hs.1) (hs.2 p e s m' args below meth c H locs cells slots mc ms ls C0 hW hC2 hsz hS hl hcb hsb)
    · exact hs.elim
  | goto t =>
    simp only [hm_ck, Bool.and_eq_true, decide_eq_true_eq] at hc
    exact lv_goto hx hb (hm_dcs hc.2) (tgt := t.toNat) (by omega) (hs p e s m' args below meth c H locs cells slots mc ms ls C0 hW hC2 hsz hS hl hcb hsb)
  | ifCond cd t =>
    simp only [hm_ck, Bool.and_eq_true, decide_eq_true_eq] at hc
    change hm_un _ _ at hs
    unfold hm_un at hs
    split at hs
    · have a1 : (pc : Int) + (t - pc) = (t.toNat : Int) := by omega
      cases cd
      · exact lv_if_eq hx hb (hm_dcs hc.2) a1 (fun q => hs.1 q p e s m' args below meth c H locs cells slots mc ms ls C0 hW hC2 hsz hS hl hcb hsb) (fun q => hs.2 q p e s m' args below meth c H locs cells slots mc ms ls C0 hW hC2 hsz hS hl hcb hsb)
      · exact lv_if_ne hx hb (hm_dcs hc.2) a1 (fun q => hs.1 q p e s m' args below meth c H locs cells slots mc ms ls C0 hW hC2 hsz hS hl hcb hsb) (fun q => hs.2 q p e s m' args below meth c H locs cells slots mc ms ls C0 hW hC2 hsz hS hl hcb hsb)
      · exact lv_if_lt hx hb (hm_dcs hc.2) a1 (fun q => hs.1 q p e s m' args below meth c H locs cells slots mc ms ls C0 hW hC2 hsz hS hl hcb hsb) (fun q => hs.2 q p e s m' args below meth c H locs cells slots mc ms ls C0 hW hC2 hsz hS hl hcb hsb)
      · exact lv_if_ge hx hb (hm_dcs hc.2) a1 (fun q => hs.1 q p e s m' args below meth c H locs cells slots mc ms ls C0 hW hC2 hsz hS hl hcb hsb) (fun q => hs.2 q p e s m' args below meth c H locs cells slots mc ms ls C0 hW hC2 hsz hS hl hcb hsb)
      · exact lv_if_gt hx hb (hm_dcs hc.2) a1 (fun q => hs.1 q p e s m' args below meth c H locs cells slots mc ms ls C0 hW hC2 hsz hS hl hcb hsb) (fun q => hs.2 q p e s m' args below meth c H locs cells slots mc ms ls C0 hW hC2 hsz hS hl hcb hsb)
      · exact lv_if_le hx hb (hm_dcs hc.2) a1 (fun q => hs.1 q p e s m' args below meth c H locs cells slots mc ms ls C0 hW hC2 hsz hS hl hcb hsb) (fun q => hs.2 q p e s m' args below meth c H locs cells slots mc ms ls C0 hW hC2 hsz hS hl hcb hsb)
    · exact hs.elim
  | if_icmp cd t =>
    simp only [hm_ck, Bool.and_eq_true, decide_eq_true_eq] at hc
    change hm_bin _ _ at hs
    unfold hm_bin at hs
    split at hs
    · have a1 : (pc : Int) + (t - pc) = (t.toNat : Int) := by omega
      cases cd
      · exact lv_icmp_eq hx hb (hm_dcs hc.2) a1 (fun q => hs.1 q p e s m' args below meth c H locs cells slots mc ms ls C0 hW hC2 hsz hS hl hcb hsb) (fun q => hs.2 q p e s m' args below meth c H locs cells slots mc ms ls C0 hW hC2 hsz hS hl hcb hsb)
      · exact lv_icmp_ne hx hb (hm_dcs hc.2) a1 (fun q => hs.1 q p e s m' args below meth c H locs cells slots mc ms ls C0 hW hC2 hsz hS hl hcb hsb) (fun q => hs.2 q p e s m' args below meth c H locs cells slots mc ms ls C0 hW hC2 hsz hS hl hcb hsb)
      · exact lv_icmp_lt hx hb (hm_dcs hc.2) a1 (fun q => hs.1 q p e s m' args below meth c H locs cells slots mc ms ls C0 hW hC2 hsz hS hl hcb hsb) (fun q => hs.2 q p e s m' args below meth c H locs cells slots mc ms ls C0 hW hC2 hsz hS hl hcb hsb)
      · exact lv_icmp_ge hx hb (hm_dcs hc.2) a1 (fun q => hs.1 q p e s m' args below meth c H locs cells slots mc ms ls C0 hW hC2 hsz hS hl hcb hsb) (fun q => hs.2 q p e s m' args below meth c H locs cells slots mc ms ls C0 hW hC2 hsz hS hl hcb hsb)
      · exact lv_icmp_gt hx hb (hm_dcs hc.2) a1 (fun q => hs.1 q p e s m' args below meth c H locs cells slots mc ms ls C0 hW hC2 hsz hS hl hcb hsb) (fun q => hs.2 q p e s m' args below meth c H locs cells slots mc ms ls C0 hW hC2 hsz hS hl hcb hsb)
      · exact lv_icmp_le hx hb (hm_dcs hc.2) a1 (fun q => hs.1 q p e s m' args below meth c H locs cells slots mc ms ls C0 hW hC2 hsz hS hl hcb hsb) (fun q => hs.2 q p e s m' args below meth c H locs cells slots mc ms ls C0 hW hC2 hsz hS hl hcb hsb)
    · exact hs.elim
  | tableswitch d lo hi offs =>
    change hm_un _ _ at hs
    unfold hm_un at hs
    simp only [hm_ck, Bool.and_eq_true, decide_eq_true_eq] at hc
    obtain ⟨⟨h0, ha⟩, hm⟩ := hc
    split at hs
    · rename_i v r
      split at hm
      · rename_i d' lo' hi' offs' len hd
        obtain ⟨e1, rfl, rfl, e4, e5⟩ := of_decide_eq_true hm
        unfold hm_tsw at hs
        by_cases ho : v.toInt < lo' ∨ hi' < v.toInt
        · rw [if_pos ho] at hs
          exact lv_tableOut hx hb hd ho (tgt := d.toNat) (by omega) (hs p e s m' args below meth c H locs cells slots mc ms ls C0 hW hC2 hsz hS hl hcb hsb)
        · rw [if_neg ho, ← e4] at hs
          have hj : (v.toInt - lo').toNat < offs'.size := by omega
          have h2 : offs'[(v.toInt - lo').toNat]? = some offs'[(v.toInt - lo').toNat] := Array.getElem?_eq_getElem hj
          have h3 : (offs'.toList.map (fun o : Int => o + (pc : Int))).getD (v.toInt - lo').toNat d = offs'[(v.toInt - lo').toNat] + (pc : Int) := by
            rw [List.getD_eq_getElem?_getD, List.getElem?_map, Array.getElem?_toList, h2]
            rfl
          have h4 : 0 ≤ offs'[(v.toInt - lo').toNat] + (pc : Int) := by
            have h5 := List.all_eq_true.mp ha (offs'[(v.toInt - lo').toNat] + (pc : Int)) (by rw [← e4]; exact List.mem_map.mpr ⟨_, by rw [Array.mem_toList_iff]; exact Array.getElem_mem hj, rfl⟩)
            exact of_decide_eq_true h5
          rw [h3] at hs
          exact lv_tableIn hx hb hd (fun q => ho (Or.inl q)) (fun q => ho (Or.inr q)) h2 (tgt := (offs'[(v.toInt - lo').toNat] + (pc : Int)).toNat) (by omega) (hs p e s m' args below meth c H locs cells slots mc ms ls C0 hW hC2 hsz hS hl hcb hsb)
      · cases hm
    · exact hs.elim
  | lookupswitch d ps =>
    change hm_un _ _ at hs
    unfold hm_un at hs
    simp only [hm_ck, Bool.and_eq_true, decide_eq_true_eq] at hc
    obtain ⟨⟨h0, ha⟩, hm⟩ := hc
    split at hs
    · rename_i v r
      split at hm
      · rename_i d' ps' len hd
        simp only [Bool.and_eq_true] at hm
        obtain ⟨hm, hsort⟩ := hm
        obtain ⟨e1, e2⟩ := of_decide_eq_true hm
        have h4 := hm_swP ps.toList d v.toInt h0 (fun o ho => of_decide_eq_true (List.all_eq_true.mp ha o ho))
        rw [← e1, ← e2, hm_swL] at h4 hs
        exact lv_lookup hx hb hd hsort rfl (tgt := (lookupswitch.offset ps'.toList d' v.toInt + (pc : Int)).toNat) (by omega) (hs p e s m' args below meth c H locs cells slots mc ms ls C0 hW hC2 hsz hS hl hcb hsb)
      · cases hm
    · exact hs.elim
  | getfield f =>
    change hm_rfs _ _ at hs
    unfold hm_rfs at hs
    simp only [hm_ck, Bool.and_eq_true, decide_eq_true_eq] at hc
    obtain ⟨⟨hd, hf1, hf2⟩, hw⟩ := hc
    split at hs
    · rename_i a r
      obtain ⟨k1, k2, k3, F⟩ := hs
      obtain ⟨q0, hq⟩ := hm_gob (cI := cI) (B := B) (t0 := t0) (bs := bs) k1 hf2 k2 k3
      have G := F p e s m' args below meth c H locs cells slots mc ms ls C0 hW hC2 hsz hS hl hcb hsb
      show W p l e _ s m' args below meth c H locs cells slots _ (F0 m' pc ls (.ref (hm_ad B t0 bs a) :: r.map (hm_tr B t0 bs)))
      rw [hm_ad2 k2]
      refine va_get hx hb hts (hm_cIn hf2) hown hC2.2.1 hW.2.2.1 q0 hq (hm_clsOk hf2) (f % 64) hf1 (hts _ (hm_inG hw)) (fun _ h9 => h9) (v := hm_tr B t0 bs (hm_fv (h.2.1 a) (h.2.2 a) (f % 64))) ?_ (hm_dcs hd) G
      unfold hm_fs
      rw [k1]
      exact hm_fget hf1
    · exact hs.elim
  | putfield f =>
    change hm_pf _ _ _ at hs
    unfold hm_pf at hs
    simp only [hm_ck, Bool.and_eq_true, Bool.or_eq_true, decide_eq_true_eq] at hc
    obtain ⟨⟨⟨hd, hf1, hf2⟩, hw⟩, hfin⟩ := hc
    have hty := fun j (hj : j < hm_nf (f / 64)) => (hm_cF hf2 hj).1
    have hnm2 := fun j (hj : j < hm_nf (f / 64)) => (hm_cF hf2 hj).2.1
    have hct := (hm_cF hf2 hf1).2.2
    split at hs
    · rename_i v a r
      obtain ⟨k1, k1b, k2, k3, F⟩ := hs
      obtain ⟨q0, hq⟩ := hm_gob (cI := cI) (B := B) (t0 := t0) (bs := bs) k1 hf2 k2 k3
      show W p l e _ s m' args below meth c H locs cells slots _ (F0 m' pc ls (.int v :: .ref (hm_ad B t0 bs a) :: r.map (hm_tr B t0 bs)))
      rw [hm_ad2 k2]
      have ht := hct.1 k1b
      refine hm_put hx hb hts (hm_cIn hf2) (hm_ty (f / 64)) hty hnm2 hown hC2.2.1 hW.2.2.1 hW.2.2.2 hS q0 hq (hm_clsOk hf2) (f % 64) hf1 (hts _ (hm_inG hw)) (hfin.imp id (fun h9 => ⟨h9.1, hnm.trans h9.2.1, h9.2.2⟩)) (by rw [ht]; rfl) (by rw [ht]; rfl) (by unfold hm_fs; rw [k1]; simpa using hf1) (hm_dcs hd) fun H1 locs1 z1 P1 D1 S1 => ?_
      have e9 : ((.inr (f / 64, (hm_fs B t0 bs (h.2.1 a) (h.2.2 a)).set (f % 64) (.int v)) : va_E)) = hm_E cI B t0 bs ((hm_wi h a (f % 64) v).2.1 a) ((hm_wi h a (f % 64) v).2.2 a) := by
        have e8 : (hm_wi h a (f % 64) v).2.1 a = h.2.1 a := rfl
        have e7 : (hm_wi h a (f % 64) v).2.2 a = fun q => if q = f % 64 then v else h.2.2 a q := if_pos rfl
        rw [e8, e7]
        unfold hm_E
        rw [if_neg (by rw [k1]; omega), k1]
        congr 2
        unfold hm_fs
        refine hm_fset ?_ (fun q hq => ?_)
        · unfold hm_fv
          rw [k1, k1b]
          simp [hm_tr]
        · unfold hm_fv
          dsimp only
          rw [if_neg hq]
      rw [e9] at P1 D1
      have he9 := hm_wset (cI := cI) (t0 := t0) (bs := bs) (h' := hm_wi h a (f % 64) v) hW.2.2.2 k2 k3 (by rw [k1]; omega) (by rw [hq]; congr 2; unfold hm_E; rw [if_neg (by rw [k1]; omega), k1]) rfl (fun _ => rfl) (fun j hj => ⟨rfl, if_neg hj⟩)
      rw [he9] at P1 D1
      exact F p e s m' args below meth c H1 locs1 cells slots mc ms ls C0 ⟨hm_fxWi k2 hW.1, z1.trans hW.2.1, P1, D1⟩ hC2 hsz S1 hl hcb hsb
    · rename_i v a r
      obtain ⟨k1, k1b, k2, k3, F⟩ := hs
      obtain ⟨q0, hq⟩ := hm_gob (cI := cI) (B := B) (t0 := t0) (bs := bs) k1 hf2 k2 k3
      show W p l e _ s m' args below meth c H locs cells slots _ (F0 m' pc ls (.ref (hm_ad B t0 bs v) :: .ref (hm_ad B t0 bs a) :: r.map (hm_tr B t0 bs)))
      rw [hm_ad2 k2]
      have ht := hct.2 k1b
      refine hm_put hx hb hts (hm_cIn hf2) (hm_ty (f / 64)) hty hnm2 hown hC2.2.1 hW.2.2.1 hW.2.2.2 hS q0 hq (hm_clsOk hf2) (f % 64) hf1 (hts _ (hm_inG hw)) (hfin.imp id (fun h9 => ⟨h9.1, hnm.trans h9.2.1, h9.2.2⟩)) (by rcases ht with ⟨n, ht⟩ | ⟨n, ht⟩ <;> rw [ht] <;> rfl) (by rcases ht with ⟨n, ht⟩ | ⟨n, ht⟩ <;> rw [ht] <;> rfl) (by unfold hm_fs; rw [k1]; simpa using hf1) (hm_dcs hd) fun H1 locs1 z1 P1 D1 S1 => ?_
      have e9 : ((.inr (f / 64, (hm_fs B t0 bs (h.2.1 a) (h.2.2 a)).set (f % 64) (.ref (hm_ad B t0 bs v))) : va_E)) = hm_E cI B t0 bs ((hm_wr h a (f % 64) (some v)).2.1 a) ((hm_wr h a (f % 64) (some v)).2.2 a) := by
        have e8 : (hm_wr h a (f % 64) (some v)).2.1 a = ((h.2.1 a).1, (h.2.1 a).2.1, fun q => if q = f % 64 then some v else (h.2.1 a).2.2 q) := if_pos rfl
        have e7 : (hm_wr h a (f % 64) (some v)).2.2 a = h.2.2 a := rfl
        rw [e8, e7]
        unfold hm_E
        dsimp only
        rw [if_neg (by rw [k1]; omega), k1]
        congr 2
        unfold hm_fs
        dsimp only
        rw [k1]
        refine hm_fset ?_ (fun q hq => ?_)
        · unfold hm_fv
          dsimp only
          rw [k1b]
          simp [hm_tr, va_rf]
        · unfold hm_fv
          dsimp only
          rw [if_neg hq, k1]
      rw [e9] at P1 D1
      have he9 := hm_wset (cI := cI) (t0 := t0) (bs := bs) (h' := hm_wr h a (f % 64) (some v)) hW.2.2.2 k2 k3 (by rw [k1]; omega) (by rw [hq]; congr 2; unfold hm_E; rw [if_neg (by rw [k1]; omega), k1]) rfl (fun j => by show (if j = a then _ else h.2.1 j).1 = _; split <;> simp_all) (fun j hj => ⟨if_neg hj, rfl⟩)
      rw [he9] at P1 D1
      exact F p e s m' args below meth c H1 locs1 cells slots mc ms ls C0 ⟨hm_fxWr k2 hW.1, z1.trans hW.2.1, P1, D1⟩ hC2 hsz S1 hl hcb hsb
    · exact hs.elim
  | getstatic f =>
    simp only [hm_ck, Bool.and_eq_true] at hc
    have F : hm_LF l D cI B t0 bs L xs k (pc + 3) lv (.ref 0 :: st) h b Q := hs
    exact va_getsN hx hb hC2.1.1 hS hown (va_Nw.use rfl (hm_inV hc.2 hC2.2.2.1)) (fun _ h9 => h9) (hm_dcs hc.1) (F p e s m' args below meth c H locs cells slots mc ms ls C0 hW hC2 hsz hS hl hcb hsb)
  | new ci =>
    simp only [hm_ck, Bool.and_eq_true, decide_eq_true_eq] at hc
    obtain ⟨⟨⟨⟨hd, hci⟩, w1⟩, w2⟩, w3⟩ := hc
    obtain ⟨b1, b2, F⟩ := hs
    have hty := fun j (hj : j < hm_nf ci) => (hm_cF hci hj).1
    refine hm_new (fs := hm_fs B t0 bs (ci, 0, fun _ => none) (fun _ => 0)) hx hb hts (hm_cIn hci) (hm_ty ci) hty hown (hts _ (hm_inG w1)) (hts _ (hm_inG w2)) (hts _ (hm_inG w3)) hC2.2.1 hW.2.2.1 hW.2.2.2 hS (fun q hq => Nat.le_trans hsz hq) (hm_clsOk hci) ?_ (by show _ ≤ mc; omega) (by show _ ≤ ms; omega) (hm_dcs hd) fun H1 z1 P1 D1 S1 => ?_
    · intro j hj
      unfold vp_V hm_fs
      rw [List.getD_eq_getElem?_getD, hm_fget hj]
      obtain ⟨c1, c2⟩ := (hm_cF hci hj).2.2
      unfold hm_fv
      dsimp only
      cases hr : hm_isR ci j with
      | false => rw [c1 hr]; rfl
      | true => rcases c2 hr with ⟨n, e9⟩ | ⟨n, e9⟩ <;> rw [e9] <;> rfl
    · have e8 : (hm_mk h ci 0).2.1 h.1 = (ci, 0, fun _ => none) := if_pos rfl
      have e7 : (hm_mk h ci 0).2.2 h.1 = fun _ => 0 := if_pos rfl
      have e9 : ((.inr (ci, hm_fs B t0 bs (ci, 0, fun _ => none) (fun _ => 0)) : va_E)) = hm_E cI B t0 bs ((hm_mk h ci 0).2.1 h.1) ((hm_mk h ci 0).2.2 h.1) := by
        rw [e8, e7]
        unfold hm_E
        rw [if_neg (show ¬ ci = 1000 by omega)]
      rw [e9, hW.2.1, hm_wpush (h' := hm_mk h ci 0) hW.2.2.1 hW.2.1 hW.1.1 rfl (fun j hj => ⟨if_neg hj, if_neg hj⟩) (by rw [e8]; show ci ≠ 2000; omega)] at P1 D1
      have e6 : (Value.ref H.size :: st.map (hm_tr B t0 bs)) = (Value.ref h.1 :: st).map (hm_tr B t0 bs) := by
        show _ = Value.ref (hm_ad B t0 bs h.1) :: _
        rw [hm_ad2 hW.1.1, hW.2.1]
      rw [e6]
      exact F p e s m' args below meth c H1 locs (cells + 1) (slots + hm_nf ci) mc ms ls C0 ⟨hm_fxMk hW.1, by rw [z1, hW.2.1]; rfl, P1, D1⟩ hC2 hsz S1 hl (by show _ + (b.1 - 1) ≤ _; omega) (by show _ + (b.2 - hm_nf ci) ≤ _; omega)
  | newarray ty =>
    change hm_un _ _ at hs
    unfold hm_un at hs
    simp only [hm_ck, Bool.and_eq_true, decide_eq_true_eq] at hc
    obtain ⟨rfl, hd⟩ := hc
    split at hs
    · rename_i v r
      obtain ⟨v1, v2, b1, b2, F⟩ := hs
      refine hm_newa (N' := v.toNatClampNeg) hx hb (hts _ hm_arrI) hC2.2.1 hW.2.2.1 hW.2.2.2 hS (fun q hq => Nat.le_trans hsz hq) v1 rfl (by omega) (by show _ ≤ mc; omega) (by show _ ≤ ms; omega) (hm_dcs hd) fun H1 z1 P1 D1 S1 => ?_
      have e8 : (hm_mk h 1000 v.toNatClampNeg).2.1 h.1 = (1000, v.toNatClampNeg, fun _ => none) := if_pos rfl
      have e7 : (hm_mk h 1000 v.toNatClampNeg).2.2 h.1 = fun _ => 0 := if_pos rfl
      have e9 : ((.inl (cI, v.toNatClampNeg, .inl (fun _ => 0)) : va_E)) = hm_E cI B t0 bs ((hm_mk h 1000 v.toNatClampNeg).2.1 h.1) ((hm_mk h 1000 v.toNatClampNeg).2.2 h.1) := by
        rw [e8, e7]
        unfold hm_E
        rw [if_pos rfl]
      rw [e9, hW.2.1, hm_wpush (h' := hm_mk h 1000 v.toNatClampNeg) hW.2.2.1 hW.2.1 hW.1.1 rfl (fun j hj => ⟨if_neg hj, if_neg hj⟩) (by rw [e8]; show (1000 : Nat) ≠ 2000; omega)] at P1 D1
      have e6 : (Value.ref H.size :: r.map (hm_tr B t0 bs)) = (Value.ref h.1 :: r).map (hm_tr B t0 bs) := by
        show _ = Value.ref (hm_ad B t0 bs h.1) :: _
        rw [hm_ad2 hW.1.1, hW.2.1]
      rw [e6]
      exact F p e s m' args below meth c H1 locs (cells + 1) (slots + v.toNatClampNeg) mc ms ls C0 ⟨hm_fxMk hW.1, by rw [z1, hW.2.1]; rfl, P1, D1⟩ hC2 hsz S1 hl (by show _ + (b.1 - 1) ≤ _; omega) (by show _ + (b.2 - v.toNatClampNeg) ≤ _; omega)
    · exact hs.elim
  | arraylength =>
    change hm_rfs _ _ at hs
    unfold hm_rfs at hs
    split at hs
    · rename_i a r
      obtain ⟨k1, k3, F⟩ := hs
      have G := F p e s m' args below meth c H locs cells slots mc ms ls C0 hW hC2 hsz hS hl hcb hsb
      obtain ⟨f1, f2, f3, f4, f5, f6, f7⟩ := hW.1
      by_cases a0 : a = 0
      · subst a0
        rw [f3] at G
        exact va_tlen hx hb hC2.1.2.1 hS rfl (hm_dcs hc) G
      by_cases a1 : a = 1
      · subst a1
        rw [f6] at G
        exact va_tlen hx hb hC2.1.2.2.1 hS rfl (hm_dcs hc) G
      have k2 : 2 ≤ a := Nat.lt_of_le_of_ne (Nat.one_le_iff_ne_zero.mpr a0) (Ne.symm a1)
      obtain ⟨q0, hq⟩ := hm_gar (cI := cI) (B := B) (t0 := t0) (bs := bs) k1 k2 k3
      show W p l e _ s m' args below meth c H locs cells slots _ (F0 m' pc ls (.ref (hm_ad B t0 bs a) :: r.map (hm_tr B t0 bs)))
      rw [hm_ad2 k2]
      exact va_alen hx hb hC2.2.1 hW.2.2.1 q0 0 hq rfl rfl (hm_dcs hc) G
    · exact hs.elim
  | iaload =>
    change hm_ia _ _ at hs
    unfold hm_ia at hs
    split at hs
    · rename_i i a r
      obtain ⟨k1, k3, vi, F⟩ := hs
      have G := F p e s m' args below meth c H locs cells slots mc ms ls C0 hW hC2 hsz hS hl hcb hsb
      obtain ⟨f1, f2, f3, f4, f5, f6, f7⟩ := hW.1
      by_cases a0 : a = 0
      · subst a0
        rw [f4] at G
        rw [f3] at vi
        exact va_ti hx hb hC2.1.2.1 hS vi rfl (hm_dcs hc) G
      by_cases a1 : a = 1
      · subst a1
        rw [f7] at G
        rw [f6] at vi
        exact va_ti hx hb hC2.1.2.2.1 hS vi rfl (hm_dcs hc) G
      have k2 : 2 ≤ a := Nat.lt_of_le_of_ne (Nat.one_le_iff_ne_zero.mpr a0) (Ne.symm a1)
      obtain ⟨q0, hq⟩ := hm_gar (cI := cI) (B := B) (t0 := t0) (bs := bs) k1 k2 k3
      show W p l e _ s m' args below meth c H locs cells slots _ (F0 m' pc ls (.int i :: .ref (hm_ad B t0 bs a) :: r.map (hm_tr B t0 bs)))
      rw [hm_ad2 k2]
      exact va_iald hx hb hC2.2.1 hW.2.2.1 q0 0 hq rfl vi (hm_dcs hc) G
    · exact hs.elim
  | iastore =>
    change hm_is _ _ at hs
    unfold hm_is at hs
    split at hs
    · rename_i v i a r
      obtain ⟨k1, k2, k3, vi, F⟩ := hs
      obtain ⟨q0, hq⟩ := hm_gar (cI := cI) (B := B) (t0 := t0) (bs := bs) k1 k2 k3
      show W p l e _ s m' args below meth c H locs cells slots _ (F0 m' pc ls (.int v :: .int i :: .ref (hm_ad B t0 bs a) :: r.map (hm_tr B t0 bs)))
      rw [hm_ad2 k2]
      refine hm_iast hx hb hC2.2.1 hW.2.2.1 hW.2.2.2 hS q0 0 hq rfl vi (hm_dcs hc) fun H1 locs1 z1 P1 D1 S1 => ?_
      have e9 : ((.inl (cI, (h.2.1 a).2.1, .inl (upd (h.2.2 a) i.toNatClampNeg v)) : va_E)) = hm_E cI B t0 bs ((hm_wi h a i.toNatClampNeg v).2.1 a) ((hm_wi h a i.toNatClampNeg v).2.2 a) := by
        have e8 : (hm_wi h a i.toNatClampNeg v).2.1 a = h.2.1 a := rfl
        have e7 : (hm_wi h a i.toNatClampNeg v).2.2 a = fun q => if q = i.toNatClampNeg then v else h.2.2 a q := if_pos rfl
        rw [e8, e7]
        unfold hm_E
        rw [if_pos k1]
        rfl
      rw [e9] at P1 D1
      have he9 := hm_wset (cI := cI) (t0 := t0) (bs := bs) (h' := hm_wi h a i.toNatClampNeg v) hW.2.2.2 k2 k3 (by rw [k1]; omega) (by rw [hq]; congr 2; unfold hm_E; rw [if_pos k1]) rfl (fun _ => rfl) (fun j hj => ⟨rfl, if_neg hj⟩)
      rw [he9] at P1 D1
      exact F p e s m' args below meth c H1 locs1 cells slots mc ms ls C0 ⟨hm_fxWi k2 hW.1, z1.trans hW.2.1, P1, D1⟩ hC2 hsz S1 hl hcb hsb
    · exact hs.elim
  | invokevirtual m =>
    simp only [hm_ck, Bool.and_eq_true, decide_eq_true_eq] at hc
    obtain ⟨⟨⟨⟨⟨hd, hcm⟩, hcx, hcn, hm195⟩, w1⟩, w2⟩, w3⟩ := hc
    exact hm_goV (l := l) C0 hW hC2 hsz hS hl hcb hsb (hm_dcs hd) hcm hcx hcn hm195 w1 w2 w3 hs
  | invokespecial m =>
    simp only [hm_ck] at hc
    by_cases hm : m = 1000
    · subst hm
      rw [if_pos rfl] at hc
      have hs1 : hm_rfs st fun _ r => hm_cs r ≤ 8 ∧ hm_LF l D cI B t0 bs L xs k (pc + 3) lv r h b Q := hs
      unfold hm_rfs at hs1
      simp only [Bool.and_eq_true, decide_eq_true_eq] at hc
      obtain ⟨⟨hd, w1⟩, hf, hlo⟩ := hc
      split at hs1
      · rename_i a r
        obtain ⟨h8, F⟩ := hs1
        refine W.objInit hx hb hown (hts _ (hm_inG w1)) (hts _ hm_obj1) (hts _ hm_obj2) rfl (by rw [hml]; exact hl.1) rfl (hm_dcs hd) hf ?_ (F p e s m' args below meth c H locs cells slots mc ms ls C0 hW hC2 hsz hS hl hcb hsb)
        have h9 := hm_cs_tr (B := B) (t0 := t0) (bs := bs) r
        show 2 * 0 + _ + 12 ≤ hm_lo k
        rw [h9]
        omega
      · exact hs1.elim
    · rw [if_neg hm] at hc
      have hs1 : hm_CallI (hm_LF l D cI B t0 bs L xs) k pc m z lv st h b Q := by
        have h9 : (if m = 1000 then hm_rfs st (fun _ r => hm_cs r ≤ 8 ∧ hm_LF l D cI B t0 bs L xs k (pc + 3) lv r h b Q) else hm_CallI (hm_LF l D cI B t0 bs L xs) k pc m z lv st h b Q) := hs
        rw [if_neg hm] at h9
        exact h9
      simp only [Bool.and_eq_true, decide_eq_true_eq] at hc
      obtain ⟨⟨⟨⟨hd, hcm⟩, hcx, hm195, hin, hrt⟩, w1⟩, w2⟩ := hc
      exact hm_goI (l := l) C0 hW hC2 hsz hS hl hcb hsb (hm_dcs hd) hcm hcx hm195 hin hrt w1 w2 hs1
  | invokestatic m =>
    simp only [hm_ck] at hc
    have hs1 : (if m = 1001 then hm_bin st (fun x y r => hm_cs r ≤ 8 ∧ hm_LF l D cI B t0 bs L xs k (pc + 3) lv (.int (if x < y then y else x) :: r) h b Q)
      else if m = 1002 then hm_bin st (fun x y r => hm_cs r ≤ 8 ∧ hm_LF l D cI B t0 bs L xs k (pc + 3) lv (.int (if y < x then y else x) :: r) h b Q)
      else if m = 1003 then hm_un st (fun x r => hm_cs r ≤ 8 ∧ hm_LF l D cI B t0 bs L xs k (pc + 3) lv (.int (if 0 ≤ x then x else 0 - x) :: r) h b Q)
      else hm_CallS (hm_LF l D cI B t0 bs L xs) k pc m z lv st h b Q) := hs
    have hsum : ∀ r : List Value, hm_cs r ≤ 8 → 21 ≤ hm_lo k → ((r.map (hm_tr B t0 bs)).map fun v => v.category).sum + 13 ≤ hm_lo k := by
      intro r h8 h9
      rw [hm_cs_tr]
      omega
    by_cases h1 : m = 1001
    · rw [if_pos h1] at hc hs1
      simp only [Bool.and_eq_true, decide_eq_true_eq] at hc
      obtain ⟨⟨hd, w1⟩, hf, hlo⟩ := hc
      unfold hm_bin at hs1
      split at hs1
      · rename_i yv xv r
        exact va_mmax hx hb (hml.trans hl.1.symm) hown (hts _ (hm_inG w1)) (hts _ hm_max1) (hts _ hm_mathI) (hts _ hm_max2) hf (hsum r hs1.1 hlo) (by show cells ≤ mc; omega) (by show slots ≤ ms; omega) (hm_dcs hd) (hs1.2 p e s m' args below meth c H locs cells slots mc ms ls C0 hW hC2 hsz hS hl hcb hsb)
      · exact hs1.elim
    by_cases h2 : m = 1002
    · rw [if_neg h1, if_pos h2] at hc hs1
      simp only [Bool.and_eq_true, decide_eq_true_eq] at hc
      obtain ⟨⟨hd, w1⟩, hf, hlo⟩ := hc
      unfold hm_bin at hs1
      split at hs1
      · rename_i yv xv r
        exact va_mmin hx hb (hml.trans hl.1.symm) hown (hts _ (hm_inG w1)) (hts _ hm_min1) (hts _ hm_mathI) (hts _ hm_min2) hf (hsum r hs1.1 hlo) (by show cells ≤ mc; omega) (by show slots ≤ ms; omega) (hm_dcs hd) (hs1.2 p e s m' args below meth c H locs cells slots mc ms ls C0 hW hC2 hsz hS hl hcb hsb)
      · exact hs1.elim
    by_cases h3 : m = 1003
    · rw [if_neg h1, if_neg h2, if_pos h3] at hc hs1
      simp only [Bool.and_eq_true, decide_eq_true_eq] at hc
      obtain ⟨⟨hd, w1⟩, hf, hlo⟩ := hc
      unfold hm_un at hs1
      split at hs1
      · rename_i xv r
        exact va_mabs hx hb (hml.trans hl.1.symm) hown (hts _ (hm_inG w1)) (hts _ hm_abs1) (hts _ hm_mathI) (hts _ hm_abs2) hf (hsum r hs1.1 hlo) (by show cells ≤ mc; omega) (by show slots ≤ ms; omega) (hm_dcs hd) (hs1.2 p e s m' args below meth c H locs cells slots mc ms ls C0 hW hC2 hsz hS hl hcb hsb)
      · exact hs1.elim
    rw [if_neg h1, if_neg h2, if_neg h3] at hc hs1
    simp only [Bool.and_eq_true, decide_eq_true_eq] at hc
    obtain ⟨⟨⟨hd, hcm⟩, w1⟩, w2⟩ := hc
    exact hm_goS (l := l) C0 hW hC2 hsz hS hl hcb hsb (hm_dcs hd) hcm w1 w2 hs1
  | ireturn =>
    change hm_r1 _ _ at hs
    unfold hm_r1 at hs
    simp only [hm_ck, Bool.and_eq_true, Bool.or_eq_true, decide_eq_true_eq] at hc
    split at hs
    · rename_i v
      obtain ⟨hz, hq⟩ := hs
      refine W.widen (k := mc) (n := ms) (by omega) (by omega) (vx_ret ?_)
      rcases hc.2 with ⟨x1, x2⟩ | ⟨x1, x2⟩
      · exact W.zret hx hb (hr.trans x2) (by rcases hz x1 with rfl | rfl <;> rfl) (fun t ht _ => ⟨⟨some (.int v), h, rfl, hq, by rw [ht]; exact hW⟩, hS.F ht⟩) hS.2.2 (hm_dcs hc.1)
      · exact W.iret hx hb (hr.trans x2) (fun t ht _ => ⟨⟨some (.int v), h, rfl, hq, by rw [ht]; exact hW⟩, hS.F ht⟩) hS.2.2 (hm_dcs hc.1)
    · exact hs.elim
  | lreturn =>
    change hm_rl _ _ at hs
    unfold hm_rl at hs
    simp only [hm_ck, Bool.and_eq_true, decide_eq_true_eq] at hc
    split at hs
    · rename_i v
      refine W.widen (k := mc) (n := ms) (by omega) (by omega) (vx_ret ?_)
      exact W.lret hx hb (hr.trans hc.2) (fun t ht _ => ⟨⟨some (.long v), h, rfl, hs, by rw [ht]; exact hW⟩, hS.F ht⟩) hS.2.2 (hm_dcs hc.1)
    · exact hs.elim
  | areturn =>
    change hm_ra _ _ at hs
    unfold hm_ra at hs
    simp only [hm_ck, Bool.and_eq_true] at hc
    split at hs
    · rename_i v
      refine W.widen (k := mc) (n := ms) (by omega) (by omega) (vx_ret ?_)
      obtain ⟨hd, h9⟩ := hc
      split at h9
      · rename_i n9 e9
        exact W.aret hx hb (hr.trans e9) (Or.inl ⟨_, rfl⟩) (Or.inr ⟨_, rfl⟩) (fun t ht _ => ⟨⟨some (.ref v), h, rfl, hs, by rw [ht]; exact hW⟩, hS.F ht⟩) hS.2.2 (hm_dcs hd)
      · cases h9
    · exact hs.elim
  | return_ =>
    change hm_r0 _ _ at hs
    unfold hm_r0 at hs
    simp only [hm_ck, Bool.and_eq_true, decide_eq_true_eq] at hc
    split at hs
    · refine W.widen (k := mc) (n := ms) (by omega) (by omega) (vx_ret ?_)
      exact W.vret hx hb (hr.trans hc.2) (fun t ht _ => ⟨⟨none, h, rfl, hs, by rw [ht]; exact hW⟩, hS.F ht⟩) hS.2.2 (hm_dcs hc.1)
    · exact hs.elim
  | athrow =>
    change hm_r0 _ _ at hs
    unfold hm_r0 at hs
    split at hs
    · obtain ⟨b1, b2, hq⟩ := hs
      exact hm_goX (y := y) (z := z) hfl C0 hW hC2 hsz hS hl hcb hsb hc b1 b2 hq
    · exact hs.elim
  | _ => exact hs.elim
/-- the relation of the machine is closed -/
theorem hm_LF_cl (hfl : l.stackTraces = false) : hm_Cl (hm_LF l D cI B t0 bs L xs) := ⟨fun _ _ _ _ _ _ _ hs => hm_LF_step hfl hs, fun _ _ _ _ _ _ _ _ hq H => hm_LF_mono hq H⟩
end HStep
end
section
/-! Steps of the abstract machine, for walks. -/
abbrev hm_St : Type := Nat → Nat → Int32
def hm_w1 (s : hm_St) (a j : Nat) (x : Int32) : hm_St := fun i => if i = a then (fun q => if q = j then x else s i q) else s i
abbrev hm_df (x y : Int32) : Nat := (x.toInt - y.toInt).toNat
abbrev hm_df1 (x y : Int32) : Nat := (x.toInt + 1 - y.toInt).toNat
theorem hm_w1n {s : hm_St} {a i : Nat} {x : Int32} {c j : Nat} (h : c ≠ a) : hm_w1 s a i x c j = s c j := by unfold hm_w1; rw [if_neg h]
def hm_max (x y : Int32) : Int32 := if x < y then y else x
def hm_min (x y : Int32) : Int32 := if y < x then y else x
def hm_abs (x : Int32) : Int32 := if 0 ≤ x then x else 0 - x
def hm_Cm (R : hm_R) : Prop := hm_Cl R ∧ ∀ k pc lv lv' st h b Q, (∀ q ∈ lv', q ∈ lv) → R k pc lv' st h b Q → R k pc lv st h b Q
theorem hm_LF_cm {l : Launch} {D : va_G} {cI : ClassId} {B t0 bs L : Nat} {xs : Nat → Int32} (hfl : l.stackTraces = false) : hm_Cm (hm_LF l D cI B t0 bs L xs) := by
  refine ⟨hm_LF_cl hfl, fun k pc lv lv' st h b Q hs H => ?_⟩
  intro p e s m args below meth c Hp locs cells slots mc ms ls C hW hC2 hz hS hl hcb hsb
  refine H p e s m args below meth c Hp locs cells slots mc ms ls C hW hC2 hz hS (hm_hasSub hl fun q hq => ?_) hcb hsb
  obtain ⟨w, hw, rfl⟩ := List.mem_map.mp hq
  exact List.mem_map.mpr ⟨w, hs w hw, rfl⟩
theorem hm_st {R : hm_R} (hR : hm_Cm R) {k pc : Nat} {lv : hm_Lv} {st : List Value} {h : hm_Hp} {b : hm_B} {Q : hm_Q} (H : hm_Step R k pc lv st h b Q) : R k pc lv st h b Q := hR.1.1 k pc lv st h b Q H
theorem hm_lvS {R : hm_R} (hR : hm_Cm R) {k pc : Nat} {lv lv' : hm_Lv} {st : List Value} {h : hm_Hp} {b : hm_B} {Q : hm_Q} (hs : ∀ q ∈ lv', q ∈ lv) (H : R k pc lv' st h b Q) : R k pc lv st h b Q := hR.2 k pc lv lv' st h b Q hs H
theorem hm_le {a b : Nat} (h : Nat.ble a b = true) : a ≤ b := Nat.le_of_ble_eq_true h
theorem hm_ltN {a N : Nat} (hN : 68 ≤ N) (h : Nat.ble a 67 = true) : a < N := Nat.lt_of_le_of_lt (Nat.le_of_ble_eq_true h) hN
theorem hm_goE {R : hm_R} {k t t' : Nat} {lv : hm_Lv} {st : List Value} {h : hm_Hp} {b : hm_B} {Q : hm_Q} (e : t = t') (H : R k t' lv st h b Q) : R k t lv st h b Q := e ▸ H
theorem hm_dcx {E i : Int32} {n : Nat} (c : ¬ E ≤ i) (hm : (E.toInt - i.toInt).toNat < n + 1) : (E.toInt - (i + 1).toInt).toNat < n := by
  have h1 : ¬ E.toInt ≤ i.toInt := fun h => c (Int32.le_iff_toInt_le.mpr h)
  have h2 := E.toInt_lt
  have h3 := i.le_toInt
  have h4 : (i + 1).toInt = i.toInt + 1 := by
    rw [Int32.toInt_add, show (1 : Int32).toInt = 1 from rfl]
    apply Int.bmod_eq_of_le <;> omega
  rw [h4]
  omega
/-- the house's cells: numbers, kinds, lengths, references -/
def hm_sh0 (L i : Nat) : hm_Sh := if Nat.blt i 34 then (if Nat.blt i 17 then (if Nat.blt i 8 then (if Nat.blt i 4 then (if Nat.blt i 2 then (if Nat.blt i 1 then ((1000, 16, fun _ => none)) else ((1000, L, fun _ => none))) else (if Nat.blt i 3 then ((10, 0, fun j => if j = 0 then some 3 else if j = 1 then some 14 else if j = 2 then some 25 else if j = 3 then some 42 else if j = 4 then some 47 else if j = 5 then some 50 else if j = 6 then some 59 else if j = 7 then some 64 else none)) else ((2, 0, fun j => if j = 0 then some 4 else if j = 1 then some 6 else if j = 2 then some 8 else if j = 3 then some 10 else if j = 4 then some 12 else none)))) else (if Nat.blt i 6 then (if Nat.blt i 5 then ((8, 0, fun j => if j = 0 then some 5 else none)) else ((1000, 16, fun _ => none))) else (if Nat.blt i 7 then ((8, 0, fun j => if j = 0 then some 7 else none)) else ((1000, 16, fun _ => none))))) else (if Nat.blt i 12 then (if Nat.blt i 10 then (if Nat.blt i 9 then ((8, 0, fun j => if j = 0 then some 9 else none)) else ((1000, 6144, fun _ => none))) else (if Nat.blt i 11 then ((8, 0, fun j => if j = 0 then some 11 else none)) else ((1000, 6144, fun _ => none)))) else (if Nat.blt i 14 then (if Nat.blt i 13 then ((8, 0, fun j => if j = 0 then some 13 else none)) else ((1000, 24, fun _ => none))) else (if Nat.blt i 15 then ((7, 0, fun j => if j = 0 then some 15 else if j = 1 then some 17 else if j = 2 then some 19 else if j = 3 then some 21 else if j = 4 then some 23 else none)) else (if Nat.blt i 16 then ((8, 0, fun j => if j = 0 then some 16 else none)) else ((1000, 80, fun _ => none))))))) else (if Nat.blt i 25 then (if Nat.blt i 21 then (if Nat.blt i 19 then (if Nat.blt i 18 then ((8, 0, fun j => if j = 0 then some 18 else none)) else ((1000, 80, fun _ => none))) else (if Nat.blt i 20 then ((8, 0, fun j => if j = 0 then some 20 else none)) else ((1000, 80, fun _ => none)))) else (if Nat.blt i 23 then (if Nat.blt i 22 then ((8, 0, fun j => if j = 0 then some 22 else none)) else ((1000, 80, fun _ => none))) else (if Nat.blt i 24 then ((8, 0, fun j => if j = 0 then some 24 else none)) else ((1000, 80, fun _ => none))))) else (if Nat.blt i 29 then (if Nat.blt i 27 then (if Nat.blt i 26 then ((4, 0, fun j => if j = 0 then some 26 else if j = 1 then some 28 else if j = 2 then some 30 else if j = 3 then some 32 else if j = 4 then some 34 else if j = 5 then some 36 else if j = 6 then some 38 else if j = 7 then some 40 else none)) else ((8, 0, fun j => if j = 0 then some 27 else none))) else (if Nat.blt i 28 then ((1000, 2048, fun _ => none)) else ((8, 0, fun j => if j = 0 then some 29 else none)))) else (if Nat.blt i 31 then (if Nat.blt i 30 then ((1000, 2048, fun _ => none)) else ((8, 0, fun j => if j = 0 then some 31 else none))) else (if Nat.blt i 32 then ((1000, 2048, fun _ => none)) else (if Nat.blt i 33 then ((8, 0, fun j => if j = 0 then some 33 else none)) else ((1000, 2048, fun _ => none)))))))) else (if Nat.blt i 51 then (if Nat.blt i 42 then (if Nat.blt i 38 then (if Nat.blt i 36 then (if Nat.blt i 35 then ((8, 0, fun j => if j = 0 then some 35 else none)) else ((1000, 80, fun _ => none))) else (if Nat.blt i 37 then ((8, 0, fun j => if j = 0 then some 37 else none)) else ((1000, 80, fun _ => none)))) else (if Nat.blt i 40 then (if Nat.blt i 39 then ((8, 0, fun j => if j = 0 then some 39 else none)) else ((1000, 80, fun _ => none))) else (if Nat.blt i 41 then ((8, 0, fun j => if j = 0 then some 41 else none)) else ((1000, 80, fun _ => none))))) else (if Nat.blt i 46 then (if Nat.blt i 44 then (if Nat.blt i 43 then ((6, 0, fun j => if j = 0 then some 43 else if j = 1 then some 45 else none)) else ((8, 0, fun j => if j = 0 then some 44 else none))) else (if Nat.blt i 45 then ((1000, 1024, fun _ => none)) else ((8, 0, fun j => if j = 0 then some 46 else none)))) else (if Nat.blt i 48 then (if Nat.blt i 47 then ((1000, 1025, fun _ => none)) else ((1, 0, fun j => if j = 0 then some 48 else none))) else (if Nat.blt i 49 then ((8, 0, fun j => if j = 0 then some 49 else none)) else (if Nat.blt i 50 then ((1000, 1365, fun _ => none)) else ((9, 0, fun j => if j = 0 then some 51 else if j = 1 then some 53 else if j = 2 then some 55 else if j = 3 then some 57 else none))))))) else (if Nat.blt i 59 then (if Nat.blt i 55 then (if Nat.blt i 53 then (if Nat.blt i 52 then ((8, 0, fun j => if j = 0 then some 52 else none)) else ((1000, 20, fun _ => none))) else (if Nat.blt i 54 then ((8, 0, fun j => if j = 0 then some 54 else none)) else ((1000, 20, fun _ => none)))) else (if Nat.blt i 57 then (if Nat.blt i 56 then ((8, 0, fun j => if j = 0 then some 56 else none)) else ((1000, 20, fun _ => none))) else (if Nat.blt i 58 then ((8, 0, fun j => if j = 0 then some 58 else none)) else ((1000, 20, fun _ => none))))) else (if Nat.blt i 63 then (if Nat.blt i 61 then (if Nat.blt i 60 then ((3, 0, fun j => if j = 0 then some 60 else if j = 1 then some 62 else none)) else ((8, 0, fun j => if j = 0 then some 61 else none))) else (if Nat.blt i 62 then ((1000, 1024, fun _ => none)) else ((8, 0, fun j => if j = 0 then some 63 else none)))) else (if Nat.blt i 65 then (if Nat.blt i 64 then ((1000, 1024, fun _ => none)) else ((5, 0, fun j => if j = 0 then some 65 else none))) else (if Nat.blt i 66 then ((8, 0, fun j => if j = 0 then some 66 else none)) else (if Nat.blt i 67 then ((1000, 80, fun _ => none)) else ((1000, 200, fun _ => none))))))))
def hm_sh (L : Nat) (g : Nat → hm_Sh) : Nat → hm_Sh := fun i => if Nat.blt i 68 then hm_sh0 L i else g i
section HRw
variable {R : hm_R} {N L : Nat} {g : Nat → hm_Sh} {s : hm_St} {b : hm_B} {Q : hm_Q} {k pc : Nat} {lv : hm_Lv} {st : List Value}
theorem hm_bxf (hR : hm_Cm R) {bx f x y : Nat} (hbk : (hm_sh L g bx).1 = 0) (hb2 : 2 ≤ bx) (hbl : bx < N) {n z : Nat} (hi : hm_ins k pc = some (.getfield f, n, x, y, z))
    (H : R k (pc + 3) lv (.int (s bx (f % 64)) :: st) (N, hm_sh L g, s) b Q) (hf : f / 64 = 0 := by first | rfl | decide) : R k pc lv (.ref bx :: st) (N, hm_sh L g, s) b Q := by
  refine hm_st hR ?_
  unfold hm_Step
  rw [hi]
  refine ⟨hbk.trans hf.symm, hb2, hbl, ?_⟩
  have e : hm_fv (hm_sh L g bx) (s bx) (f % 64) = .int (s bx (f % 64)) := by
    unfold hm_fv
    rw [hbk]
    rfl
  show R k (pc + 3) lv (hm_fv (hm_sh L g bx) (s bx) (f % 64) :: st) (N, hm_sh L g, s) b Q
  rw [e]
  exact H
theorem hm_rwf (hR : hm_Cm R) {rr aa f x y : Nat} (hrk : (hm_sh L g rr).1 = 8) (hra : (hm_sh L g rr).2.2 0 = some aa) (hr2 : 2 ≤ rr) (hrl : rr < N) {n z : Nat} (hi : hm_ins k pc = some (.getfield f, n, x, y, z))
    (H : R k (pc + 3) lv (.ref aa :: st) (N, hm_sh L g, s) b Q) (hf : f = 512 := by first | rfl | decide) : R k pc lv (.ref rr :: st) (N, hm_sh L g, s) b Q := by
  subst hf
  refine hm_st hR ?_
  unfold hm_Step
  rw [hi]
  refine ⟨hrk, hr2, hrl, ?_⟩
  have e : hm_fv (hm_sh L g rr) (s rr) 0 = .ref aa := by
    unfold hm_fv
    rw [hrk, hra]
    rfl
  show R k (pc + 3) lv (hm_fv (hm_sh L g rr) (s rr) 0 :: st) (N, hm_sh L g, s) b Q
  rw [e]
  exact H
theorem hm_aln (hR : hm_Cm R) {aa nn n x y z : Nat} (hak : (hm_sh L g aa).1 = 1000) (han : (hm_sh L g aa).2.1 = nn) (hal : aa < N) (hi : hm_ins k pc = some (.arraylength, n, x, y, z))
    (H : R k (pc + 1) lv (.int (Int32.ofNat nn) :: st) (N, hm_sh L g, s) b Q) : R k pc lv (.ref aa :: st) (N, hm_sh L g, s) b Q := by
  refine hm_st hR ?_
  unfold hm_Step
  rw [hi]
  subst han
  exact ⟨hak, hal, H⟩
theorem hm_ald (hR : hm_Cm R) {aa nn n x y z : Nat} {i : Int32} (hak : (hm_sh L g aa).1 = 1000) (han : (hm_sh L g aa).2.1 = nn) (hal : aa < N) (hi : hm_ins k pc = some (.iaload, n, x, y, z)) (hv : vp_in i nn)
    (H : R k (pc + 1) lv (.int (s aa i.toNatClampNeg) :: st) (N, hm_sh L g, s) b Q) : R k pc lv (.int i :: .ref aa :: st) (N, hm_sh L g, s) b Q := by
  refine hm_st hR ?_
  unfold hm_Step
  rw [hi]
  subst han
  exact ⟨hak, hal, hv, H⟩
theorem hm_ast (hR : hm_Cm R) {aa nn n x y z : Nat} {i v : Int32} (hak : (hm_sh L g aa).1 = 1000) (han : (hm_sh L g aa).2.1 = nn) (ha2 : 2 ≤ aa) (hal : aa < N) (hi : hm_ins k pc = some (.iastore, n, x, y, z)) (hv : vp_in i nn)
    (H : R k (pc + 1) lv st (N, hm_sh L g, hm_w1 s aa i.toNatClampNeg v) b Q) : R k pc lv (.int v :: .int i :: .ref aa :: st) (N, hm_sh L g, s) b Q := by
  refine hm_st hR ?_
  unfold hm_Step
  rw [hi]
  subst han
  exact ⟨hak, ha2, hal, hv, H⟩
end HRw
theorem hm_vin {i : Int32} {nn : Nat} (c1 : ¬ i < 0) (c2 : ¬ Int32.ofNat nn ≤ i) (hn : nn < 2 ^ 31 := by decide) : vp_in i nn := by
  obtain ⟨j, hj, rfl⟩ := nI_of c1
  exact vp_in_nI (Nat.not_le.mp fun h => c2 ((nI_leI hn hj).mpr h)) hn
theorem hm_nz1 {x : Int32} (c : 1 ≤ x) : ¬ x = 0 := fun h => absurd c (by rw [h]; decide)
theorem hm_nz2 {x : Int32} (c : 0 < x) : ¬ x = 0 := fun h => absurd c (by rw [h]; decide)
theorem hm_inc0 {E i : Int32} (h : 0 ≤ i) (c : ¬ E ≤ i) : 0 ≤ i + 1 := by
  have h1 : ¬ E.toInt ≤ i.toInt := fun h => c (Int32.le_iff_toInt_le.mpr h)
  have h2 := E.toInt_lt
  have h0 : (0 : Int32).toInt ≤ i.toInt := Int32.le_iff_toInt_le.mp h
  have h00 : (0 : Int32).toInt = 0 := rfl
  rw [h00] at h0
  apply Int32.le_iff_toInt_le.mpr
  have h4 : (i + 1).toInt = i.toInt + 1 := by
    rw [Int32.toInt_add, show (1 : Int32).toInt = 1 from rfl]
    apply Int.bmod_eq_of_le <;> omega
  rw [h4, h00]
  omega
theorem hm_nl {i : Int32} (h : 0 ≤ i) : ¬ i < 0 := Int32.not_lt.mpr h
theorem hm_ni {x c : Int32} (h : ¬ x = c) : ¬ x.toInt = c.toInt := fun e => h (Int32.toInt_inj.mp e)
theorem hm_tswD {d lo hi : Int} {offs : List Int} {x : Int32} (h : ¬ (lo ≤ x.toInt ∧ x.toInt ≤ hi)) : hm_tsw d lo hi offs x = d := if_pos (by omega)
theorem hm_swD3 {d : Int} {d2 : Nat} {offs : List Int} {x : Int32} (h0 : ¬ x = 0) (h1 : ¬ x = 1) (h2 : ¬ x = 2) (hd : d.toNat = d2 := by rfl) : (hm_tsw d 0 2 offs x).toNat = d2 := by
  have e0 : ¬ x.toInt = 0 := hm_ni h0
  have e1 : ¬ x.toInt = 1 := hm_ni h1
  have e2 : ¬ x.toInt = 2 := hm_ni h2
  rw [hm_tswD (by omega)]
  exact hd
theorem hm_swD5 {d : Int} {d2 : Nat} {offs : List Int} {x : Int32} (h0 : ¬ x = 0) (h1 : ¬ x = 1) (h2 : ¬ x = 2) (h3 : ¬ x = 3) (h4 : ¬ x = 4) (hd : d.toNat = d2 := by rfl) : (hm_tsw d 0 4 offs x).toNat = d2 := by
  have e0 : ¬ x.toInt = 0 := hm_ni h0
  have e1 : ¬ x.toInt = 1 := hm_ni h1
  have e2 : ¬ x.toInt = 2 := hm_ni h2
  have e3 : ¬ x.toInt = 3 := hm_ni h3
  have e4 : ¬ x.toInt = 4 := hm_ni h4
  rw [hm_tswD (by omega)]
  exact hd
theorem hm_swD7 {d : Int} {d2 : Nat} {offs : List Int} {x : Int32} (h0 : ¬ x = 0) (h1 : ¬ x = 1) (h2 : ¬ x = 2) (h3 : ¬ x = 3) (h4 : ¬ x = 4) (h5 : ¬ x = 5) (h6 : ¬ x = 6) (hd : d.toNat = d2 := by rfl) : (hm_tsw d 0 6 offs x).toNat = d2 := by
  have e0 : ¬ x.toInt = 0 := hm_ni h0
  have e1 : ¬ x.toInt = 1 := hm_ni h1
  have e2 : ¬ x.toInt = 2 := hm_ni h2
  have e3 : ¬ x.toInt = 3 := hm_ni h3
  have e4 : ¬ x.toInt = 4 := hm_ni h4
  have e5 : ¬ x.toInt = 5 := hm_ni h5
  have e6 : ¬ x.toInt = 6 := hm_ni h6
  rw [hm_tswD (by omega)]
  exact hd
theorem hm_swD9 {d : Int} {d2 : Nat} {offs : List Int} {x : Int32} (h0 : ¬ x = 0) (h1 : ¬ x = 1) (h2 : ¬ x = 2) (h3 : ¬ x = 3) (h4 : ¬ x = 4) (h5 : ¬ x = 5) (h6 : ¬ x = 6) (h7 : ¬ x = 7) (h8 : ¬ x = 8) (hd : d.toNat = d2 := by rfl) : (hm_tsw d 0 8 offs x).toNat = d2 := by
  have e0 : ¬ x.toInt = 0 := hm_ni h0
  have e1 : ¬ x.toInt = 1 := hm_ni h1
  have e2 : ¬ x.toInt = 2 := hm_ni h2
  have e3 : ¬ x.toInt = 3 := hm_ni h3
  have e4 : ¬ x.toInt = 4 := hm_ni h4
  have e5 : ¬ x.toInt = 5 := hm_ni h5
  have e6 : ¬ x.toInt = 6 := hm_ni h6
  have e7 : ¬ x.toInt = 7 := hm_ni h7
  have e8 : ¬ x.toInt = 8 := hm_ni h8
  rw [hm_tswD (by omega)]
  exact hd
theorem hm_swD7_8 {d : Int} {d2 : Nat} {offs : List Int} {x : Int32} (h0 : ¬ x = 8) (h1 : ¬ x = 9) (h2 : ¬ x = 10) (h3 : ¬ x = 11) (h4 : ¬ x = 12) (h5 : ¬ x = 13) (h6 : ¬ x = 14) (hd : d.toNat = d2 := by rfl) : (hm_tsw d 8 14 offs x).toNat = d2 := by
  have e0 : ¬ x.toInt = 8 := hm_ni h0
  have e1 : ¬ x.toInt = 9 := hm_ni h1
  have e2 : ¬ x.toInt = 10 := hm_ni h2
  have e3 : ¬ x.toInt = 11 := hm_ni h3
  have e4 : ¬ x.toInt = 12 := hm_ni h4
  have e5 : ¬ x.toInt = 13 := hm_ni h5
  have e6 : ¬ x.toInt = 14 := hm_ni h6
  rw [hm_tswD (by omega)]
  exact hd
theorem hm_lkD2 {d a b : Int} {d2 : Nat} {x : Int32} (h0 : ¬ x = 0) (h1 : ¬ x = 1) (hd : d.toNat = d2 := by rfl) : (Op.lookupswitch.offset [(0, a), (1, b)] d x.toInt).toNat = d2 := by
  have e0 : ¬ x.toInt = 0 := hm_ni h0
  have e1 : ¬ x.toInt = 1 := hm_ni h1
  rw [Op.lookupswitch.offset_cons, Op.lookupswitch.offset_cons, if_neg (fun e => e0 e.symm), if_neg (fun e => e1 e.symm)]
  exact hd
theorem hm_m1 {i : Int32} (h : (-2147483648 : Int) < i.toInt) : (i + (-1)).toInt = i.toInt - 1 := by
  have h2 := i.toInt_lt
  rw [Int32.toInt_add, show (-1 : Int32).toInt = -1 from rfl]
  apply Int.bmod_eq_of_le <;> omega
theorem hm_dcm {E i : Int32} {n : Nat} (c : ¬ i ≤ E) (hm : (i.toInt - E.toInt).toNat < n + 1) : ((i + (-1)).toInt - E.toInt).toNat < n := by
  have h1 : ¬ i.toInt ≤ E.toInt := fun h => c (Int32.le_iff_toInt_le.mpr h)
  have h3 := E.le_toInt
  rw [hm_m1 (by omega)]
  omega
theorem hm_dcn {i : Int32} {n : Nat} (c : ¬ i < 0) (hm : (i.toInt + 1).toNat < n + 1) : ((i + (-1)).toInt + 1).toNat < n := by
  have h1 : ¬ i.toInt < (0 : Int32).toInt := fun h => c (Int32.lt_iff_toInt_lt.mpr h)
  rw [show (0 : Int32).toInt = 0 from rfl] at h1
  rw [hm_m1 (by omega)]
  omega
theorem hm_dch {i : Int32} {n : Nat} (c : ¬ i ≤ 0) (hm : i.toInt.toNat < n + 1) : (i / 2).toInt.toNat < n := by
  obtain ⟨j, hj, rfl⟩ := nI_of (x := i) (fun h => c (Int32.le_of_lt h))
  have e : nI j / 2 = nI (j / 2) := pk_div hj (by decide) (by decide)
  rw [e, nI_toInt (by omega)]
  rw [nI_toInt hj] at hm
  have : ¬ j = 0 := fun h => c (by rw [h]; decide)
  omega
theorem hm_dcy {E i : Int32} {n : Nat} (c : ¬ E < i) (hE : E < 100000) (hm : (E.toInt + 1 - i.toInt).toNat < n + 1) : (E.toInt + 1 - (i + 1).toInt).toNat < n := by
  have h1 : ¬ E.toInt < i.toInt := fun h => c (Int32.lt_iff_toInt_lt.mpr h)
  have h2 : E.toInt < (100000 : Int32).toInt := Int32.lt_iff_toInt_lt.mp hE
  rw [show (100000 : Int32).toInt = 100000 from rfl] at h2
  have h3 := i.le_toInt
  have h4 : (i + 1).toInt = i.toInt + 1 := by
    rw [Int32.toInt_add, show (1 : Int32).toInt = 1 from rfl]
    apply Int.bmod_eq_of_le <;> omega
  rw [h4]
  omega
theorem hm_ltT {E i M : Int32} (c : ¬ E ≤ i) (h : E ≤ M) : i < M := Int32.lt_of_lt_of_le (Int32.not_le.mp c) h
theorem hm_dcE {E E' i : Int32} {n : Nat} (e : E' = E) (h : hm_df E i < n) : hm_df E' i < n := by rw [e]; exact h
theorem hm_tsS {R : hm_R} (hR : hm_Cm R) {k pc : Nat} {lv : hm_Lv} {r : List Value} {h : hm_Hp} {b : hm_B} {Q : hm_Q} {d lo ho : Int} {offs : Array Int} {n a c z : Nat} {x : Int32} (t : Nat)
    (hi : hm_ins k pc = some (.tableswitch d lo ho offs, n, a, c, z)) (e : (hm_tsw d lo ho offs.toList x).toNat = t) (H : R k t lv r h b Q) : R k pc lv (.int x :: r) h b Q := by
  refine hm_st hR ?_
  unfold hm_Step
  rw [hi]
  show R k (hm_tsw d lo _ offs.toList x).toNat lv r h b Q
  rw [e]
  exact H
theorem hm_lkS {R : hm_R} (hR : hm_Cm R) {k pc : Nat} {lv : hm_Lv} {r : List Value} {h : hm_Hp} {b : hm_B} {Q : hm_Q} {d : Int} {ps : Array (Int × Int)} {n a c z : Nat} {x : Int32} (t : Nat)
    (hi : hm_ins k pc = some (.lookupswitch d ps, n, a, c, z)) (e : (Op.lookupswitch.offset ps.toList d x.toInt).toNat = t) (H : R k t lv r h b Q) : R k pc lv (.int x :: r) h b Q := by
  refine hm_st hR ?_
  unfold hm_Step
  rw [hi]
  show R k (Op.lookupswitch.offset ps.toList d x.toInt).toNat lv r h b Q
  rw [e]
  exact H
end
section
/-! The methods as functions; the abstract machine does them. -/
/-- CurvekeyHouse.isBetween(III)Z -/
def T_34 (s : hm_St) (p1 : Int32) (p2 : Int32) (p3 : Int32) : Int32 := (if p1 < p2 then 0 else (if p3 < p1 then 0 else 1))
theorem B_34 (s : hm_St) (p1 : Int32) (p2 : Int32) (p3 : Int32) : T_34 s p1 p2 p3 = 0 ∨ T_34 s p1 p2 p3 = 1 := by
  unfold T_34
  repeat' split
  all_goals first | exact Or.inl rfl | exact Or.inr rfl
set_option maxRecDepth 20000 in
theorem sp_34 {R : hm_R} (hR : hm_Cm R) {N L : Nat} {g : Nat → hm_Sh} {s : hm_St} {b : hm_B} {Q : hm_Q} (hN : 68 ≤ N) {p1 : Int32} {p2 : Int32} {p3 : Int32} (hq : Q (.inr (some (.int (T_34 s p1 p2 p3)))) (N, hm_sh L g, s)) : R 34 0 (lv_args 0 [.int p1, .int p2, .int p3]) [] (N, hm_sh L g, s) b Q := by
  unfold T_34 at hq
  show R 34 0 [(0, .int p1), (1, .int p2), (2, .int p3)] [] (N, hm_sh L g, s) _ Q
  refine hm_st hR (hm_st hR (?_))
  show R 34 2 [(0, .int p1), (1, .int p2), (2, .int p3)] [.int p2, .int p1] (N, hm_sh L g, s) _ Q
  refine hm_st hR ⟨fun c2 => ?_, fun c2 => ?_⟩
  · rw [if_pos c2] at hq
    show R 34 14 [(0, .int p1), (1, .int p2), (2, .int p3)] [] (N, hm_sh L g, s) _ Q
    refine hm_st hR (?_)
    exact hm_st hR ⟨fun _ => Or.inl rfl, hq⟩
  · rw [if_neg c2] at hq
    show R 34 5 [(0, .int p1), (1, .int p2), (2, .int p3)] [] (N, hm_sh L g, s) _ Q
    refine hm_st hR (hm_st hR (?_))
    show R 34 7 [(0, .int p1), (1, .int p2), (2, .int p3)] [.int p3, .int p1] (N, hm_sh L g, s) _ Q
    suffices G : R 34 15 [(0, .int p1), (1, .int p2), (2, .int p3)] [.int (if p3 < p1 then 0 else 1)] (N, hm_sh L g, s) b Q by
      show R 34 7 [(0, .int p1), (1, .int p2), (2, .int p3)] [.int p3, .int p1] (N, hm_sh L g, s) _ Q
      refine hm_st hR ⟨fun c => ?_, fun c => ?_⟩
      · rw [if_pos c] at G; exact hm_st hR (G)
      · rw [if_neg c] at G; exact hm_st hR (hm_st hR (G))
    exact hm_st hR ⟨fun _ => (by split <;> first | exact Or.inl rfl | exact Or.inr rfl), hq⟩
/-- CurvekeyHouse.isCurve(I)Z -/
def T_35 (s : hm_St) (p1 : Int32) : Int32 := (T_34 s p1 0 5)
theorem B_35 (s : hm_St) (p1 : Int32) : T_35 s p1 = 0 ∨ T_35 s p1 = 1 := by
  unfold T_35
  repeat' split
  all_goals first | exact Or.inl rfl | exact Or.inr rfl | exact B_34 _ _ _ _
set_option maxRecDepth 20000 in
theorem sp_35 {R : hm_R} (hR : hm_Cm R) {N L : Nat} {g : Nat → hm_Sh} {s : hm_St} {b : hm_B} {Q : hm_Q} (hN : 68 ≤ N) {p1 : Int32} (hq : Q (.inr (some (.int (T_35 s p1)))) (N, hm_sh L g, s)) : R 35 0 (lv_args 0 [.int p1]) [] (N, hm_sh L g, s) b Q := by
  unfold T_35 at hq
  show R 35 0 [(0, .int p1)] [] (N, hm_sh L g, s) _ Q
  refine hm_st hR (hm_st hR (hm_st hR (?_)))
  refine hm_st hR ⟨hm_le rfl, hm_le rfl, hm_le rfl, (0, 0), Nat.zero_le _, Nat.zero_le _, ?_⟩
  refine sp_34 hR hN ?_
  show R 35 6 [(0, .int p1)] [.int (T_34 s p1 0 5)] (N, hm_sh L g, s) _ Q
  exact hm_st hR ⟨fun _ => B_34 _ _ _ _, hq⟩
/-- CurvekeyHouse$Curves.side()I -/
def T_86 (s : hm_St) : Int32 := (s 3 6)
set_option maxRecDepth 20000 in
theorem sp_86 {R : hm_R} (hR : hm_Cm R) {N L : Nat} {g : Nat → hm_Sh} {s : hm_St} {b : hm_B} {Q : hm_Q} (hN : 68 ≤ N) (hq : Q (.inr (some (.int (T_86 s)))) (N, hm_sh L g, s)) : R 86 0 (lv_args 0 [.ref 3]) [] (N, hm_sh L g, s) b Q := by
  unfold T_86 at hq
  show R 86 0 [(0, .ref 3)] [] (N, hm_sh L g, s) _ Q
  refine hm_st hR (hm_st hR ⟨rfl, hm_le rfl, (hm_ltN hN rfl), ?_⟩)
  exact hm_st hR ⟨fun z => absurd z (by decide), hq⟩
/-- CurvekeyHouse.isPlace(II)Z -/
def T_37 (s : hm_St) (p1 : Int32) (p2 : Int32) : Int32 := (if (T_34 s p1 0 ((T_86 s) - 1)) = 0 then 0 else (if (T_34 s p2 0 ((T_86 s) - 1)) = 0 then 0 else 1))
theorem B_37 (s : hm_St) (p1 : Int32) (p2 : Int32) : T_37 s p1 p2 = 0 ∨ T_37 s p1 p2 = 1 := by
  unfold T_37
  repeat' split
  all_goals first | exact Or.inl rfl | exact Or.inr rfl | exact B_34 _ _ _ _
set_option maxRecDepth 20000 in
theorem sp_37 {R : hm_R} (hR : hm_Cm R) {N L : Nat} {g : Nat → hm_Sh} {s : hm_St} {b : hm_B} {Q : hm_Q} (hN : 68 ≤ N) {p1 : Int32} {p2 : Int32} (hq : Q (.inr (some (.int (T_37 s p1 p2)))) (N, hm_sh L g, s)) : R 37 0 (lv_args 0 [.ref 2, .int p1, .int p2]) [] (N, hm_sh L g, s) b Q := by
  unfold T_37 at hq
  show R 37 0 [(0, .ref 2), (1, .int p1), (2, .int p2)] [] (N, hm_sh L g, s) _ Q
  refine hm_st hR (hm_st hR (hm_st hR (hm_st hR ⟨rfl, hm_le rfl, (hm_ltN hN rfl), ?_⟩)))
  refine hm_st hR ⟨hm_le rfl, rfl, (hm_le rfl), (hm_ltN hN rfl), hm_le rfl, hm_le rfl, (0, 0), Nat.zero_le _, Nat.zero_le _, ?_⟩
  refine sp_86 hR hN ?_
  show R 37 9 [(0, .ref 2), (1, .int p1), (2, .int p2)] [.int (T_86 s), .int 0, .int p1] (N, hm_sh L g, s) _ Q
  refine hm_st hR (hm_st hR (?_))
  refine hm_st hR ⟨hm_le rfl, hm_le rfl, hm_le rfl, (0, 0), Nat.zero_le _, Nat.zero_le _, ?_⟩
  refine sp_34 hR hN ?_
  show R 37 14 [(0, .ref 2), (1, .int p1), (2, .int p2)] [.int (T_34 s p1 0 ((T_86 s) - 1))] (N, hm_sh L g, s) _ Q
  show R 37 14 [(0, .ref 2), (1, .int p1), (2, .int p2)] [.int (T_34 s p1 0 ((T_86 s) - 1))] (N, hm_sh L g, s) _ Q
  refine hm_st hR ⟨fun c14 => ?_, fun c14 => ?_⟩
  · rw [if_pos c14] at hq
    show R 37 38 [(0, .ref 2), (1, .int p1), (2, .int p2)] [] (N, hm_sh L g, s) _ Q
    refine hm_st hR (?_)
    exact hm_st hR ⟨fun _ => Or.inl rfl, hq⟩
  · rw [if_neg c14] at hq
    show R 37 17 [(0, .ref 2), (1, .int p1), (2, .int p2)] [] (N, hm_sh L g, s) _ Q
    refine hm_st hR (hm_st hR (hm_st hR (hm_st hR ⟨rfl, hm_le rfl, (hm_ltN hN rfl), ?_⟩)))
    refine hm_st hR ⟨hm_le rfl, rfl, (hm_le rfl), (hm_ltN hN rfl), hm_le rfl, hm_le rfl, (0, 0), Nat.zero_le _, Nat.zero_le _, ?_⟩
    refine sp_86 hR hN ?_
    show R 37 26 [(0, .ref 2), (1, .int p1), (2, .int p2)] [.int (T_86 s), .int 0, .int p2] (N, hm_sh L g, s) _ Q
    refine hm_st hR (hm_st hR (?_))
    refine hm_st hR ⟨hm_le rfl, hm_le rfl, hm_le rfl, (0, 0), Nat.zero_le _, Nat.zero_le _, ?_⟩
    refine sp_34 hR hN ?_
    show R 37 31 [(0, .ref 2), (1, .int p1), (2, .int p2)] [.int (T_34 s p2 0 ((T_86 s) - 1))] (N, hm_sh L g, s) _ Q
    show R 37 31 [(0, .ref 2), (1, .int p1), (2, .int p2)] [.int (T_34 s p2 0 ((T_86 s) - 1))] (N, hm_sh L g, s) _ Q
    suffices G : R 37 39 [(0, .ref 2), (1, .int p1), (2, .int p2)] [.int (if (T_34 s p2 0 ((T_86 s) - 1)) = 0 then 0 else 1)] (N, hm_sh L g, s) ((((b.1 - 0, b.2 - 0).1 - 0, (b.1 - 0, b.2 - 0).2 - 0).1 - 0, ((b.1 - 0, b.2 - 0).1 - 0, (b.1 - 0, b.2 - 0).2 - 0).2 - 0).1 - 0, (((b.1 - 0, b.2 - 0).1 - 0, (b.1 - 0, b.2 - 0).2 - 0).1 - 0, ((b.1 - 0, b.2 - 0).1 - 0, (b.1 - 0, b.2 - 0).2 - 0).2 - 0).2 - 0) Q by
      show R 37 31 [(0, .ref 2), (1, .int p1), (2, .int p2)] [.int (T_34 s p2 0 ((T_86 s) - 1))] (N, hm_sh L g, s) _ Q
      refine hm_st hR ⟨fun c => ?_, fun c => ?_⟩
      · rw [if_pos c] at G; exact hm_st hR (G)
      · rw [if_neg c] at G; exact hm_st hR (hm_st hR (G))
    exact hm_st hR ⟨fun _ => (by split <;> first | exact Or.inl rfl | exact Or.inr rfl), hq⟩
/-- CurvekeyHouse$Curves.keyCount()I -/
def T_87 (s : hm_St) : Int32 := ((s 3 6) * (s 3 6))
set_option maxRecDepth 20000 in
theorem sp_87 {R : hm_R} (hR : hm_Cm R) {N L : Nat} {g : Nat → hm_Sh} {s : hm_St} {b : hm_B} {Q : hm_Q} (hN : 68 ≤ N) (hq : Q (.inr (some (.int (T_87 s)))) (N, hm_sh L g, s)) : R 87 0 (lv_args 0 [.ref 3]) [] (N, hm_sh L g, s) b Q := by
  unfold T_87 at hq
  show R 87 0 [(0, .ref 3)] [] (N, hm_sh L g, s) _ Q
  refine hm_st hR (hm_st hR ⟨rfl, hm_le rfl, (hm_ltN hN rfl), hm_st hR (hm_st hR ⟨rfl, hm_le rfl, (hm_ltN hN rfl), hm_st hR (?_)⟩)⟩)
  exact hm_st hR ⟨fun z => absurd z (by decide), hq⟩
/-- CurvekeyHouse.isKey(I)Z -/
def T_36 (s : hm_St) (p1 : Int32) : Int32 := (T_34 s p1 0 ((T_87 s) - 1))
theorem B_36 (s : hm_St) (p1 : Int32) : T_36 s p1 = 0 ∨ T_36 s p1 = 1 := by
  unfold T_36
  repeat' split
  all_goals first | exact Or.inl rfl | exact Or.inr rfl | exact B_34 _ _ _ _
set_option maxRecDepth 20000 in
theorem sp_36 {R : hm_R} (hR : hm_Cm R) {N L : Nat} {g : Nat → hm_Sh} {s : hm_St} {b : hm_B} {Q : hm_Q} (hN : 68 ≤ N) {p1 : Int32} (hq : Q (.inr (some (.int (T_36 s p1)))) (N, hm_sh L g, s)) : R 36 0 (lv_args 0 [.ref 2, .int p1]) [] (N, hm_sh L g, s) b Q := by
  unfold T_36 at hq
  show R 36 0 [(0, .ref 2), (1, .int p1)] [] (N, hm_sh L g, s) _ Q
  refine hm_st hR (hm_st hR (hm_st hR (hm_st hR ⟨rfl, hm_le rfl, (hm_ltN hN rfl), ?_⟩)))
  refine hm_st hR ⟨hm_le rfl, rfl, (hm_le rfl), (hm_ltN hN rfl), hm_le rfl, hm_le rfl, (0, 0), Nat.zero_le _, Nat.zero_le _, ?_⟩
  refine sp_87 hR hN ?_
  show R 36 9 [(0, .ref 2), (1, .int p1)] [.int (T_87 s), .int 0, .int p1] (N, hm_sh L g, s) _ Q
  refine hm_st hR (hm_st hR (?_))
  refine hm_st hR ⟨hm_le rfl, hm_le rfl, hm_le rfl, (0, 0), Nat.zero_le _, Nat.zero_le _, ?_⟩
  refine sp_34 hR hN ?_
  show R 36 14 [(0, .ref 2), (1, .int p1)] [.int (T_34 s p1 0 ((T_87 s) - 1))] (N, hm_sh L g, s) _ Q
  exact hm_st hR ⟨fun _ => B_34 _ _ _ _, hq⟩
/-- CurvekeyHouse.isBox(IIII)Z -/
def T_38 (s : hm_St) (p1 : Int32) (p2 : Int32) (p3 : Int32) (p4 : Int32) : Int32 := (if (T_37 s p1 p2) = 0 then 0 else (if (T_34 s p3 1 ((T_86 s) - p1)) = 0 then 0 else (if (T_34 s p4 1 ((T_86 s) - p2)) = 0 then 0 else 1)))
theorem B_38 (s : hm_St) (p1 : Int32) (p2 : Int32) (p3 : Int32) (p4 : Int32) : T_38 s p1 p2 p3 p4 = 0 ∨ T_38 s p1 p2 p3 p4 = 1 := by
  unfold T_38
  repeat' split
  all_goals first | exact Or.inl rfl | exact Or.inr rfl | exact B_34 _ _ _ _ | exact B_37 _ _ _
set_option maxRecDepth 20000 in
theorem sp_38 {R : hm_R} (hR : hm_Cm R) {N L : Nat} {g : Nat → hm_Sh} {s : hm_St} {b : hm_B} {Q : hm_Q} (hN : 68 ≤ N) {p1 : Int32} {p2 : Int32} {p3 : Int32} {p4 : Int32} (hq : Q (.inr (some (.int (T_38 s p1 p2 p3 p4)))) (N, hm_sh L g, s)) : R 38 0 (lv_args 0 [.ref 2, .int p1, .int p2, .int p3, .int p4]) [] (N, hm_sh L g, s) b Q := by
  unfold T_38 at hq
  show R 38 0 [(0, .ref 2), (1, .int p1), (2, .int p2), (3, .int p3), (4, .int p4)] [] (N, hm_sh L g, s) _ Q
  refine hm_st hR (hm_st hR (hm_st hR (?_)))
  refine hm_st hR ⟨hm_le rfl, rfl, (hm_le rfl), (hm_ltN hN rfl), hm_le rfl, hm_le rfl, (0, 0), Nat.zero_le _, Nat.zero_le _, ?_⟩
  refine sp_37 hR hN ?_
  show R 38 6 [(0, .ref 2), (1, .int p1), (2, .int p2), (3, .int p3), (4, .int p4)] [.int (T_37 s p1 p2)] (N, hm_sh L g, s) _ Q
  show R 38 6 [(0, .ref 2), (1, .int p1), (2, .int p2), (3, .int p3), (4, .int p4)] [.int (T_37 s p1 p2)] (N, hm_sh L g, s) _ Q
  refine hm_st hR ⟨fun c6 => ?_, fun c6 => ?_⟩
  · rw [if_pos c6] at hq
    show R 38 48 [(0, .ref 2), (1, .int p1), (2, .int p2), (3, .int p3), (4, .int p4)] [] (N, hm_sh L g, s) _ Q
    refine hm_st hR (?_)
    exact hm_st hR ⟨fun _ => Or.inl rfl, hq⟩
  · rw [if_neg c6] at hq
    show R 38 9 [(0, .ref 2), (1, .int p1), (2, .int p2), (3, .int p3), (4, .int p4)] [] (N, hm_sh L g, s) _ Q
    refine hm_st hR (hm_st hR (hm_st hR (hm_st hR ⟨rfl, hm_le rfl, (hm_ltN hN rfl), ?_⟩)))
    refine hm_st hR ⟨hm_le rfl, rfl, (hm_le rfl), (hm_ltN hN rfl), hm_le rfl, hm_le rfl, (0, 0), Nat.zero_le _, Nat.zero_le _, ?_⟩
    refine sp_86 hR hN ?_
    show R 38 18 [(0, .ref 2), (1, .int p1), (2, .int p2), (3, .int p3), (4, .int p4)] [.int (T_86 s), .int 1, .int p3] (N, hm_sh L g, s) _ Q
    refine hm_st hR (hm_st hR (?_))
    refine hm_st hR ⟨hm_le rfl, hm_le rfl, hm_le rfl, (0, 0), Nat.zero_le _, Nat.zero_le _, ?_⟩
    refine sp_34 hR hN ?_
    show R 38 23 [(0, .ref 2), (1, .int p1), (2, .int p2), (3, .int p3), (4, .int p4)] [.int (T_34 s p3 1 ((T_86 s) - p1))] (N, hm_sh L g, s) _ Q
    show R 38 23 [(0, .ref 2), (1, .int p1), (2, .int p2), (3, .int p3), (4, .int p4)] [.int (T_34 s p3 1 ((T_86 s) - p1))] (N, hm_sh L g, s) _ Q
    refine hm_st hR ⟨fun c23 => ?_, fun c23 => ?_⟩
    · rw [if_pos c23] at hq
      show R 38 48 [(0, .ref 2), (1, .int p1), (2, .int p2), (3, .int p3), (4, .int p4)] [] (N, hm_sh L g, s) _ Q
      refine hm_st hR (?_)
      exact hm_st hR ⟨fun _ => Or.inl rfl, hq⟩
    · rw [if_neg c23] at hq
      show R 38 26 [(0, .ref 2), (1, .int p1), (2, .int p2), (3, .int p3), (4, .int p4)] [] (N, hm_sh L g, s) _ Q
      refine hm_st hR (hm_st hR (hm_st hR (hm_st hR ⟨rfl, hm_le rfl, (hm_ltN hN rfl), ?_⟩)))
      refine hm_st hR ⟨hm_le rfl, rfl, (hm_le rfl), (hm_ltN hN rfl), hm_le rfl, hm_le rfl, (0, 0), Nat.zero_le _, Nat.zero_le _, ?_⟩
      refine sp_86 hR hN ?_
      show R 38 36 [(0, .ref 2), (1, .int p1), (2, .int p2), (3, .int p3), (4, .int p4)] [.int (T_86 s), .int 1, .int p4] (N, hm_sh L g, s) _ Q
      refine hm_st hR (hm_st hR (?_))
      refine hm_st hR ⟨hm_le rfl, hm_le rfl, hm_le rfl, (0, 0), Nat.zero_le _, Nat.zero_le _, ?_⟩
      refine sp_34 hR hN ?_
      show R 38 41 [(0, .ref 2), (1, .int p1), (2, .int p2), (3, .int p3), (4, .int p4)] [.int (T_34 s p4 1 ((T_86 s) - p2))] (N, hm_sh L g, s) _ Q
      show R 38 41 [(0, .ref 2), (1, .int p1), (2, .int p2), (3, .int p3), (4, .int p4)] [.int (T_34 s p4 1 ((T_86 s) - p2))] (N, hm_sh L g, s) _ Q
      suffices G : R 38 49 [(0, .ref 2), (1, .int p1), (2, .int p2), (3, .int p3), (4, .int p4)] [.int (if (T_34 s p4 1 ((T_86 s) - p2)) = 0 then 0 else 1)] (N, hm_sh L g, s) (((((b.1 - 0, b.2 - 0).1 - 0, (b.1 - 0, b.2 - 0).2 - 0).1 - 0, ((b.1 - 0, b.2 - 0).1 - 0, (b.1 - 0, b.2 - 0).2 - 0).2 - 0).1 - 0, (((b.1 - 0, b.2 - 0).1 - 0, (b.1 - 0, b.2 - 0).2 - 0).1 - 0, ((b.1 - 0, b.2 - 0).1 - 0, (b.1 - 0, b.2 - 0).2 - 0).2 - 0).2 - 0).1 - 0, ((((b.1 - 0, b.2 - 0).1 - 0, (b.1 - 0, b.2 - 0).2 - 0).1 - 0, ((b.1 - 0, b.2 - 0).1 - 0, (b.1 - 0, b.2 - 0).2 - 0).2 - 0).1 - 0, (((b.1 - 0, b.2 - 0).1 - 0, (b.1 - 0, b.2 - 0).2 - 0).1 - 0, ((b.1 - 0, b.2 - 0).1 - 0, (b.1 - 0, b.2 - 0).2 - 0).2 - 0).2 - 0).2 - 0) Q by
        show R 38 41 [(0, .ref 2), (1, .int p1), (2, .int p2), (3, .int p3), (4, .int p4)] [.int (T_34 s p4 1 ((T_86 s) - p2))] (N, hm_sh L g, s) _ Q
        refine hm_st hR ⟨fun c => ?_, fun c => ?_⟩
        · rw [if_pos c] at G; exact hm_st hR (G)
        · rw [if_neg c] at G; exact hm_st hR (hm_st hR (G))
      exact hm_st hR ⟨fun _ => (by split <;> first | exact Or.inl rfl | exact Or.inr rfl), hq⟩
/-- CurvekeyHouse$Points.isKnown(I)Z -/
def T_159 (s : hm_St) (p1 : Int32) : Int32 := (if p1 < 0 then 0 else (if (s 14 5) ≤ p1 then 0 else 1))
theorem B_159 (s : hm_St) (p1 : Int32) : T_159 s p1 = 0 ∨ T_159 s p1 = 1 := by
  unfold T_159
  repeat' split
  all_goals first | exact Or.inl rfl | exact Or.inr rfl
set_option maxRecDepth 20000 in
theorem sp_159 {R : hm_R} (hR : hm_Cm R) {N L : Nat} {g : Nat → hm_Sh} {s : hm_St} {b : hm_B} {Q : hm_Q} (hN : 68 ≤ N) {p1 : Int32} (hq : Q (.inr (some (.int (T_159 s p1)))) (N, hm_sh L g, s)) : R 159 0 (lv_args 0 [.ref 14, .int p1]) [] (N, hm_sh L g, s) b Q := by
  unfold T_159 at hq
  show R 159 0 [(0, .ref 14), (1, .int p1)] [] (N, hm_sh L g, s) _ Q
  refine hm_st hR (?_)
  show R 159 1 [(0, .ref 14), (1, .int p1)] [.int p1] (N, hm_sh L g, s) _ Q
  refine hm_st hR ⟨fun c1 => ?_, fun c1 => ?_⟩
  · rw [if_pos c1] at hq
    show R 159 16 [(0, .ref 14), (1, .int p1)] [] (N, hm_sh L g, s) _ Q
    refine hm_st hR (?_)
    exact hm_st hR ⟨fun _ => Or.inl rfl, hq⟩
  · rw [if_neg c1] at hq
    show R 159 4 [(0, .ref 14), (1, .int p1)] [] (N, hm_sh L g, s) _ Q
    refine hm_st hR (hm_st hR (hm_st hR ⟨rfl, hm_le rfl, (hm_ltN hN rfl), ?_⟩))
    show R 159 9 [(0, .ref 14), (1, .int p1)] [.int (s 14 5), .int p1] (N, hm_sh L g, s) _ Q
    suffices G : R 159 17 [(0, .ref 14), (1, .int p1)] [.int (if (s 14 5) ≤ p1 then 0 else 1)] (N, hm_sh L g, s) b Q by
      show R 159 9 [(0, .ref 14), (1, .int p1)] [.int (s 14 5), .int p1] (N, hm_sh L g, s) _ Q
      refine hm_st hR ⟨fun c => ?_, fun c => ?_⟩
      · rw [if_pos c] at G; exact hm_st hR (G)
      · rw [if_neg c] at G; exact hm_st hR (hm_st hR (G))
    exact hm_st hR ⟨fun _ => (by split <;> first | exact Or.inl rfl | exact Or.inr rfl), hq⟩
/-- CurvekeyHouse$Row.at(I)I -/
def T_178 (s : hm_St) (aa : Nat) (nn : Nat) (p1 : Int32) : Int32 := (if p1 < 0 then (-1) else (if (Int32.ofNat nn) ≤ p1 then (-1) else (s aa (p1).toNatClampNeg)))
set_option maxRecDepth 20000 in
theorem sp_178 {R : hm_R} (hR : hm_Cm R) {N L : Nat} {g : Nat → hm_Sh} {s : hm_St} {b : hm_B} {Q : hm_Q} (hN : 68 ≤ N) {rr aa nn : Nat} (hrk : (hm_sh L g rr).1 = 8) (hra : (hm_sh L g rr).2.2 0 = some aa) (hr2 : 2 ≤ rr) (hrl : rr < N) (hak : (hm_sh L g aa).1 = 1000) (han : (hm_sh L g aa).2.1 = nn) (ha2 : 2 ≤ aa) (hal : aa < N) (hnn : nn < 2 ^ 31) {p1 : Int32} (hq : Q (.inr (some (.int (T_178 s aa nn p1)))) (N, hm_sh L g, s)) : R 178 0 (lv_args 0 [.ref rr, .int p1]) [] (N, hm_sh L g, s) b Q := by
  unfold T_178 at hq
  show R 178 0 [(0, .ref rr), (1, .int p1)] [] (N, hm_sh L g, s) _ Q
  refine hm_st hR (?_)
  show R 178 1 [(0, .ref rr), (1, .int p1)] [.int p1] (N, hm_sh L g, s) _ Q
  refine hm_st hR ⟨fun c1 => ?_, fun c1 => ?_⟩
  · rw [if_pos c1] at hq
    show R 178 22 [(0, .ref rr), (1, .int p1)] [] (N, hm_sh L g, s) _ Q
    refine hm_st hR (?_)
    exact hm_st hR ⟨fun z => absurd z (by decide), hq⟩
  · rw [if_neg c1] at hq
    show R 178 4 [(0, .ref rr), (1, .int p1)] [] (N, hm_sh L g, s) _ Q
    refine hm_st hR (hm_st hR (?_))
    show R 178 6 [(0, .ref rr), (1, .int p1)] [.ref rr, .int p1] (N, hm_sh L g, s) _ Q
    refine hm_rwf hR hrk hra hr2 hrl (by rfl) ?_
    show R 178 9 [(0, .ref rr), (1, .int p1)] [.ref aa, .int p1] (N, hm_sh L g, s) _ Q
    show R 178 9 [(0, .ref rr), (1, .int p1)] [.ref aa, .int p1] (N, hm_sh L g, s) _ Q
    refine hm_aln hR hak han hal (by rfl) ?_
    show R 178 10 [(0, .ref rr), (1, .int p1)] [.int (Int32.ofNat nn), .int p1] (N, hm_sh L g, s) _ Q
    show R 178 10 [(0, .ref rr), (1, .int p1)] [.int (Int32.ofNat nn), .int p1] (N, hm_sh L g, s) _ Q
    refine hm_st hR ⟨fun c10 => ?_, fun c10 => ?_⟩
    · rw [if_pos c10] at hq
      show R 178 22 [(0, .ref rr), (1, .int p1)] [] (N, hm_sh L g, s) _ Q
      refine hm_st hR (?_)
      exact hm_st hR ⟨fun z => absurd z (by decide), hq⟩
    · rw [if_neg c10] at hq
      show R 178 13 [(0, .ref rr), (1, .int p1)] [] (N, hm_sh L g, s) _ Q
      refine hm_st hR (?_)
      show R 178 14 [(0, .ref rr), (1, .int p1)] [.ref rr] (N, hm_sh L g, s) _ Q
      refine hm_rwf hR hrk hra hr2 hrl (by rfl) ?_
      show R 178 17 [(0, .ref rr), (1, .int p1)] [.ref aa] (N, hm_sh L g, s) _ Q
      refine hm_st hR (?_)
      show R 178 18 [(0, .ref rr), (1, .int p1)] [.int p1, .ref aa] (N, hm_sh L g, s) _ Q
      refine hm_ald hR hak han hal (by rfl) (hm_vin c1 c10 hnn) ?_
      show R 178 19 [(0, .ref rr), (1, .int p1)] [.int (s aa (p1).toNatClampNeg)] (N, hm_sh L g, s) _ Q
      refine hm_st hR (?_)
      exact hm_st hR ⟨fun z => absurd z (by decide), hq⟩
/-- CurvekeyHouse$Row.set(II)V -/
def T_179 (s : hm_St) (aa : Nat) (nn : Nat) (p1 : Int32) (p2 : Int32) : hm_St := (if p1 < 0 then s else (if (Int32.ofNat nn) ≤ p1 then s else (hm_w1 s aa (p1).toNatClampNeg p2)))
theorem N_179 {c j : Nat} {aa nn : Nat} (haa : c ≠ aa) {s : hm_St} {p1 : Int32} {p2 : Int32} : (T_179 s aa nn p1 p2) c j = s c j := by
  unfold T_179
  repeat' split
  all_goals first | rfl | simp only [hm_w1n haa]
set_option maxRecDepth 20000 in
theorem sp_179 {R : hm_R} (hR : hm_Cm R) {N L : Nat} {g : Nat → hm_Sh} {s : hm_St} {b : hm_B} {Q : hm_Q} (hN : 68 ≤ N) {rr aa nn : Nat} (hrk : (hm_sh L g rr).1 = 8) (hra : (hm_sh L g rr).2.2 0 = some aa) (hr2 : 2 ≤ rr) (hrl : rr < N) (hak : (hm_sh L g aa).1 = 1000) (han : (hm_sh L g aa).2.1 = nn) (ha2 : 2 ≤ aa) (hal : aa < N) (hnn : nn < 2 ^ 31) {p1 : Int32} {p2 : Int32} (hq : Q (.inr none) (N, hm_sh L g, (T_179 s aa nn p1 p2))) : R 179 0 (lv_args 0 [.ref rr, .int p1, .int p2]) [] (N, hm_sh L g, s) b Q := by
  unfold T_179 at hq
  show R 179 0 [(0, .ref rr), (1, .int p1), (2, .int p2)] [] (N, hm_sh L g, s) _ Q
  refine hm_st hR (?_)
  show R 179 1 [(0, .ref rr), (1, .int p1), (2, .int p2)] [.int p1] (N, hm_sh L g, s) _ Q
  refine hm_st hR ⟨fun c1 => ?_, fun c1 => ?_⟩
  · rw [if_pos c1] at hq
    show R 179 20 [(0, .ref rr), (1, .int p1), (2, .int p2)] [] (N, hm_sh L g, s) _ Q
    exact hm_st hR hq
  · rw [if_neg c1] at hq
    show R 179 4 [(0, .ref rr), (1, .int p1), (2, .int p2)] [] (N, hm_sh L g, s) _ Q
    refine hm_st hR (hm_st hR (?_))
    show R 179 6 [(0, .ref rr), (1, .int p1), (2, .int p2)] [.ref rr, .int p1] (N, hm_sh L g, s) _ Q
    refine hm_rwf hR hrk hra hr2 hrl (by rfl) ?_
    show R 179 9 [(0, .ref rr), (1, .int p1), (2, .int p2)] [.ref aa, .int p1] (N, hm_sh L g, s) _ Q
    show R 179 9 [(0, .ref rr), (1, .int p1), (2, .int p2)] [.ref aa, .int p1] (N, hm_sh L g, s) _ Q
    refine hm_aln hR hak han hal (by rfl) ?_
    show R 179 10 [(0, .ref rr), (1, .int p1), (2, .int p2)] [.int (Int32.ofNat nn), .int p1] (N, hm_sh L g, s) _ Q
    show R 179 10 [(0, .ref rr), (1, .int p1), (2, .int p2)] [.int (Int32.ofNat nn), .int p1] (N, hm_sh L g, s) _ Q
    refine hm_st hR ⟨fun c10 => ?_, fun c10 => ?_⟩
    · rw [if_pos c10] at hq
      show R 179 20 [(0, .ref rr), (1, .int p1), (2, .int p2)] [] (N, hm_sh L g, s) _ Q
      exact hm_st hR hq
    · rw [if_neg c10] at hq
      show R 179 13 [(0, .ref rr), (1, .int p1), (2, .int p2)] [] (N, hm_sh L g, s) _ Q
      refine hm_st hR (?_)
      show R 179 14 [(0, .ref rr), (1, .int p1), (2, .int p2)] [.ref rr] (N, hm_sh L g, s) _ Q
      refine hm_rwf hR hrk hra hr2 hrl (by rfl) ?_
      show R 179 17 [(0, .ref rr), (1, .int p1), (2, .int p2)] [.ref aa] (N, hm_sh L g, s) _ Q
      refine hm_st hR (hm_st hR (?_))
      show R 179 19 [(0, .ref rr), (1, .int p1), (2, .int p2)] [.int p2, .int p1, .ref aa] (N, hm_sh L g, s) _ Q
      refine hm_ast hR hak han ha2 hal (by rfl) (hm_vin c1 c10 hnn) ?_
      show R 179 20 [(0, .ref rr), (1, .int p1), (2, .int p2)] [] (N, hm_sh L g, (hm_w1 s aa (p1).toNatClampNeg p2)) _ Q
      exact hm_st hR hq
def T_141_23 : Nat → hm_St → Int32 → Int32 → Int32 → Int32 → Int32
  | 0, s, _, _, _, _ => 0
  | n + 1, s, v1, v2, v3, v4 => (if v3 ≤ v4 then v2 else (if (T_178 s 44 1024 v4) = (-1) then (T_141_23 n s v1 v2 v3 (v4 + 1)) else (T_141_23 n s v1 (v2 + 1) v3 (v4 + 1))))
/-- CurvekeyHouse$Pages.entriesIn(I)I -/
def T_141 (s : hm_St) (p1 : Int32) : Int32 := (T_141_23 (hm_df (T_178 s 46 1025 (p1 + 1)) (T_178 s 46 1025 p1) + 1) s p1 0 (T_178 s 46 1025 (p1 + 1)) (T_178 s 46 1025 p1))
set_option maxRecDepth 20000 in
theorem lp_141_23 {R : hm_R} (hR : hm_Cm R) {N L : Nat} {g : Nat → hm_Sh} {b : hm_B} {Q : hm_Q} (hN : 68 ≤ N) : ∀ (n : Nat) (s : hm_St) (v1 : Int32) (v2 : Int32) (v3 : Int32) (v4 : Int32), hm_df v3 v4 < n → (hq : Q (.inr (some (.int (T_141_23 n s v1 v2 v3 v4)))) (N, hm_sh L g, s)) → R 141 23 [(4, .int v4), (3, .int v3), (2, .int v2), (0, .ref 42), (1, .int v1)] [] (N, hm_sh L g, s) b Q := by
  intro n
  induction n with
  | zero => intro s v1 v2 v3 v4 hm _; exact absurd hm (Nat.not_lt_zero _)
  | succ n ih =>
    intro s v1 v2 v3 v4 hm hq
    unfold T_141_23 at hq
    refine hm_st hR (hm_st hR (?_))
    show R 141 26 [(4, .int v4), (3, .int v3), (2, .int v2), (0, .ref 42), (1, .int v1)] [.int v3, .int v4] (N, hm_sh L g, s) _ Q
    refine hm_st hR ⟨fun c26 => ?_, fun c26 => ?_⟩
    · rw [if_pos c26] at hq
      show R 141 51 [(4, .int v4), (3, .int v3), (2, .int v2), (0, .ref 42), (1, .int v1)] [] (N, hm_sh L g, s) _ Q
      refine hm_st hR (?_)
      exact hm_st hR ⟨fun z => absurd z (by decide), hq⟩
    · rw [if_neg c26] at hq
      show R 141 29 [(4, .int v4), (3, .int v3), (2, .int v2), (0, .ref 42), (1, .int v1)] [] (N, hm_sh L g, s) _ Q
      refine hm_st hR (hm_st hR ⟨rfl, hm_le rfl, (hm_ltN hN rfl), hm_st hR (?_)⟩)
      refine hm_st hR ⟨hm_le rfl, rfl, (hm_le rfl), (hm_ltN hN rfl), hm_le rfl, hm_le rfl, (0, 0), Nat.zero_le _, Nat.zero_le _, ?_⟩
      refine sp_178 hR hN (rr := 43) (aa := 44) (nn := 1024) rfl rfl (hm_le rfl) (hm_ltN hN rfl) rfl rfl (hm_le rfl) (hm_ltN hN rfl) (by decide) ?_
      show R 141 38 [(4, .int v4), (3, .int v3), (2, .int v2), (0, .ref 42), (1, .int v1)] [.int (T_178 s 44 1024 v4)] (N, hm_sh L g, s) _ Q
      refine hm_st hR (?_)
      show R 141 39 [(4, .int v4), (3, .int v3), (2, .int v2), (0, .ref 42), (1, .int v1)] [.int (-1), .int (T_178 s 44 1024 v4)] (N, hm_sh L g, s) _ Q
      refine hm_st hR ⟨fun c39 => ?_, fun c39 => ?_⟩
      · rw [if_pos c39] at hq
        show R 141 45 [(4, .int v4), (3, .int v3), (2, .int v2), (0, .ref 42), (1, .int v1)] [] (N, hm_sh L g, s) _ Q
        refine hm_st hR (hm_st hR (?_))
        show R 141 23 [(4, .int (v4 + 1)), (3, .int v3), (2, .int v2), (0, .ref 42), (1, .int v1)] [] (N, hm_sh L g, s) _ Q
        exact hm_lvS hR (by intro q hq; simp only [List.mem_cons, List.not_mem_nil, or_false] at hq ⊢; rcases hq with rfl | rfl | rfl | rfl | rfl <;> simp) (ih s v1 v2 v3 (v4 + 1) (hm_dcx c26 hm) hq)
      · rw [if_neg c39] at hq
        show R 141 42 [(4, .int v4), (3, .int v3), (2, .int v2), (0, .ref 42), (1, .int v1)] [] (N, hm_sh L g, s) _ Q
        refine hm_st hR (hm_st hR (hm_st hR (?_)))
        show R 141 23 [(4, .int (v4 + 1)), (2, .int (v2 + 1)), (3, .int v3), (0, .ref 42), (1, .int v1)] [] (N, hm_sh L g, s) _ Q
        exact hm_lvS hR (by intro q hq; simp only [List.mem_cons, List.not_mem_nil, or_false] at hq ⊢; rcases hq with rfl | rfl | rfl | rfl | rfl <;> simp) (ih s v1 (v2 + 1) v3 (v4 + 1) (hm_dcx c26 hm) hq)
set_option maxRecDepth 20000 in
theorem sp_141 {R : hm_R} (hR : hm_Cm R) {N L : Nat} {g : Nat → hm_Sh} {s : hm_St} {b : hm_B} {Q : hm_Q} (hN : 68 ≤ N) {p1 : Int32} (hq : Q (.inr (some (.int (T_141 s p1)))) (N, hm_sh L g, s)) : R 141 0 (lv_args 0 [.ref 42, .int p1]) [] (N, hm_sh L g, s) b Q := by
  unfold T_141 at hq
  show R 141 0 [(0, .ref 42), (1, .int p1)] [] (N, hm_sh L g, s) _ Q
  refine hm_st hR (hm_st hR (hm_st hR (hm_st hR ⟨rfl, hm_le rfl, (hm_ltN hN rfl), hm_st hR (hm_st hR (hm_st hR (?_)))⟩)))
  refine hm_st hR ⟨hm_le rfl, rfl, (hm_le rfl), (hm_ltN hN rfl), hm_le rfl, hm_le rfl, (0, 0), Nat.zero_le _, Nat.zero_le _, ?_⟩
  refine sp_178 hR hN (rr := 45) (aa := 46) (nn := 1025) rfl rfl (hm_le rfl) (hm_ltN hN rfl) rfl rfl (hm_le rfl) (hm_ltN hN rfl) (by decide) ?_
  show R 141 12 [(2, .int 0), (0, .ref 42), (1, .int p1)] [.int (T_178 s 46 1025 (p1 + 1))] (N, hm_sh L g, s) _ Q
  refine hm_st hR (hm_st hR (hm_st hR ⟨rfl, hm_le rfl, (hm_ltN hN rfl), hm_st hR (?_)⟩))
  refine hm_st hR ⟨hm_le rfl, rfl, (hm_le rfl), (hm_ltN hN rfl), hm_le rfl, hm_le rfl, (0, 0), Nat.zero_le _, Nat.zero_le _, ?_⟩
  refine sp_178 hR hN (rr := 45) (aa := 46) (nn := 1025) rfl rfl (hm_le rfl) (hm_ltN hN rfl) rfl rfl (hm_le rfl) (hm_ltN hN rfl) (by decide) ?_
  show R 141 21 [(3, .int (T_178 s 46 1025 (p1 + 1))), (2, .int 0), (0, .ref 42), (1, .int p1)] [.int (T_178 s 46 1025 p1)] (N, hm_sh L g, s) _ Q
  refine hm_st hR (?_)
  show R 141 23 [(4, .int (T_178 s 46 1025 p1)), (3, .int (T_178 s 46 1025 (p1 + 1))), (2, .int 0), (0, .ref 42), (1, .int p1)] [] (N, hm_sh L g, s) _ Q
  exact lp_141_23 hR hN _ _ _ _ _ _ (Nat.lt_succ_self _) hq
def T_183_2 (aa : Nat) (nn : Nat) : Nat → hm_St → Int32 → Int32 → Int32 → hm_St
  | 0, s, _, _, _ => s
  | n + 1, s, v1, v2, v3 => (if v2 ≤ (v3 + 1) then s else (T_183_2 aa nn n (T_179 s aa nn v3 (T_178 s aa nn (v3 + 1))) v1 v2 (v3 + 1)))
/-- CurvekeyHouse$Row.drop(II)V -/
def T_183 (s : hm_St) (aa : Nat) (nn : Nat) (p1 : Int32) (p2 : Int32) : hm_St := (T_183_2 aa nn (hm_df p2 (p1 + 1) + 1) s p1 p2 p1)
theorem N_183_2 (aa : Nat) (nn : Nat) {c j : Nat} (haa : c ≠ aa) : ∀ (n : Nat) (s : hm_St) (v0 v1 v2 : Int32), (T_183_2 aa nn n s v0 v1 v2) c j = s c j := by
  intro n
  induction n with
  | zero => intros; rfl
  | succ n ih =>
    intros
    unfold T_183_2
    repeat' split
    all_goals first | rfl | simp only [ih, hm_w1n haa, N_179 haa]
theorem N_183 {c j : Nat} {aa nn : Nat} (haa : c ≠ aa) {s : hm_St} {p1 : Int32} {p2 : Int32} : (T_183 s aa nn p1 p2) c j = s c j := by
  unfold T_183
  repeat' split
  all_goals first | rfl | simp only [hm_w1n haa, N_179 haa, N_183_2 _ _ haa]
set_option maxRecDepth 20000 in
theorem lp_183_2 {R : hm_R} (hR : hm_Cm R) {N L : Nat} {g : Nat → hm_Sh} {b : hm_B} {Q : hm_Q} (hN : 68 ≤ N) {rr aa nn : Nat} (hrk : (hm_sh L g rr).1 = 8) (hra : (hm_sh L g rr).2.2 0 = some aa) (hr2 : 2 ≤ rr) (hrl : rr < N) (hak : (hm_sh L g aa).1 = 1000) (han : (hm_sh L g aa).2.1 = nn) (ha2 : 2 ≤ aa) (hal : aa < N) (hnn : nn < 2 ^ 31) : ∀ (n : Nat) (s : hm_St) (v1 : Int32) (v2 : Int32) (v3 : Int32), hm_df v2 (v3 + 1) < n → (hq : Q (.inr none) (N, hm_sh L g, (T_183_2 aa nn n s v1 v2 v3))) → R 183 2 [(3, .int v3), (0, .ref rr), (1, .int v1), (2, .int v2)] [] (N, hm_sh L g, s) b Q := by
  intro n
  induction n with
  | zero => intro s v1 v2 v3 hm _; exact absurd hm (Nat.not_lt_zero _)
  | succ n ih =>
    intro s v1 v2 v3 hm hq
    unfold T_183_2 at hq
    refine hm_st hR (hm_st hR (hm_st hR (hm_st hR (?_))))
    show R 183 6 [(3, .int v3), (0, .ref rr), (1, .int v1), (2, .int v2)] [.int v2, .int (v3 + 1)] (N, hm_sh L g, s) _ Q
    refine hm_st hR ⟨fun c6 => ?_, fun c6 => ?_⟩
    · rw [if_pos c6] at hq
      show R 183 27 [(3, .int v3), (0, .ref rr), (1, .int v1), (2, .int v2)] [] (N, hm_sh L g, s) _ Q
      exact hm_st hR hq
    · rw [if_neg c6] at hq
      show R 183 9 [(3, .int v3), (0, .ref rr), (1, .int v1), (2, .int v2)] [] (N, hm_sh L g, s) _ Q
      refine hm_st hR (hm_st hR (hm_st hR (hm_st hR (hm_st hR (hm_st hR (?_))))))
      refine hm_st hR ⟨hm_le rfl, hrk, hr2, hrl, hm_le rfl, hm_le rfl, (0, 0), Nat.zero_le _, Nat.zero_le _, ?_⟩
      refine sp_178 hR hN (rr := rr) (aa := aa) (nn := nn) hrk hra hr2 hrl hak han ha2 hal hnn ?_
      show R 183 18 [(3, .int v3), (0, .ref rr), (1, .int v1), (2, .int v2)] [.int (T_178 s aa nn (v3 + 1)), .int v3, .ref rr] (N, hm_sh L g, s) _ Q
      refine hm_st hR ⟨hm_le rfl, hrk, hr2, hrl, hm_le rfl, hm_le rfl, (0, 0), Nat.zero_le _, Nat.zero_le _, ?_⟩
      refine sp_179 hR hN (rr := rr) (aa := aa) (nn := nn) hrk hra hr2 hrl hak han ha2 hal hnn ?_
      show R 183 21 [(3, .int v3), (0, .ref rr), (1, .int v1), (2, .int v2)] [] (N, hm_sh L g, (T_179 s aa nn v3 (T_178 s aa nn (v3 + 1)))) _ Q
      refine hm_st hR (hm_st hR (?_))
      show R 183 2 [(3, .int (v3 + 1)), (0, .ref rr), (1, .int v1), (2, .int v2)] [] (N, hm_sh L g, (T_179 s aa nn v3 (T_178 s aa nn (v3 + 1)))) _ Q
      exact hm_lvS hR (by intro q hq; simp only [List.mem_cons, List.not_mem_nil, or_false] at hq ⊢; rcases hq with rfl | rfl | rfl | rfl <;> simp) (ih (T_179 s aa nn v3 (T_178 s aa nn (v3 + 1))) v1 v2 (v3 + 1) (hm_dcx c6 hm) hq)
set_option maxRecDepth 20000 in
theorem sp_183 {R : hm_R} (hR : hm_Cm R) {N L : Nat} {g : Nat → hm_Sh} {s : hm_St} {b : hm_B} {Q : hm_Q} (hN : 68 ≤ N) {rr aa nn : Nat} (hrk : (hm_sh L g rr).1 = 8) (hra : (hm_sh L g rr).2.2 0 = some aa) (hr2 : 2 ≤ rr) (hrl : rr < N) (hak : (hm_sh L g aa).1 = 1000) (han : (hm_sh L g aa).2.1 = nn) (ha2 : 2 ≤ aa) (hal : aa < N) (hnn : nn < 2 ^ 31) {p1 : Int32} {p2 : Int32} (hq : Q (.inr none) (N, hm_sh L g, (T_183 s aa nn p1 p2))) : R 183 0 (lv_args 0 [.ref rr, .int p1, .int p2]) [] (N, hm_sh L g, s) b Q := by
  unfold T_183 at hq
  show R 183 0 [(0, .ref rr), (1, .int p1), (2, .int p2)] [] (N, hm_sh L g, s) _ Q
  refine hm_st hR (hm_st hR (?_))
  show R 183 2 [(3, .int p1), (0, .ref rr), (1, .int p1), (2, .int p2)] [] (N, hm_sh L g, s) _ Q
  exact lp_183_2 hR hN hrk hra hr2 hrl hak han ha2 hal hnn _ _ _ _ _ (Nat.lt_succ_self _) hq
def T_153_7 : Nat → hm_St → Int32 → Int32 → hm_St
  | 0, s, _, _ => s
  | n + 1, s, v1, v2 => (if v2 ≤ 1 then s else (if ((s 42 3) / 2) < ((T_141 s v1) + (T_141 s (v1 + 1))) then (T_153_7 n s (v1 + 1) (v2 + (-1))) else (T_153_7 n (hm_w1 (T_183 s 46 1025 (v1 + 1) ((s 42 4) + 1)) 42 4 (((T_183 s 46 1025 (v1 + 1) ((s 42 4) + 1)) 42 4) - 1)) v1 (v2 + (-1)))))
/-- CurvekeyHouse$Pages.joinSmall()V -/
def T_153 (s : hm_St) : hm_St := (T_153_7 (hm_df (s 42 4) 1 + 1) s 0 (s 42 4))
theorem N_153_7 {c j : Nat} (h42 : c ≠ 42) (h46 : c ≠ 46) : ∀ (n : Nat) (s : hm_St) (v0 v1 : Int32), (T_153_7  n s v0 v1) c j = s c j := by
  intro n
  induction n with
  | zero => intros; rfl
  | succ n ih =>
    intros
    unfold T_153_7
    repeat' split
    all_goals first | rfl | simp only [ih, hm_w1n h42, hm_w1n h46, N_183 h42, N_183 h46]
theorem N_153 {c j : Nat} (h42 : c ≠ 42) (h46 : c ≠ 46) {s : hm_St} : (T_153 s) c j = s c j := by
  unfold T_153
  repeat' split
  all_goals first | rfl | simp only [hm_w1n h42, hm_w1n h46, N_183 h42, N_183 h46, N_153_7 h42 h46]
set_option maxRecDepth 20000 in
theorem lp_153_7 {R : hm_R} (hR : hm_Cm R) {N L : Nat} {g : Nat → hm_Sh} {b : hm_B} {Q : hm_Q} (hN : 68 ≤ N) : ∀ (n : Nat) (s : hm_St) (v1 : Int32) (v2 : Int32), hm_df v2 1 < n → (hq : Q (.inr none) (N, hm_sh L g, (T_153_7 n s v1 v2))) → R 153 7 [(2, .int v2), (1, .int v1), (0, .ref 42)] [] (N, hm_sh L g, s) b Q := by
  intro n
  induction n with
  | zero => intro s v1 v2 hm _; exact absurd hm (Nat.not_lt_zero _)
  | succ n ih =>
    intro s v1 v2 hm hq
    unfold T_153_7 at hq
    refine hm_st hR (hm_st hR (?_))
    show R 153 9 [(2, .int v2), (1, .int v1), (0, .ref 42)] [.int 1, .int v2] (N, hm_sh L g, s) _ Q
    refine hm_st hR ⟨fun c9 => ?_, fun c9 => ?_⟩
    · rw [if_pos c9] at hq
      show R 153 72 [(2, .int v2), (1, .int v1), (0, .ref 42)] [] (N, hm_sh L g, s) _ Q
      exact hm_st hR hq
    · rw [if_neg c9] at hq
      show R 153 12 [(2, .int v2), (1, .int v1), (0, .ref 42)] [] (N, hm_sh L g, s) _ Q
      refine hm_st hR (hm_st hR (?_))
      refine hm_st hR ⟨hm_le rfl, rfl, (hm_le rfl), (hm_ltN hN rfl), hm_le rfl, hm_le rfl, (0, 0), Nat.zero_le _, Nat.zero_le _, ?_⟩
      refine sp_141 hR hN ?_
      show R 153 17 [(2, .int v2), (1, .int v1), (0, .ref 42)] [.int (T_141 s v1)] (N, hm_sh L g, s) _ Q
      refine hm_st hR (hm_st hR (hm_st hR (hm_st hR (?_))))
      refine hm_st hR ⟨hm_le rfl, rfl, (hm_le rfl), (hm_ltN hN rfl), hm_le rfl, hm_le rfl, (0, 0), Nat.zero_le _, Nat.zero_le _, ?_⟩
      refine sp_141 hR hN ?_
      show R 153 24 [(2, .int v2), (1, .int v1), (0, .ref 42)] [.int (T_141 s (v1 + 1)), .int (T_141 s v1)] (N, hm_sh L g, s) _ Q
      refine hm_st hR (hm_st hR (hm_st hR ⟨rfl, hm_le rfl, (hm_ltN hN rfl), hm_st hR (hm_st hR ⟨(by decide), ?_⟩)⟩))
      show R 153 31 [(2, .int v2), (1, .int v1), (0, .ref 42)] [.int ((s 42 3) / 2), .int ((T_141 s v1) + (T_141 s (v1 + 1)))] (N, hm_sh L g, s) _ Q
      refine hm_st hR ⟨fun c31 => ?_, fun c31 => ?_⟩
      · rw [if_pos c31] at hq
        show R 153 63 [(2, .int v2), (1, .int v1), (0, .ref 42)] [] (N, hm_sh L g, s) _ Q
        refine hm_st hR (hm_st hR (hm_st hR (?_)))
        show R 153 7 [(2, .int (v2 + (-1))), (1, .int (v1 + 1)), (0, .ref 42)] [] (N, hm_sh L g, s) _ Q
        exact hm_lvS hR (by intro q hq; simp only [List.mem_cons, List.not_mem_nil, or_false] at hq ⊢; rcases hq with rfl | rfl | rfl <;> simp) (ih s (v1 + 1) (v2 + (-1)) (hm_dcm c9 hm) hq)
      · rw [if_neg c31] at hq
        show R 153 34 [(2, .int v2), (1, .int v1), (0, .ref 42)] [] (N, hm_sh L g, s) _ Q
        refine hm_st hR (hm_st hR ⟨rfl, hm_le rfl, (hm_ltN hN rfl), hm_st hR (hm_st hR (hm_st hR (hm_st hR (hm_st hR ⟨rfl, hm_le rfl, (hm_ltN hN rfl), hm_st hR (hm_st hR (?_))⟩))))⟩)
        refine hm_st hR ⟨hm_le rfl, rfl, (hm_le rfl), (hm_ltN hN rfl), hm_le rfl, hm_le rfl, (0, 0), Nat.zero_le _, Nat.zero_le _, ?_⟩
        refine sp_183 hR hN (rr := 45) (aa := 46) (nn := 1025) rfl rfl (hm_le rfl) (hm_ltN hN rfl) rfl rfl (hm_le rfl) (hm_ltN hN rfl) (by decide) ?_
        show R 153 50 [(2, .int v2), (1, .int v1), (0, .ref 42)] [] (N, hm_sh L g, (T_183 s 46 1025 (v1 + 1) ((s 42 4) + 1))) _ Q
        refine hm_st hR (hm_st hR ⟨rfl, hm_st hR ⟨rfl, hm_le rfl, (hm_ltN hN rfl), hm_st hR (hm_st hR (hm_st hR ⟨rfl, rfl, hm_le rfl, (hm_ltN hN rfl), ?_⟩))⟩⟩)
        show R 153 60 [(2, .int v2), (1, .int v1), (0, .ref 42)] [] (N, hm_sh L g, (hm_w1 (T_183 s 46 1025 (v1 + 1) ((s 42 4) + 1)) 42 4 (((T_183 s 46 1025 (v1 + 1) ((s 42 4) + 1)) 42 4) - 1))) _ Q
        refine hm_st hR (hm_st hR (hm_st hR (?_)))
        show R 153 7 [(2, .int (v2 + (-1))), (1, .int v1), (0, .ref 42)] [] (N, hm_sh L g, (hm_w1 (T_183 s 46 1025 (v1 + 1) ((s 42 4) + 1)) 42 4 (((T_183 s 46 1025 (v1 + 1) ((s 42 4) + 1)) 42 4) - 1))) _ Q
        exact hm_lvS hR (by intro q hq; simp only [List.mem_cons, List.not_mem_nil, or_false] at hq ⊢; rcases hq with rfl | rfl | rfl <;> simp) (ih (hm_w1 (T_183 s 46 1025 (v1 + 1) ((s 42 4) + 1)) 42 4 (((T_183 s 46 1025 (v1 + 1) ((s 42 4) + 1)) 42 4) - 1)) v1 (v2 + (-1)) (hm_dcm c9 hm) hq)
set_option maxRecDepth 20000 in
theorem sp_153 {R : hm_R} (hR : hm_Cm R) {N L : Nat} {g : Nat → hm_Sh} {s : hm_St} {b : hm_B} {Q : hm_Q} (hN : 68 ≤ N) (hq : Q (.inr none) (N, hm_sh L g, (T_153 s))) : R 153 0 (lv_args 0 [.ref 42]) [] (N, hm_sh L g, s) b Q := by
  unfold T_153 at hq
  show R 153 0 [(0, .ref 42)] [] (N, hm_sh L g, s) _ Q
  refine hm_st hR (hm_st hR (hm_st hR (hm_st hR ⟨rfl, hm_le rfl, (hm_ltN hN rfl), hm_st hR (?_)⟩)))
  show R 153 7 [(2, .int (s 42 4)), (1, .int 0), (0, .ref 42)] [] (N, hm_sh L g, s) _ Q
  exact lp_153_7 hR hN _ _ _ _ (Nat.lt_succ_self _) hq
def T_152_7 : Nat → hm_St → Int32 → Int32 → (Int32 × hm_St)
  | 0, s, _, _ => (0, s)
  | n + 1, s, v1, v2 => (if (s 42 2) ≤ v2 then (v1, (T_153 (hm_w1 s 42 5 0))) else (if (T_178 s 44 1024 v2) = (-2) then (T_152_7 n (T_179 s 44 1024 v2 (-1)) v1 (v2 + 1)) else (T_152_7 n s v1 (v2 + 1))))
/-- CurvekeyHouse$Pages.clean()I -/
def T_152 (s : hm_St) : (Int32 × hm_St) := (T_152_7 (hm_df (s 42 2) 0 + 1) s (s 42 5) 0)
theorem N_152_7 {c j : Nat} (h42 : c ≠ 42) (h44 : c ≠ 44) (h46 : c ≠ 46) : ∀ (n : Nat) (s : hm_St) (v0 v1 : Int32), (T_152_7  n s v0 v1).2 c j = s c j := by
  intro n
  induction n with
  | zero => intros; rfl
  | succ n ih =>
    intros
    unfold T_152_7
    repeat' split
    all_goals first | rfl | simp only [ih, hm_w1n h42, hm_w1n h44, hm_w1n h46, N_153 h42 h46, N_179 h42, N_179 h44, N_179 h46]
theorem N_152 {c j : Nat} (h42 : c ≠ 42) (h44 : c ≠ 44) (h46 : c ≠ 46) {s : hm_St} : (T_152 s).2 c j = s c j := by
  unfold T_152
  repeat' split
  all_goals first | rfl | simp only [hm_w1n h42, hm_w1n h44, hm_w1n h46, N_153 h42 h46, N_179 h42, N_179 h44, N_179 h46, N_152_7 h42 h44 h46]
set_option maxRecDepth 20000 in
theorem lp_152_7 {R : hm_R} (hR : hm_Cm R) {N L : Nat} {g : Nat → hm_Sh} {b : hm_B} {Q : hm_Q} (hN : 68 ≤ N) : ∀ (n : Nat) (s : hm_St) (v1 : Int32) (v2 : Int32), hm_df (s 42 2) v2 < n → (hq : Q (.inr (some (.int (T_152_7 n s v1 v2).1))) (N, hm_sh L g, (T_152_7 n s v1 v2).2)) → R 152 7 [(2, .int v2), (1, .int v1), (0, .ref 42)] [] (N, hm_sh L g, s) b Q := by
  intro n
  induction n with
  | zero => intro s v1 v2 hm _; exact absurd hm (Nat.not_lt_zero _)
  | succ n ih =>
    intro s v1 v2 hm hq
    unfold T_152_7 at hq
    refine hm_st hR (hm_st hR (hm_st hR ⟨rfl, hm_le rfl, (hm_ltN hN rfl), ?_⟩))
    show R 152 12 [(2, .int v2), (1, .int v1), (0, .ref 42)] [.int (s 42 2), .int v2] (N, hm_sh L g, s) _ Q
    refine hm_st hR ⟨fun c12 => ?_, fun c12 => ?_⟩
    · rw [if_pos c12] at hq
      show R 152 43 [(2, .int v2), (1, .int v1), (0, .ref 42)] [] (N, hm_sh L g, s) _ Q
      refine hm_st hR (hm_st hR (hm_st hR ⟨rfl, rfl, hm_le rfl, (hm_ltN hN rfl), ?_⟩))
      show R 152 48 [(2, .int v2), (1, .int v1), (0, .ref 42)] [] (N, hm_sh L g, (hm_w1 s 42 5 0)) _ Q
      refine hm_st hR (?_)
      refine hm_st hR ⟨hm_le rfl, rfl, (hm_le rfl), (hm_ltN hN rfl), hm_le rfl, hm_le rfl, (0, 0), Nat.zero_le _, Nat.zero_le _, ?_⟩
      refine sp_153 hR hN ?_
      show R 152 52 [(2, .int v2), (1, .int v1), (0, .ref 42)] [] (N, hm_sh L g, (T_153 (hm_w1 s 42 5 0))) _ Q
      refine hm_st hR (?_)
      exact hm_st hR ⟨fun z => absurd z (by decide), hq⟩
    · rw [if_neg c12] at hq
      show R 152 15 [(2, .int v2), (1, .int v1), (0, .ref 42)] [] (N, hm_sh L g, s) _ Q
      refine hm_st hR (hm_st hR ⟨rfl, hm_le rfl, (hm_ltN hN rfl), hm_st hR (?_)⟩)
      refine hm_st hR ⟨hm_le rfl, rfl, (hm_le rfl), (hm_ltN hN rfl), hm_le rfl, hm_le rfl, (0, 0), Nat.zero_le _, Nat.zero_le _, ?_⟩
      refine sp_178 hR hN (rr := 43) (aa := 44) (nn := 1024) rfl rfl (hm_le rfl) (hm_ltN hN rfl) rfl rfl (hm_le rfl) (hm_ltN hN rfl) (by decide) ?_
      show R 152 23 [(2, .int v2), (1, .int v1), (0, .ref 42)] [.int (T_178 s 44 1024 v2)] (N, hm_sh L g, s) _ Q
      refine hm_st hR (?_)
      show R 152 25 [(2, .int v2), (1, .int v1), (0, .ref 42)] [.int (-2), .int (T_178 s 44 1024 v2)] (N, hm_sh L g, s) _ Q
      refine hm_st hR ⟨fun c25 => ?_, fun c25 => ?_⟩
      · rw [if_neg c25] at hq
        show R 152 37 [(2, .int v2), (1, .int v1), (0, .ref 42)] [] (N, hm_sh L g, s) _ Q
        refine hm_st hR (hm_st hR (?_))
        show R 152 7 [(2, .int (v2 + 1)), (1, .int v1), (0, .ref 42)] [] (N, hm_sh L g, s) _ Q
        exact hm_lvS hR (by intro q hq; simp only [List.mem_cons, List.not_mem_nil, or_false] at hq ⊢; rcases hq with rfl | rfl | rfl <;> simp) (ih s v1 (v2 + 1) (by first | exact hm_dcx c12 hm | exact hm_dcE (N_179 (c := 42) (aa := 44) (by decide)) (hm_dcx c12 hm)) hq)
      · rw [if_pos c25] at hq
        show R 152 28 [(2, .int v2), (1, .int v1), (0, .ref 42)] [] (N, hm_sh L g, s) _ Q
        refine hm_st hR (hm_st hR ⟨rfl, hm_le rfl, (hm_ltN hN rfl), hm_st hR (hm_st hR (?_))⟩)
        refine hm_st hR ⟨hm_le rfl, rfl, (hm_le rfl), (hm_ltN hN rfl), hm_le rfl, hm_le rfl, (0, 0), Nat.zero_le _, Nat.zero_le _, ?_⟩
        refine sp_179 hR hN (rr := 43) (aa := 44) (nn := 1024) rfl rfl (hm_le rfl) (hm_ltN hN rfl) rfl rfl (hm_le rfl) (hm_ltN hN rfl) (by decide) ?_
        show R 152 37 [(2, .int v2), (1, .int v1), (0, .ref 42)] [] (N, hm_sh L g, (T_179 s 44 1024 v2 (-1))) _ Q
        refine hm_st hR (hm_st hR (?_))
        show R 152 7 [(2, .int (v2 + 1)), (1, .int v1), (0, .ref 42)] [] (N, hm_sh L g, (T_179 s 44 1024 v2 (-1))) _ Q
        exact hm_lvS hR (by intro q hq; simp only [List.mem_cons, List.not_mem_nil, or_false] at hq ⊢; rcases hq with rfl | rfl | rfl <;> simp) (ih (T_179 s 44 1024 v2 (-1)) v1 (v2 + 1) (by first | exact hm_dcx c12 hm | exact hm_dcE (N_179 (c := 42) (aa := 44) (by decide)) (hm_dcx c12 hm)) hq)
set_option maxRecDepth 20000 in
theorem sp_152 {R : hm_R} (hR : hm_Cm R) {N L : Nat} {g : Nat → hm_Sh} {s : hm_St} {b : hm_B} {Q : hm_Q} (hN : 68 ≤ N) (hq : Q (.inr (some (.int (T_152 s).1))) (N, hm_sh L g, (T_152 s).2)) : R 152 0 (lv_args 0 [.ref 42]) [] (N, hm_sh L g, s) b Q := by
  unfold T_152 at hq
  show R 152 0 [(0, .ref 42)] [] (N, hm_sh L g, s) _ Q
  refine hm_st hR (hm_st hR ⟨rfl, hm_le rfl, (hm_ltN hN rfl), hm_st hR (hm_st hR (hm_st hR (?_)))⟩)
  show R 152 7 [(2, .int 0), (1, .int (s 42 5)), (0, .ref 42)] [] (N, hm_sh L g, s) _ Q
  exact lp_152_7 hR hN _ _ _ _ (Nat.lt_succ_self _) hq
/-- CurvekeyHouse.sweep()I -/
def T_9 (s : hm_St) : (Int32 × hm_St) := ((T_152 s).1, (T_152 s).2)
theorem N_9 {c j : Nat} (h42 : c ≠ 42) (h44 : c ≠ 44) (h46 : c ≠ 46) {s : hm_St} : (T_9 s).2 c j = s c j := by
  unfold T_9
  repeat' split
  all_goals first | rfl | simp only [hm_w1n h42, hm_w1n h44, hm_w1n h46, N_152 h42 h44 h46]
set_option maxRecDepth 20000 in
theorem sp_9 {R : hm_R} (hR : hm_Cm R) {N L : Nat} {g : Nat → hm_Sh} {s : hm_St} {b : hm_B} {Q : hm_Q} (hN : 68 ≤ N) (hq : Q (.inr (some (.int (T_9 s).1))) (N, hm_sh L g, (T_9 s).2)) : R 9 0 (lv_args 0 [.ref 2]) [] (N, hm_sh L g, s) b Q := by
  unfold T_9 at hq
  show R 9 0 [(0, .ref 2)] [] (N, hm_sh L g, s) _ Q
  refine hm_st hR (hm_st hR ⟨rfl, hm_le rfl, (hm_ltN hN rfl), ?_⟩)
  refine hm_st hR ⟨hm_le rfl, rfl, (hm_le rfl), (hm_ltN hN rfl), hm_le rfl, hm_le rfl, (0, 0), Nat.zero_le _, Nat.zero_le _, ?_⟩
  refine sp_152 hR hN ?_
  show R 9 7 [(0, .ref 2)] [.int (T_152 s).1] (N, hm_sh L g, (T_152 s).2) _ Q
  exact hm_st hR ⟨fun z => absurd z (by decide), hq⟩
/-- CurvekeyHouse$History.version()I -/
def T_113 (s : hm_St) : Int32 := (s 25 9)
set_option maxRecDepth 20000 in
theorem sp_113 {R : hm_R} (hR : hm_Cm R) {N L : Nat} {g : Nat → hm_Sh} {s : hm_St} {b : hm_B} {Q : hm_Q} (hN : 68 ≤ N) (hq : Q (.inr (some (.int (T_113 s)))) (N, hm_sh L g, s)) : R 113 0 (lv_args 0 [.ref 25]) [] (N, hm_sh L g, s) b Q := by
  unfold T_113 at hq
  show R 113 0 [(0, .ref 25)] [] (N, hm_sh L g, s) _ Q
  refine hm_st hR (hm_st hR ⟨rfl, hm_le rfl, (hm_ltN hN rfl), ?_⟩)
  exact hm_st hR ⟨fun z => absurd z (by decide), hq⟩
/-- CurvekeyHouse$Pages.machineOf(II)I -/
def T_146 (s : hm_St) (p1 : Int32) (p2 : Int32) : Int32 := (if 1 ≤ (s 42 4) then ((p1 * p2) / (s 42 4)) else 0)
set_option maxRecDepth 20000 in
theorem sp_146 {R : hm_R} (hR : hm_Cm R) {N L : Nat} {g : Nat → hm_Sh} {s : hm_St} {b : hm_B} {Q : hm_Q} (hN : 68 ≤ N) {p1 : Int32} {p2 : Int32} (hq : Q (.inr (some (.int (T_146 s p1 p2)))) (N, hm_sh L g, s)) : R 146 0 (lv_args 0 [.ref 42, .int p1, .int p2]) [] (N, hm_sh L g, s) b Q := by
  unfold T_146 at hq
  show R 146 0 [(0, .ref 42), (1, .int p1), (2, .int p2)] [] (N, hm_sh L g, s) _ Q
  refine hm_st hR (hm_st hR ⟨rfl, hm_le rfl, (hm_ltN hN rfl), hm_st hR (?_)⟩)
  show R 146 5 [(0, .ref 42), (1, .int p1), (2, .int p2)] [.int 1, .int (s 42 4)] (N, hm_sh L g, s) _ Q
  refine hm_st hR ⟨fun c5 => ?_, fun c5 => ?_⟩
  · rw [if_pos c5] at hq
    show R 146 12 [(0, .ref 42), (1, .int p1), (2, .int p2)] [] (N, hm_sh L g, s) _ Q
    refine hm_st hR (hm_st hR (hm_st hR (hm_st hR (hm_st hR ⟨rfl, hm_le rfl, (hm_ltN hN rfl), hm_st hR ⟨(hm_nz1 c5), ?_⟩⟩))))
    exact hm_st hR ⟨fun z => absurd z (by decide), hq⟩
  · rw [if_neg c5] at hq
    show R 146 8 [(0, .ref 42), (1, .int p1), (2, .int p2)] [] (N, hm_sh L g, s) _ Q
    refine hm_st hR (hm_st hR (?_))
    exact hm_st hR ⟨fun z => absurd z (by decide), hq⟩
def T_142_23 : Nat → hm_St → Int32 → Int32 → Int32 → Int32 → Int32
  | 0, s, _, _, _, _ => 0
  | n + 1, s, v1, v2, v3, v4 => (if v3 ≤ v4 then v2 else (if (T_178 s 44 1024 v4) = (-2) then (T_142_23 n s v1 (v2 + 1) v3 (v4 + 1)) else (T_142_23 n s v1 v2 v3 (v4 + 1))))
/-- CurvekeyHouse$Pages.tombsIn(I)I -/
def T_142 (s : hm_St) (p1 : Int32) : Int32 := (T_142_23 (hm_df (T_178 s 46 1025 (p1 + 1)) (T_178 s 46 1025 p1) + 1) s p1 0 (T_178 s 46 1025 (p1 + 1)) (T_178 s 46 1025 p1))
set_option maxRecDepth 20000 in
theorem lp_142_23 {R : hm_R} (hR : hm_Cm R) {N L : Nat} {g : Nat → hm_Sh} {b : hm_B} {Q : hm_Q} (hN : 68 ≤ N) : ∀ (n : Nat) (s : hm_St) (v1 : Int32) (v2 : Int32) (v3 : Int32) (v4 : Int32), hm_df v3 v4 < n → (hq : Q (.inr (some (.int (T_142_23 n s v1 v2 v3 v4)))) (N, hm_sh L g, s)) → R 142 23 [(4, .int v4), (3, .int v3), (2, .int v2), (0, .ref 42), (1, .int v1)] [] (N, hm_sh L g, s) b Q := by
  intro n
  induction n with
  | zero => intro s v1 v2 v3 v4 hm _; exact absurd hm (Nat.not_lt_zero _)
  | succ n ih =>
    intro s v1 v2 v3 v4 hm hq
    unfold T_142_23 at hq
    refine hm_st hR (hm_st hR (?_))
    show R 142 26 [(4, .int v4), (3, .int v3), (2, .int v2), (0, .ref 42), (1, .int v1)] [.int v3, .int v4] (N, hm_sh L g, s) _ Q
    refine hm_st hR ⟨fun c26 => ?_, fun c26 => ?_⟩
    · rw [if_pos c26] at hq
      show R 142 52 [(4, .int v4), (3, .int v3), (2, .int v2), (0, .ref 42), (1, .int v1)] [] (N, hm_sh L g, s) _ Q
      refine hm_st hR (?_)
      exact hm_st hR ⟨fun z => absurd z (by decide), hq⟩
    · rw [if_neg c26] at hq
      show R 142 29 [(4, .int v4), (3, .int v3), (2, .int v2), (0, .ref 42), (1, .int v1)] [] (N, hm_sh L g, s) _ Q
      refine hm_st hR (hm_st hR ⟨rfl, hm_le rfl, (hm_ltN hN rfl), hm_st hR (?_)⟩)
      refine hm_st hR ⟨hm_le rfl, rfl, (hm_le rfl), (hm_ltN hN rfl), hm_le rfl, hm_le rfl, (0, 0), Nat.zero_le _, Nat.zero_le _, ?_⟩
      refine sp_178 hR hN (rr := 43) (aa := 44) (nn := 1024) rfl rfl (hm_le rfl) (hm_ltN hN rfl) rfl rfl (hm_le rfl) (hm_ltN hN rfl) (by decide) ?_
      show R 142 38 [(4, .int v4), (3, .int v3), (2, .int v2), (0, .ref 42), (1, .int v1)] [.int (T_178 s 44 1024 v4)] (N, hm_sh L g, s) _ Q
      refine hm_st hR (?_)
      show R 142 40 [(4, .int v4), (3, .int v3), (2, .int v2), (0, .ref 42), (1, .int v1)] [.int (-2), .int (T_178 s 44 1024 v4)] (N, hm_sh L g, s) _ Q
      refine hm_st hR ⟨fun c40 => ?_, fun c40 => ?_⟩
      · rw [if_neg c40] at hq
        show R 142 46 [(4, .int v4), (3, .int v3), (2, .int v2), (0, .ref 42), (1, .int v1)] [] (N, hm_sh L g, s) _ Q
        refine hm_st hR (hm_st hR (?_))
        show R 142 23 [(4, .int (v4 + 1)), (3, .int v3), (2, .int v2), (0, .ref 42), (1, .int v1)] [] (N, hm_sh L g, s) _ Q
        exact hm_lvS hR (by intro q hq; simp only [List.mem_cons, List.not_mem_nil, or_false] at hq ⊢; rcases hq with rfl | rfl | rfl | rfl | rfl <;> simp) (ih s v1 v2 v3 (v4 + 1) (hm_dcx c26 hm) hq)
      · rw [if_pos c40] at hq
        show R 142 43 [(4, .int v4), (3, .int v3), (2, .int v2), (0, .ref 42), (1, .int v1)] [] (N, hm_sh L g, s) _ Q
        refine hm_st hR (hm_st hR (hm_st hR (?_)))
        show R 142 23 [(4, .int (v4 + 1)), (2, .int (v2 + 1)), (3, .int v3), (0, .ref 42), (1, .int v1)] [] (N, hm_sh L g, s) _ Q
        exact hm_lvS hR (by intro q hq; simp only [List.mem_cons, List.not_mem_nil, or_false] at hq ⊢; rcases hq with rfl | rfl | rfl | rfl | rfl <;> simp) (ih s v1 (v2 + 1) v3 (v4 + 1) (hm_dcx c26 hm) hq)
set_option maxRecDepth 20000 in
theorem sp_142 {R : hm_R} (hR : hm_Cm R) {N L : Nat} {g : Nat → hm_Sh} {s : hm_St} {b : hm_B} {Q : hm_Q} (hN : 68 ≤ N) {p1 : Int32} (hq : Q (.inr (some (.int (T_142 s p1)))) (N, hm_sh L g, s)) : R 142 0 (lv_args 0 [.ref 42, .int p1]) [] (N, hm_sh L g, s) b Q := by
  unfold T_142 at hq
  show R 142 0 [(0, .ref 42), (1, .int p1)] [] (N, hm_sh L g, s) _ Q
  refine hm_st hR (hm_st hR (hm_st hR (hm_st hR ⟨rfl, hm_le rfl, (hm_ltN hN rfl), hm_st hR (hm_st hR (hm_st hR (?_)))⟩)))
  refine hm_st hR ⟨hm_le rfl, rfl, (hm_le rfl), (hm_ltN hN rfl), hm_le rfl, hm_le rfl, (0, 0), Nat.zero_le _, Nat.zero_le _, ?_⟩
  refine sp_178 hR hN (rr := 45) (aa := 46) (nn := 1025) rfl rfl (hm_le rfl) (hm_ltN hN rfl) rfl rfl (hm_le rfl) (hm_ltN hN rfl) (by decide) ?_
  show R 142 12 [(2, .int 0), (0, .ref 42), (1, .int p1)] [.int (T_178 s 46 1025 (p1 + 1))] (N, hm_sh L g, s) _ Q
  refine hm_st hR (hm_st hR (hm_st hR ⟨rfl, hm_le rfl, (hm_ltN hN rfl), hm_st hR (?_)⟩))
  refine hm_st hR ⟨hm_le rfl, rfl, (hm_le rfl), (hm_ltN hN rfl), hm_le rfl, hm_le rfl, (0, 0), Nat.zero_le _, Nat.zero_le _, ?_⟩
  refine sp_178 hR hN (rr := 45) (aa := 46) (nn := 1025) rfl rfl (hm_le rfl) (hm_ltN hN rfl) rfl rfl (hm_le rfl) (hm_ltN hN rfl) (by decide) ?_
  show R 142 21 [(3, .int (T_178 s 46 1025 (p1 + 1))), (2, .int 0), (0, .ref 42), (1, .int p1)] [.int (T_178 s 46 1025 p1)] (N, hm_sh L g, s) _ Q
  refine hm_st hR (?_)
  show R 142 23 [(4, .int (T_178 s 46 1025 p1)), (3, .int (T_178 s 46 1025 (p1 + 1))), (2, .int 0), (0, .ref 42), (1, .int p1)] [] (N, hm_sh L g, s) _ Q
  exact lp_142_23 hR hN _ _ _ _ _ _ (Nat.lt_succ_self _) hq
def T_147_5 : Nat → hm_St → Int32 → Int32 → Int32 → Int32 → Int32
  | 0, s, _, _, _, _ => 0
  | n + 1, s, v1, v2, v3, v4 => (if (s 42 4) ≤ v4 then v3 else (if (T_146 s v4 v2) = v1 then (T_147_5 n s v1 v2 (v3 + ((T_141 s v4) - (T_142 s v4))) (v4 + 1)) else (T_147_5 n s v1 v2 v3 (v4 + 1))))
/-- CurvekeyHouse$Pages.loadOf(II)I -/
def T_147 (s : hm_St) (p1 : Int32) (p2 : Int32) : Int32 := (T_147_5 (hm_df (s 42 4) 0 + 1) s p1 p2 0 0)
set_option maxRecDepth 20000 in
theorem lp_147_5 {R : hm_R} (hR : hm_Cm R) {N L : Nat} {g : Nat → hm_Sh} {b : hm_B} {Q : hm_Q} (hN : 68 ≤ N) : ∀ (n : Nat) (s : hm_St) (v1 : Int32) (v2 : Int32) (v3 : Int32) (v4 : Int32), hm_df (s 42 4) v4 < n → (hq : Q (.inr (some (.int (T_147_5 n s v1 v2 v3 v4)))) (N, hm_sh L g, s)) → R 147 5 [(4, .int v4), (3, .int v3), (0, .ref 42), (1, .int v1), (2, .int v2)] [] (N, hm_sh L g, s) b Q := by
  intro n
  induction n with
  | zero => intro s v1 v2 v3 v4 hm _; exact absurd hm (Nat.not_lt_zero _)
  | succ n ih =>
    intro s v1 v2 v3 v4 hm hq
    unfold T_147_5 at hq
    refine hm_st hR (hm_st hR (hm_st hR ⟨rfl, hm_le rfl, (hm_ltN hN rfl), ?_⟩))
    show R 147 11 [(4, .int v4), (3, .int v3), (0, .ref 42), (1, .int v1), (2, .int v2)] [.int (s 42 4), .int v4] (N, hm_sh L g, s) _ Q
    refine hm_st hR ⟨fun c11 => ?_, fun c11 => ?_⟩
    · rw [if_pos c11] at hq
      show R 147 47 [(4, .int v4), (3, .int v3), (0, .ref 42), (1, .int v1), (2, .int v2)] [] (N, hm_sh L g, s) _ Q
      refine hm_st hR (?_)
      exact hm_st hR ⟨fun z => absurd z (by decide), hq⟩
    · rw [if_neg c11] at hq
      show R 147 14 [(4, .int v4), (3, .int v3), (0, .ref 42), (1, .int v1), (2, .int v2)] [] (N, hm_sh L g, s) _ Q
      refine hm_st hR (hm_st hR (hm_st hR (?_)))
      refine hm_st hR ⟨hm_le rfl, rfl, (hm_le rfl), (hm_ltN hN rfl), hm_le rfl, hm_le rfl, (0, 0), Nat.zero_le _, Nat.zero_le _, ?_⟩
      refine sp_146 hR hN ?_
      show R 147 21 [(4, .int v4), (3, .int v3), (0, .ref 42), (1, .int v1), (2, .int v2)] [.int (T_146 s v4 v2)] (N, hm_sh L g, s) _ Q
      refine hm_st hR (?_)
      show R 147 22 [(4, .int v4), (3, .int v3), (0, .ref 42), (1, .int v1), (2, .int v2)] [.int v1, .int (T_146 s v4 v2)] (N, hm_sh L g, s) _ Q
      refine hm_st hR ⟨fun c22 => ?_, fun c22 => ?_⟩
      · rw [if_neg c22] at hq
        show R 147 41 [(4, .int v4), (3, .int v3), (0, .ref 42), (1, .int v1), (2, .int v2)] [] (N, hm_sh L g, s) _ Q
        refine hm_st hR (hm_st hR (?_))
        show R 147 5 [(4, .int (v4 + 1)), (3, .int v3), (0, .ref 42), (1, .int v1), (2, .int v2)] [] (N, hm_sh L g, s) _ Q
        exact hm_lvS hR (by intro q hq; simp only [List.mem_cons, List.not_mem_nil, or_false] at hq ⊢; rcases hq with rfl | rfl | rfl | rfl | rfl <;> simp) (ih s v1 v2 v3 (v4 + 1) (hm_dcx c11 hm) hq)
      · rw [if_pos c22] at hq
        show R 147 25 [(4, .int v4), (3, .int v3), (0, .ref 42), (1, .int v1), (2, .int v2)] [] (N, hm_sh L g, s) _ Q
        refine hm_st hR (hm_st hR (hm_st hR (?_)))
        refine hm_st hR ⟨hm_le rfl, rfl, (hm_le rfl), (hm_ltN hN rfl), hm_le rfl, hm_le rfl, (0, 0), Nat.zero_le _, Nat.zero_le _, ?_⟩
        refine sp_141 hR hN ?_
        show R 147 32 [(4, .int v4), (3, .int v3), (0, .ref 42), (1, .int v1), (2, .int v2)] [.int (T_141 s v4), .int v3] (N, hm_sh L g, s) _ Q
        refine hm_st hR (hm_st hR (?_))
        refine hm_st hR ⟨hm_le rfl, rfl, (hm_le rfl), (hm_ltN hN rfl), hm_le rfl, hm_le rfl, (0, 0), Nat.zero_le _, Nat.zero_le _, ?_⟩
        refine sp_142 hR hN ?_
        show R 147 38 [(4, .int v4), (3, .int v3), (0, .ref 42), (1, .int v1), (2, .int v2)] [.int (T_142 s v4), .int (T_141 s v4), .int v3] (N, hm_sh L g, s) _ Q
        refine hm_st hR (hm_st hR (hm_st hR (hm_st hR (hm_st hR (?_)))))
        show R 147 5 [(4, .int (v4 + 1)), (3, .int (v3 + ((T_141 s v4) - (T_142 s v4)))), (0, .ref 42), (1, .int v1), (2, .int v2)] [] (N, hm_sh L g, s) _ Q
        exact hm_lvS hR (by intro q hq; simp only [List.mem_cons, List.not_mem_nil, or_false] at hq ⊢; rcases hq with rfl | rfl | rfl | rfl | rfl <;> simp) (ih s v1 v2 (v3 + ((T_141 s v4) - (T_142 s v4))) (v4 + 1) (hm_dcx c11 hm) hq)
set_option maxRecDepth 20000 in
theorem sp_147 {R : hm_R} (hR : hm_Cm R) {N L : Nat} {g : Nat → hm_Sh} {s : hm_St} {b : hm_B} {Q : hm_Q} (hN : 68 ≤ N) {p1 : Int32} {p2 : Int32} (hq : Q (.inr (some (.int (T_147 s p1 p2)))) (N, hm_sh L g, s)) : R 147 0 (lv_args 0 [.ref 42, .int p1, .int p2]) [] (N, hm_sh L g, s) b Q := by
  unfold T_147 at hq
  show R 147 0 [(0, .ref 42), (1, .int p1), (2, .int p2)] [] (N, hm_sh L g, s) _ Q
  refine hm_st hR (hm_st hR (hm_st hR (hm_st hR (?_))))
  show R 147 5 [(4, .int 0), (3, .int 0), (0, .ref 42), (1, .int p1), (2, .int p2)] [] (N, hm_sh L g, s) _ Q
  exact lp_147_5 hR hN _ _ _ _ _ _ (Nat.lt_succ_self _) hq
def T_23_17 : Nat → hm_St → Int32 → Int32 → Int32 → Int32
  | 0, s, _, _, _ => 0
  | n + 1, s, v1, v2, v3 => (if (s 2 9) ≤ v3 then (v1 - v2) else (T_23_17 n s (hm_max v1 (T_147 s v3 (s 2 9))) (hm_min v2 (T_147 s v3 (s 2 9))) (v3 + 1)))
/-- CurvekeyHouse.skew()I -/
def T_23 (s : hm_St) : Int32 := (T_23_17 (hm_df (s 2 9) 1 + 1) s (T_147 s 0 (s 2 9)) (T_147 s 0 (s 2 9)) 1)
set_option maxRecDepth 20000 in
theorem lp_23_17 {R : hm_R} (hR : hm_Cm R) {N L : Nat} {g : Nat → hm_Sh} {b : hm_B} {Q : hm_Q} (hN : 68 ≤ N) : ∀ (n : Nat) (s : hm_St) (v1 : Int32) (v2 : Int32) (v3 : Int32), hm_df (s 2 9) v3 < n → (hq : Q (.inr (some (.int (T_23_17 n s v1 v2 v3)))) (N, hm_sh L g, s)) → R 23 17 [(3, .int v3), (2, .int v2), (1, .int v1), (0, .ref 2)] [] (N, hm_sh L g, s) b Q := by
  intro n
  induction n with
  | zero => intro s v1 v2 v3 hm _; exact absurd hm (Nat.not_lt_zero _)
  | succ n ih =>
    intro s v1 v2 v3 hm hq
    unfold T_23_17 at hq
    refine hm_st hR (hm_st hR (hm_st hR ⟨rfl, hm_le rfl, (hm_ltN hN rfl), ?_⟩))
    show R 23 22 [(3, .int v3), (2, .int v2), (1, .int v1), (0, .ref 2)] [.int (s 2 9), .int v3] (N, hm_sh L g, s) _ Q
    refine hm_st hR ⟨fun c22 => ?_, fun c22 => ?_⟩
    · rw [if_pos c22] at hq
      show R 23 59 [(3, .int v3), (2, .int v2), (1, .int v1), (0, .ref 2)] [] (N, hm_sh L g, s) _ Q
      refine hm_st hR (hm_st hR (hm_st hR (?_)))
      exact hm_st hR ⟨fun z => absurd z (by decide), hq⟩
    · rw [if_neg c22] at hq
      show R 23 25 [(3, .int v3), (2, .int v2), (1, .int v1), (0, .ref 2)] [] (N, hm_sh L g, s) _ Q
      refine hm_st hR (hm_st hR ⟨rfl, hm_le rfl, (hm_ltN hN rfl), hm_st hR (hm_st hR (hm_st hR ⟨rfl, hm_le rfl, (hm_ltN hN rfl), ?_⟩))⟩)
      refine hm_st hR ⟨hm_le rfl, rfl, (hm_le rfl), (hm_ltN hN rfl), hm_le rfl, hm_le rfl, (0, 0), Nat.zero_le _, Nat.zero_le _, ?_⟩
      refine sp_147 hR hN ?_
      show R 23 37 [(3, .int v3), (2, .int v2), (1, .int v1), (0, .ref 2)] [.int (T_147 s v3 (s 2 9))] (N, hm_sh L g, s) _ Q
      refine hm_st hR (hm_st hR (hm_st hR (hm_st hR ⟨hm_le rfl, ?_⟩)))
      show R 23 45 [(4, .int (T_147 s v3 (s 2 9))), (3, .int v3), (2, .int v2), (1, .int v1), (0, .ref 2)] [.int (hm_max v1 (T_147 s v3 (s 2 9)))] (N, hm_sh L g, s) _ Q
      refine hm_st hR (hm_st hR (hm_st hR (hm_st hR ⟨hm_le rfl, ?_⟩)))
      show R 23 52 [(1, .int (hm_max v1 (T_147 s v3 (s 2 9)))), (4, .int (T_147 s v3 (s 2 9))), (3, .int v3), (2, .int v2), (0, .ref 2)] [.int (hm_min v2 (T_147 s v3 (s 2 9)))] (N, hm_sh L g, s) _ Q
      refine hm_st hR (hm_st hR (hm_st hR (?_)))
      show R 23 17 [(3, .int (v3 + 1)), (2, .int (hm_min v2 (T_147 s v3 (s 2 9)))), (1, .int (hm_max v1 (T_147 s v3 (s 2 9)))), (4, .int (T_147 s v3 (s 2 9))), (0, .ref 2)] [] (N, hm_sh L g, s) _ Q
      exact hm_lvS hR (by intro q hq; simp only [List.mem_cons, List.not_mem_nil, or_false] at hq ⊢; rcases hq with rfl | rfl | rfl | rfl <;> simp) (ih s (hm_max v1 (T_147 s v3 (s 2 9))) (hm_min v2 (T_147 s v3 (s 2 9))) (v3 + 1) (hm_dcx c22 hm) hq)
set_option maxRecDepth 20000 in
theorem sp_23 {R : hm_R} (hR : hm_Cm R) {N L : Nat} {g : Nat → hm_Sh} {s : hm_St} {b : hm_B} {Q : hm_Q} (hN : 68 ≤ N) (hq : Q (.inr (some (.int (T_23 s)))) (N, hm_sh L g, s)) : R 23 0 (lv_args 0 [.ref 2]) [] (N, hm_sh L g, s) b Q := by
  unfold T_23 at hq
  show R 23 0 [(0, .ref 2)] [] (N, hm_sh L g, s) _ Q
  refine hm_st hR (hm_st hR ⟨rfl, hm_le rfl, (hm_ltN hN rfl), hm_st hR (hm_st hR (hm_st hR ⟨rfl, hm_le rfl, (hm_ltN hN rfl), ?_⟩))⟩)
  refine hm_st hR ⟨hm_le rfl, rfl, (hm_le rfl), (hm_ltN hN rfl), hm_le rfl, hm_le rfl, (0, 0), Nat.zero_le _, Nat.zero_le _, ?_⟩
  refine sp_147 hR hN ?_
  show R 23 12 [(0, .ref 2)] [.int (T_147 s 0 (s 2 9))] (N, hm_sh L g, s) _ Q
  refine hm_st hR (hm_st hR (hm_st hR (hm_st hR (hm_st hR (?_)))))
  show R 23 17 [(3, .int 1), (2, .int (T_147 s 0 (s 2 9))), (1, .int (T_147 s 0 (s 2 9))), (0, .ref 2)] [] (N, hm_sh L g, s) _ Q
  exact lp_23_17 hR hN _ _ _ _ _ (Nat.lt_succ_self _) hq
/-- CurvekeyHouse$Cells.isLevel(I)Z -/
def T_70 (s : hm_St) (p1 : Int32) : Int32 := (if p1 < 0 then 0 else (if (s 47 1) < p1 then 0 else 1))
theorem B_70 (s : hm_St) (p1 : Int32) : T_70 s p1 = 0 ∨ T_70 s p1 = 1 := by
  unfold T_70
  repeat' split
  all_goals first | exact Or.inl rfl | exact Or.inr rfl
set_option maxRecDepth 20000 in
theorem sp_70 {R : hm_R} (hR : hm_Cm R) {N L : Nat} {g : Nat → hm_Sh} {s : hm_St} {b : hm_B} {Q : hm_Q} (hN : 68 ≤ N) {p1 : Int32} (hq : Q (.inr (some (.int (T_70 s p1)))) (N, hm_sh L g, s)) : R 70 0 (lv_args 0 [.ref 47, .int p1]) [] (N, hm_sh L g, s) b Q := by
  unfold T_70 at hq
  show R 70 0 [(0, .ref 47), (1, .int p1)] [] (N, hm_sh L g, s) _ Q
  refine hm_st hR (?_)
  show R 70 1 [(0, .ref 47), (1, .int p1)] [.int p1] (N, hm_sh L g, s) _ Q
  refine hm_st hR ⟨fun c1 => ?_, fun c1 => ?_⟩
  · rw [if_pos c1] at hq
    show R 70 16 [(0, .ref 47), (1, .int p1)] [] (N, hm_sh L g, s) _ Q
    refine hm_st hR (?_)
    exact hm_st hR ⟨fun _ => Or.inl rfl, hq⟩
  · rw [if_neg c1] at hq
    show R 70 4 [(0, .ref 47), (1, .int p1)] [] (N, hm_sh L g, s) _ Q
    refine hm_st hR (hm_st hR (hm_st hR ⟨rfl, hm_le rfl, (hm_ltN hN rfl), ?_⟩))
    show R 70 9 [(0, .ref 47), (1, .int p1)] [.int (s 47 1), .int p1] (N, hm_sh L g, s) _ Q
    suffices G : R 70 17 [(0, .ref 47), (1, .int p1)] [.int (if (s 47 1) < p1 then 0 else 1)] (N, hm_sh L g, s) b Q by
      show R 70 9 [(0, .ref 47), (1, .int p1)] [.int (s 47 1), .int p1] (N, hm_sh L g, s) _ Q
      refine hm_st hR ⟨fun c => ?_, fun c => ?_⟩
      · rw [if_pos c] at G; exact hm_st hR (G)
      · rw [if_neg c] at G; exact hm_st hR (hm_st hR (G))
    exact hm_st hR ⟨fun _ => (by split <;> first | exact Or.inl rfl | exact Or.inr rfl), hq⟩
/-- CurvekeyHouse$Cells.cellsOf(I)I -/
def T_72 (s : hm_St) (p1 : Int32) : Int32 := (1 <<< ((2 * p1) &&& 31))
set_option maxRecDepth 20000 in
theorem sp_72 {R : hm_R} (hR : hm_Cm R) {N L : Nat} {g : Nat → hm_Sh} {s : hm_St} {b : hm_B} {Q : hm_Q} (hN : 68 ≤ N) {p1 : Int32} (hq : Q (.inr (some (.int (T_72 s p1)))) (N, hm_sh L g, s)) : R 72 0 (lv_args 0 [.int p1]) [] (N, hm_sh L g, s) b Q := by
  unfold T_72 at hq
  show R 72 0 [(0, .int p1)] [] (N, hm_sh L g, s) _ Q
  refine hm_st hR (hm_st hR (hm_st hR (hm_st hR (hm_st hR (?_)))))
  exact hm_st hR ⟨fun z => absurd z (by decide), hq⟩
/-- CurvekeyHouse$Cells.isCell(II)Z -/
def T_71 (s : hm_St) (p1 : Int32) (p2 : Int32) : Int32 := (if (T_70 s p1) = 0 then 0 else (if p2 < 0 then 0 else (if (T_72 s p1) ≤ p2 then 0 else 1)))
theorem B_71 (s : hm_St) (p1 : Int32) (p2 : Int32) : T_71 s p1 p2 = 0 ∨ T_71 s p1 p2 = 1 := by
  unfold T_71
  repeat' split
  all_goals first | exact Or.inl rfl | exact Or.inr rfl | exact B_70 _ _
set_option maxRecDepth 20000 in
theorem sp_71 {R : hm_R} (hR : hm_Cm R) {N L : Nat} {g : Nat → hm_Sh} {s : hm_St} {b : hm_B} {Q : hm_Q} (hN : 68 ≤ N) {p1 : Int32} {p2 : Int32} (hq : Q (.inr (some (.int (T_71 s p1 p2)))) (N, hm_sh L g, s)) : R 71 0 (lv_args 0 [.ref 47, .int p1, .int p2]) [] (N, hm_sh L g, s) b Q := by
  unfold T_71 at hq
  show R 71 0 [(0, .ref 47), (1, .int p1), (2, .int p2)] [] (N, hm_sh L g, s) _ Q
  refine hm_st hR (hm_st hR (?_))
  refine hm_st hR ⟨hm_le rfl, rfl, (hm_le rfl), (hm_ltN hN rfl), hm_le rfl, hm_le rfl, (0, 0), Nat.zero_le _, Nat.zero_le _, ?_⟩
  refine sp_70 hR hN ?_
  show R 71 5 [(0, .ref 47), (1, .int p1), (2, .int p2)] [.int (T_70 s p1)] (N, hm_sh L g, s) _ Q
  show R 71 5 [(0, .ref 47), (1, .int p1), (2, .int p2)] [.int (T_70 s p1)] (N, hm_sh L g, s) _ Q
  refine hm_st hR ⟨fun c5 => ?_, fun c5 => ?_⟩
  · rw [if_pos c5] at hq
    show R 71 24 [(0, .ref 47), (1, .int p1), (2, .int p2)] [] (N, hm_sh L g, s) _ Q
    refine hm_st hR (?_)
    exact hm_st hR ⟨fun _ => Or.inl rfl, hq⟩
  · rw [if_neg c5] at hq
    show R 71 8 [(0, .ref 47), (1, .int p1), (2, .int p2)] [] (N, hm_sh L g, s) _ Q
    refine hm_st hR (?_)
    show R 71 9 [(0, .ref 47), (1, .int p1), (2, .int p2)] [.int p2] (N, hm_sh L g, s) _ Q
    refine hm_st hR ⟨fun c9 => ?_, fun c9 => ?_⟩
    · rw [if_pos c9] at hq
      show R 71 24 [(0, .ref 47), (1, .int p1), (2, .int p2)] [] (N, hm_sh L g, s) _ Q
      refine hm_st hR (?_)
      exact hm_st hR ⟨fun _ => Or.inl rfl, hq⟩
    · rw [if_neg c9] at hq
      show R 71 12 [(0, .ref 47), (1, .int p1), (2, .int p2)] [] (N, hm_sh L g, s) _ Q
      refine hm_st hR (hm_st hR (?_))
      refine hm_st hR ⟨hm_le rfl, hm_le rfl, hm_le rfl, (0, 0), Nat.zero_le _, Nat.zero_le _, ?_⟩
      refine sp_72 hR hN ?_
      show R 71 17 [(0, .ref 47), (1, .int p1), (2, .int p2)] [.int (T_72 s p1), .int p2] (N, hm_sh L g, s) _ Q
      show R 71 17 [(0, .ref 47), (1, .int p1), (2, .int p2)] [.int (T_72 s p1), .int p2] (N, hm_sh L g, s) _ Q
      suffices G : R 71 25 [(0, .ref 47), (1, .int p1), (2, .int p2)] [.int (if (T_72 s p1) ≤ p2 then 0 else 1)] (N, hm_sh L g, s) ((b.1 - 0, b.2 - 0).1 - 0, (b.1 - 0, b.2 - 0).2 - 0) Q by
        show R 71 17 [(0, .ref 47), (1, .int p1), (2, .int p2)] [.int (T_72 s p1), .int p2] (N, hm_sh L g, s) _ Q
        refine hm_st hR ⟨fun c => ?_, fun c => ?_⟩
        · rw [if_pos c] at G; exact hm_st hR (G)
        · rw [if_neg c] at G; exact hm_st hR (hm_st hR (G))
      exact hm_st hR ⟨fun _ => (by split <;> first | exact Or.inl rfl | exact Or.inr rfl), hq⟩
def T_154_15 : Nat → hm_St → Int32 → Int32
  | 0, s, _ => 0
  | n + 1, s, v1 => (if (s 42 4) ≤ v1 then 1 else (if (s 42 3) < (T_141 s v1) then 0 else (if (T_178 s 46 1025 v1) < (T_178 s 46 1025 (v1 + 1)) then (T_154_15 n s (v1 + 1)) else 0)))
/-- CurvekeyHouse$Pages.isOrdered()Z -/
def T_154 (s : hm_St) : Int32 := (if (T_178 s 46 1025 0) = 0 then (T_154_15 (hm_df (s 42 4) 0 + 1) s 0) else 0)
theorem B_154_15 : ∀ (n : Nat) (s : hm_St) v0, T_154_15  n s v0 = 0 ∨ T_154_15  n s v0 = 1 := by
  intro n
  induction n with
  | zero => intros; exact Or.inl rfl
  | succ n ih =>
    intros
    unfold T_154_15
    repeat' split
    all_goals first | exact Or.inl rfl | exact Or.inr rfl | exact ih _ _
theorem B_154 (s : hm_St) : T_154 s = 0 ∨ T_154 s = 1 := by
  unfold T_154
  repeat' split
  all_goals first | exact Or.inl rfl | exact Or.inr rfl | exact B_154_15 _ _ _
set_option maxRecDepth 20000 in
theorem lp_154_15 {R : hm_R} (hR : hm_Cm R) {N L : Nat} {g : Nat → hm_Sh} {b : hm_B} {Q : hm_Q} (hN : 68 ≤ N) : ∀ (n : Nat) (s : hm_St) (v1 : Int32), hm_df (s 42 4) v1 < n → (hq : Q (.inr (some (.int (T_154_15 n s v1)))) (N, hm_sh L g, s)) → R 154 15 [(1, .int v1), (0, .ref 42)] [] (N, hm_sh L g, s) b Q := by
  intro n
  induction n with
  | zero => intro s v1 hm _; exact absurd hm (Nat.not_lt_zero _)
  | succ n ih =>
    intro s v1 hm hq
    unfold T_154_15 at hq
    refine hm_st hR (hm_st hR (hm_st hR ⟨rfl, hm_le rfl, (hm_ltN hN rfl), ?_⟩))
    show R 154 20 [(1, .int v1), (0, .ref 42)] [.int (s 42 4), .int v1] (N, hm_sh L g, s) _ Q
    refine hm_st hR ⟨fun c20 => ?_, fun c20 => ?_⟩
    · rw [if_pos c20] at hq
      show R 154 64 [(1, .int v1), (0, .ref 42)] [] (N, hm_sh L g, s) _ Q
      refine hm_st hR (?_)
      exact hm_st hR ⟨fun _ => Or.inr rfl, hq⟩
    · rw [if_neg c20] at hq
      show R 154 23 [(1, .int v1), (0, .ref 42)] [] (N, hm_sh L g, s) _ Q
      refine hm_st hR (hm_st hR (?_))
      refine hm_st hR ⟨hm_le rfl, rfl, (hm_le rfl), (hm_ltN hN rfl), hm_le rfl, hm_le rfl, (0, 0), Nat.zero_le _, Nat.zero_le _, ?_⟩
      refine sp_141 hR hN ?_
      show R 154 28 [(1, .int v1), (0, .ref 42)] [.int (T_141 s v1)] (N, hm_sh L g, s) _ Q
      refine hm_st hR (hm_st hR ⟨rfl, hm_le rfl, (hm_ltN hN rfl), ?_⟩)
      show R 154 32 [(1, .int v1), (0, .ref 42)] [.int (s 42 3), .int (T_141 s v1)] (N, hm_sh L g, s) _ Q
      refine hm_st hR ⟨fun c32 => ?_, fun c32 => ?_⟩
      · rw [if_pos c32] at hq
        show R 154 56 [(1, .int v1), (0, .ref 42)] [] (N, hm_sh L g, s) _ Q
        refine hm_st hR (?_)
        exact hm_st hR ⟨fun _ => Or.inl rfl, hq⟩
      · rw [if_neg c32] at hq
        show R 154 35 [(1, .int v1), (0, .ref 42)] [] (N, hm_sh L g, s) _ Q
        refine hm_st hR (hm_st hR ⟨rfl, hm_le rfl, (hm_ltN hN rfl), hm_st hR (hm_st hR (hm_st hR (?_)))⟩)
        refine hm_st hR ⟨hm_le rfl, rfl, (hm_le rfl), (hm_ltN hN rfl), hm_le rfl, hm_le rfl, (0, 0), Nat.zero_le _, Nat.zero_le _, ?_⟩
        refine sp_178 hR hN (rr := 45) (aa := 46) (nn := 1025) rfl rfl (hm_le rfl) (hm_ltN hN rfl) rfl rfl (hm_le rfl) (hm_ltN hN rfl) (by decide) ?_
        show R 154 45 [(1, .int v1), (0, .ref 42)] [.int (T_178 s 46 1025 (v1 + 1))] (N, hm_sh L g, s) _ Q
        refine hm_st hR (hm_st hR ⟨rfl, hm_le rfl, (hm_ltN hN rfl), hm_st hR (?_)⟩)
        refine hm_st hR ⟨hm_le rfl, rfl, (hm_le rfl), (hm_ltN hN rfl), hm_le rfl, hm_le rfl, (0, 0), Nat.zero_le _, Nat.zero_le _, ?_⟩
        refine sp_178 hR hN (rr := 45) (aa := 46) (nn := 1025) rfl rfl (hm_le rfl) (hm_ltN hN rfl) rfl rfl (hm_le rfl) (hm_ltN hN rfl) (by decide) ?_
        show R 154 53 [(1, .int v1), (0, .ref 42)] [.int (T_178 s 46 1025 v1), .int (T_178 s 46 1025 (v1 + 1))] (N, hm_sh L g, s) _ Q
        show R 154 53 [(1, .int v1), (0, .ref 42)] [.int (T_178 s 46 1025 v1), .int (T_178 s 46 1025 (v1 + 1))] (N, hm_sh L g, s) _ Q
        refine hm_st hR ⟨fun c53 => ?_, fun c53 => ?_⟩
        · rw [if_pos c53] at hq
          show R 154 58 [(1, .int v1), (0, .ref 42)] [] (N, hm_sh L g, s) _ Q
          refine hm_st hR (hm_st hR (?_))
          show R 154 15 [(1, .int (v1 + 1)), (0, .ref 42)] [] (N, hm_sh L g, s) _ Q
          exact hm_lvS hR (by intro q hq; simp only [List.mem_cons, List.not_mem_nil, or_false] at hq ⊢; rcases hq with rfl | rfl <;> simp) (ih s (v1 + 1) (hm_dcx c20 hm) hq)
        · rw [if_neg c53] at hq
          show R 154 56 [(1, .int v1), (0, .ref 42)] [] (N, hm_sh L g, s) _ Q
          refine hm_st hR (?_)
          exact hm_st hR ⟨fun _ => Or.inl rfl, hq⟩
set_option maxRecDepth 20000 in
theorem sp_154 {R : hm_R} (hR : hm_Cm R) {N L : Nat} {g : Nat → hm_Sh} {s : hm_St} {b : hm_B} {Q : hm_Q} (hN : 68 ≤ N) (hq : Q (.inr (some (.int (T_154 s)))) (N, hm_sh L g, s)) : R 154 0 (lv_args 0 [.ref 42]) [] (N, hm_sh L g, s) b Q := by
  unfold T_154 at hq
  show R 154 0 [(0, .ref 42)] [] (N, hm_sh L g, s) _ Q
  refine hm_st hR (hm_st hR ⟨rfl, hm_le rfl, (hm_ltN hN rfl), hm_st hR (?_)⟩)
  refine hm_st hR ⟨hm_le rfl, rfl, (hm_le rfl), (hm_ltN hN rfl), hm_le rfl, hm_le rfl, (0, 0), Nat.zero_le _, Nat.zero_le _, ?_⟩
  refine sp_178 hR hN (rr := 45) (aa := 46) (nn := 1025) rfl rfl (hm_le rfl) (hm_ltN hN rfl) rfl rfl (hm_le rfl) (hm_ltN hN rfl) (by decide) ?_
  show R 154 8 [(0, .ref 42)] [.int (T_178 s 46 1025 0)] (N, hm_sh L g, s) _ Q
  show R 154 8 [(0, .ref 42)] [.int (T_178 s 46 1025 0)] (N, hm_sh L g, s) _ Q
  refine hm_st hR ⟨fun c8 => ?_, fun c8 => ?_⟩
  · rw [if_pos c8] at hq
    show R 154 13 [(0, .ref 42)] [] (N, hm_sh L g, s) _ Q
    refine hm_st hR (hm_st hR (?_))
    show R 154 15 [(1, .int 0), (0, .ref 42)] [] (N, hm_sh L g, s) _ Q
    exact lp_154_15 hR hN _ _ _ (Nat.lt_succ_self _) hq
  · rw [if_neg c8] at hq
    show R 154 11 [(0, .ref 42)] [] (N, hm_sh L g, s) _ Q
    refine hm_st hR (?_)
    exact hm_st hR ⟨fun _ => Or.inl rfl, hq⟩
/-- CurvekeyHouse$Pages.holder(I)I -/
def T_140 (s : hm_St) (p1 : Int32) : Int32 := (hm_max (-1) (T_178 s 44 1024 p1))
set_option maxRecDepth 20000 in
theorem sp_140 {R : hm_R} (hR : hm_Cm R) {N L : Nat} {g : Nat → hm_Sh} {s : hm_St} {b : hm_B} {Q : hm_Q} (hN : 68 ≤ N) {p1 : Int32} (hq : Q (.inr (some (.int (T_140 s p1)))) (N, hm_sh L g, s)) : R 140 0 (lv_args 0 [.ref 42, .int p1]) [] (N, hm_sh L g, s) b Q := by
  unfold T_140 at hq
  show R 140 0 [(0, .ref 42), (1, .int p1)] [] (N, hm_sh L g, s) _ Q
  refine hm_st hR (hm_st hR (hm_st hR ⟨rfl, hm_le rfl, (hm_ltN hN rfl), hm_st hR (?_)⟩))
  refine hm_st hR ⟨hm_le rfl, rfl, (hm_le rfl), (hm_ltN hN rfl), hm_le rfl, hm_le rfl, (0, 0), Nat.zero_le _, Nat.zero_le _, ?_⟩
  refine sp_178 hR hN (rr := 43) (aa := 44) (nn := 1024) rfl rfl (hm_le rfl) (hm_ltN hN rfl) rfl rfl (hm_le rfl) (hm_ltN hN rfl) (by decide) ?_
  show R 140 9 [(0, .ref 42), (1, .int p1)] [.int (T_178 s 44 1024 p1), .int (-1)] (N, hm_sh L g, s) _ Q
  refine hm_st hR ⟨hm_le rfl, ?_⟩
  show R 140 12 [(0, .ref 42), (1, .int p1)] [.int (hm_max (-1) (T_178 s 44 1024 p1))] (N, hm_sh L g, s) _ Q
  exact hm_st hR ⟨fun z => absurd z (by decide), hq⟩
end
section
/-! The methods as functions; the abstract machine does them. -/
/-- CurvekeyHouse$Points.isAlive(I)Z -/
def T_160 (s : hm_St) (p1 : Int32) : Int32 := (if (T_159 s p1) = 0 then 0 else (if (T_178 s 20 80 p1) = 1 then 1 else 0))
theorem B_160 (s : hm_St) (p1 : Int32) : T_160 s p1 = 0 ∨ T_160 s p1 = 1 := by
  unfold T_160
  repeat' split
  all_goals first | exact Or.inl rfl | exact Or.inr rfl | exact B_159 _ _
set_option maxRecDepth 20000 in
theorem sp_160 {R : hm_R} (hR : hm_Cm R) {N L : Nat} {g : Nat → hm_Sh} {s : hm_St} {b : hm_B} {Q : hm_Q} (hN : 68 ≤ N) {p1 : Int32} (hq : Q (.inr (some (.int (T_160 s p1)))) (N, hm_sh L g, s)) : R 160 0 (lv_args 0 [.ref 14, .int p1]) [] (N, hm_sh L g, s) b Q := by
  unfold T_160 at hq
  show R 160 0 [(0, .ref 14), (1, .int p1)] [] (N, hm_sh L g, s) _ Q
  refine hm_st hR (hm_st hR (?_))
  refine hm_st hR ⟨hm_le rfl, rfl, (hm_le rfl), (hm_ltN hN rfl), hm_le rfl, hm_le rfl, (0, 0), Nat.zero_le _, Nat.zero_le _, ?_⟩
  refine sp_159 hR hN ?_
  show R 160 5 [(0, .ref 14), (1, .int p1)] [.int (T_159 s p1)] (N, hm_sh L g, s) _ Q
  show R 160 5 [(0, .ref 14), (1, .int p1)] [.int (T_159 s p1)] (N, hm_sh L g, s) _ Q
  refine hm_st hR ⟨fun c5 => ?_, fun c5 => ?_⟩
  · rw [if_pos c5] at hq
    show R 160 24 [(0, .ref 14), (1, .int p1)] [] (N, hm_sh L g, s) _ Q
    refine hm_st hR (?_)
    exact hm_st hR ⟨fun _ => Or.inl rfl, hq⟩
  · rw [if_neg c5] at hq
    show R 160 8 [(0, .ref 14), (1, .int p1)] [] (N, hm_sh L g, s) _ Q
    refine hm_st hR (hm_st hR ⟨rfl, hm_le rfl, (hm_ltN hN rfl), hm_st hR (?_)⟩)
    refine hm_st hR ⟨hm_le rfl, rfl, (hm_le rfl), (hm_ltN hN rfl), hm_le rfl, hm_le rfl, (0, 0), Nat.zero_le _, Nat.zero_le _, ?_⟩
    refine sp_178 hR hN (rr := 19) (aa := 20) (nn := 80) rfl rfl (hm_le rfl) (hm_ltN hN rfl) rfl rfl (hm_le rfl) (hm_ltN hN rfl) (by decide) ?_
    show R 160 16 [(0, .ref 14), (1, .int p1)] [.int (T_178 s 20 80 p1)] (N, hm_sh L g, s) _ Q
    refine hm_st hR (?_)
    show R 160 17 [(0, .ref 14), (1, .int p1)] [.int 1, .int (T_178 s 20 80 p1)] (N, hm_sh L g, s) _ Q
    suffices G : R 160 25 [(0, .ref 14), (1, .int p1)] [.int (if (T_178 s 20 80 p1) = 1 then 1 else 0)] (N, hm_sh L g, s) ((b.1 - 0, b.2 - 0).1 - 0, (b.1 - 0, b.2 - 0).2 - 0) Q by
      show R 160 17 [(0, .ref 14), (1, .int p1)] [.int 1, .int (T_178 s 20 80 p1)] (N, hm_sh L g, s) _ Q
      refine hm_st hR ⟨fun c => ?_, fun c => ?_⟩
      · rw [if_neg c] at G; exact hm_st hR (G)
      · rw [if_pos c] at G; exact hm_st hR (hm_st hR (G))
    exact hm_st hR ⟨fun _ => (by split <;> first | exact Or.inl rfl | exact Or.inr rfl), hq⟩
/-- CurvekeyHouse$Points.x(I)I -/
def T_161 (s : hm_St) (p1 : Int32) : Int32 := (T_178 s 16 80 p1)
set_option maxRecDepth 20000 in
theorem sp_161 {R : hm_R} (hR : hm_Cm R) {N L : Nat} {g : Nat → hm_Sh} {s : hm_St} {b : hm_B} {Q : hm_Q} (hN : 68 ≤ N) {p1 : Int32} (hq : Q (.inr (some (.int (T_161 s p1)))) (N, hm_sh L g, s)) : R 161 0 (lv_args 0 [.ref 14, .int p1]) [] (N, hm_sh L g, s) b Q := by
  unfold T_161 at hq
  show R 161 0 [(0, .ref 14), (1, .int p1)] [] (N, hm_sh L g, s) _ Q
  refine hm_st hR (hm_st hR ⟨rfl, hm_le rfl, (hm_ltN hN rfl), hm_st hR (?_)⟩)
  refine hm_st hR ⟨hm_le rfl, rfl, (hm_le rfl), (hm_ltN hN rfl), hm_le rfl, hm_le rfl, (0, 0), Nat.zero_le _, Nat.zero_le _, ?_⟩
  refine sp_178 hR hN (rr := 15) (aa := 16) (nn := 80) rfl rfl (hm_le rfl) (hm_ltN hN rfl) rfl rfl (hm_le rfl) (hm_ltN hN rfl) (by decide) ?_
  show R 161 8 [(0, .ref 14), (1, .int p1)] [.int (T_178 s 16 80 p1)] (N, hm_sh L g, s) _ Q
  exact hm_st hR ⟨fun z => absurd z (by decide), hq⟩
/-- CurvekeyHouse$Points.y(I)I -/
def T_162 (s : hm_St) (p1 : Int32) : Int32 := (T_178 s 18 80 p1)
set_option maxRecDepth 20000 in
theorem sp_162 {R : hm_R} (hR : hm_Cm R) {N L : Nat} {g : Nat → hm_Sh} {s : hm_St} {b : hm_B} {Q : hm_Q} (hN : 68 ≤ N) {p1 : Int32} (hq : Q (.inr (some (.int (T_162 s p1)))) (N, hm_sh L g, s)) : R 162 0 (lv_args 0 [.ref 14, .int p1]) [] (N, hm_sh L g, s) b Q := by
  unfold T_162 at hq
  show R 162 0 [(0, .ref 14), (1, .int p1)] [] (N, hm_sh L g, s) _ Q
  refine hm_st hR (hm_st hR ⟨rfl, hm_le rfl, (hm_ltN hN rfl), hm_st hR (?_)⟩)
  refine hm_st hR ⟨hm_le rfl, rfl, (hm_le rfl), (hm_ltN hN rfl), hm_le rfl, hm_le rfl, (0, 0), Nat.zero_le _, Nat.zero_le _, ?_⟩
  refine sp_178 hR hN (rr := 17) (aa := 18) (nn := 80) rfl rfl (hm_le rfl) (hm_ltN hN rfl) rfl rfl (hm_le rfl) (hm_ltN hN rfl) (by decide) ?_
  show R 162 8 [(0, .ref 14), (1, .int p1)] [.int (T_178 s 18 80 p1)] (N, hm_sh L g, s) _ Q
  exact hm_st hR ⟨fun z => absurd z (by decide), hq⟩
/-- CurvekeyHouse$Curves.keyOf(III)I -/
def T_88 (s : hm_St) (p1 : Int32) (p2 : Int32) (p3 : Int32) : Int32 := (T_178 s 9 6144 (((p1 * 1024) + (p3 * (s 3 6))) + p2))
set_option maxRecDepth 20000 in
theorem sp_88 {R : hm_R} (hR : hm_Cm R) {N L : Nat} {g : Nat → hm_Sh} {s : hm_St} {b : hm_B} {Q : hm_Q} (hN : 68 ≤ N) {p1 : Int32} {p2 : Int32} {p3 : Int32} (hq : Q (.inr (some (.int (T_88 s p1 p2 p3)))) (N, hm_sh L g, s)) : R 88 0 (lv_args 0 [.ref 3, .int p1, .int p2, .int p3]) [] (N, hm_sh L g, s) b Q := by
  unfold T_88 at hq
  show R 88 0 [(0, .ref 3), (1, .int p1), (2, .int p2), (3, .int p3)] [] (N, hm_sh L g, s) _ Q
  refine hm_st hR (hm_st hR ⟨rfl, hm_le rfl, (hm_ltN hN rfl), hm_st hR (hm_st hR (hm_st hR (hm_st hR (hm_st hR (hm_st hR ⟨rfl, hm_le rfl, (hm_ltN hN rfl), hm_st hR (hm_st hR (hm_st hR (hm_st hR (?_))))⟩)))))⟩)
  refine hm_st hR ⟨hm_le rfl, rfl, (hm_le rfl), (hm_ltN hN rfl), hm_le rfl, hm_le rfl, (0, 0), Nat.zero_le _, Nat.zero_le _, ?_⟩
  refine sp_178 hR hN (rr := 8) (aa := 9) (nn := 6144) rfl rfl (hm_le rfl) (hm_ltN hN rfl) rfl rfl (hm_le rfl) (hm_ltN hN rfl) (by decide) ?_
  show R 88 21 [(0, .ref 3), (1, .int p1), (2, .int p2), (3, .int p3)] [.int (T_178 s 9 6144 (((p1 * 1024) + (p3 * (s 3 6))) + p2))] (N, hm_sh L g, s) _ Q
  exact hm_st hR ⟨fun z => absurd z (by decide), hq⟩
/-- CurvekeyHouse.keyAt(II)I -/
def T_39 (s : hm_St) (p1 : Int32) (p2 : Int32) : Int32 := (T_88 s (s 2 8) p1 p2)
set_option maxRecDepth 20000 in
theorem sp_39 {R : hm_R} (hR : hm_Cm R) {N L : Nat} {g : Nat → hm_Sh} {s : hm_St} {b : hm_B} {Q : hm_Q} (hN : 68 ≤ N) {p1 : Int32} {p2 : Int32} (hq : Q (.inr (some (.int (T_39 s p1 p2)))) (N, hm_sh L g, s)) : R 39 0 (lv_args 0 [.ref 2, .int p1, .int p2]) [] (N, hm_sh L g, s) b Q := by
  unfold T_39 at hq
  show R 39 0 [(0, .ref 2), (1, .int p1), (2, .int p2)] [] (N, hm_sh L g, s) _ Q
  refine hm_st hR (hm_st hR ⟨rfl, hm_le rfl, (hm_ltN hN rfl), hm_st hR (hm_st hR ⟨rfl, hm_le rfl, (hm_ltN hN rfl), hm_st hR (hm_st hR (?_))⟩)⟩)
  refine hm_st hR ⟨hm_le rfl, rfl, (hm_le rfl), (hm_ltN hN rfl), hm_le rfl, hm_le rfl, (0, 0), Nat.zero_le _, Nat.zero_le _, ?_⟩
  refine sp_88 hR hN ?_
  show R 39 13 [(0, .ref 2), (1, .int p1), (2, .int p2)] [.int (T_88 s (s 2 8) p1 p2)] (N, hm_sh L g, s) _ Q
  exact hm_st hR ⟨fun z => absurd z (by decide), hq⟩
/-- CurvekeyHouse.keyOfPoint(I)I -/
def T_40 (s : hm_St) (p1 : Int32) : Int32 := (T_39 s (T_161 s p1) (T_162 s p1))
set_option maxRecDepth 20000 in
theorem sp_40 {R : hm_R} (hR : hm_Cm R) {N L : Nat} {g : Nat → hm_Sh} {s : hm_St} {b : hm_B} {Q : hm_Q} (hN : 68 ≤ N) {p1 : Int32} (hq : Q (.inr (some (.int (T_40 s p1)))) (N, hm_sh L g, s)) : R 40 0 (lv_args 0 [.ref 2, .int p1]) [] (N, hm_sh L g, s) b Q := by
  unfold T_40 at hq
  show R 40 0 [(0, .ref 2), (1, .int p1)] [] (N, hm_sh L g, s) _ Q
  refine hm_st hR (hm_st hR (hm_st hR ⟨rfl, hm_le rfl, (hm_ltN hN rfl), hm_st hR (?_)⟩))
  refine hm_st hR ⟨hm_le rfl, rfl, (hm_le rfl), (hm_ltN hN rfl), hm_le rfl, hm_le rfl, (0, 0), Nat.zero_le _, Nat.zero_le _, ?_⟩
  refine sp_161 hR hN ?_
  show R 40 9 [(0, .ref 2), (1, .int p1)] [.int (T_161 s p1), .ref 2] (N, hm_sh L g, s) _ Q
  refine hm_st hR (hm_st hR ⟨rfl, hm_le rfl, (hm_ltN hN rfl), hm_st hR (?_)⟩)
  refine hm_st hR ⟨hm_le rfl, rfl, (hm_le rfl), (hm_ltN hN rfl), hm_le rfl, hm_le rfl, (0, 0), Nat.zero_le _, Nat.zero_le _, ?_⟩
  refine sp_162 hR hN ?_
  show R 40 17 [(0, .ref 2), (1, .int p1)] [.int (T_162 s p1), .int (T_161 s p1), .ref 2] (N, hm_sh L g, s) _ Q
  refine hm_st hR ⟨hm_le rfl, rfl, (hm_le rfl), (hm_ltN hN rfl), hm_le rfl, hm_le rfl, (0, 0), Nat.zero_le _, Nat.zero_le _, ?_⟩
  refine sp_39 hR hN ?_
  show R 40 20 [(0, .ref 2), (1, .int p1)] [.int (T_39 s (T_161 s p1) (T_162 s p1))] (N, hm_sh L g, s) _ Q
  exact hm_st hR ⟨fun z => absurd z (by decide), hq⟩
/-- CurvekeyHouse$Points.living()I -/
def T_158 (s : hm_St) : Int32 := (s 14 6)
set_option maxRecDepth 20000 in
theorem sp_158 {R : hm_R} (hR : hm_Cm R) {N L : Nat} {g : Nat → hm_Sh} {s : hm_St} {b : hm_B} {Q : hm_Q} (hN : 68 ≤ N) (hq : Q (.inr (some (.int (T_158 s)))) (N, hm_sh L g, s)) : R 158 0 (lv_args 0 [.ref 14]) [] (N, hm_sh L g, s) b Q := by
  unfold T_158 at hq
  show R 158 0 [(0, .ref 14)] [] (N, hm_sh L g, s) _ Q
  refine hm_st hR (hm_st hR ⟨rfl, hm_le rfl, (hm_ltN hN rfl), ?_⟩)
  exact hm_st hR ⟨fun z => absurd z (by decide), hq⟩
def T_59_4 : Nat → hm_St → Int32 → Int32 → Int32
  | 0, s, _, _ => 0
  | n + 1, s, v1, v2 => (if (T_87 s) ≤ v2 then (if v1 = (T_158 s) then 1 else 0) else (if (T_140 s v2) = (-1) then (T_59_4 n s (v1 + (if (T_140 s v2) = (-1) then 0 else 1)) (v2 + 1)) else (if (T_160 s (T_140 s v2)) = 0 then 0 else (if (T_40 s (T_140 s v2)) = v2 then (T_59_4 n s (v1 + (if (T_140 s v2) = (-1) then 0 else 1)) (v2 + 1)) else 0))))
/-- CurvekeyHouse.arePointsEntered()Z -/
def T_59 (s : hm_St) : Int32 := (T_59_4 (hm_df (T_87 s) 0 + 1) s 0 0)
theorem B_59_4 : ∀ (n : Nat) (s : hm_St) v0 v1, T_59_4  n s v0 v1 = 0 ∨ T_59_4  n s v0 v1 = 1 := by
  intro n
  induction n with
  | zero => intros; exact Or.inl rfl
  | succ n ih =>
    intros
    unfold T_59_4
    repeat' split
    all_goals first | exact Or.inl rfl | exact Or.inr rfl | exact ih _ _ _
theorem B_59 (s : hm_St) : T_59 s = 0 ∨ T_59 s = 1 := by
  unfold T_59
  repeat' split
  all_goals first | exact Or.inl rfl | exact Or.inr rfl | exact B_160 _ _ | exact B_59_4 _ _ _ _
set_option maxRecDepth 20000 in
theorem lp_59_4 {R : hm_R} (hR : hm_Cm R) {N L : Nat} {g : Nat → hm_Sh} {b : hm_B} {Q : hm_Q} (hN : 68 ≤ N) : ∀ (n : Nat) (s : hm_St) (v1 : Int32) (v2 : Int32), hm_df (T_87 s) v2 < n → (hq : Q (.inr (some (.int (T_59_4 n s v1 v2)))) (N, hm_sh L g, s)) → R 59 4 [(2, .int v2), (1, .int v1), (0, .ref 2)] [] (N, hm_sh L g, s) b Q := by
  intro n
  induction n with
  | zero => intro s v1 v2 hm _; exact absurd hm (Nat.not_lt_zero _)
  | succ n ih =>
    intro s v1 v2 hm hq
    unfold T_59_4 at hq
    refine hm_st hR (hm_st hR (hm_st hR ⟨rfl, hm_le rfl, (hm_ltN hN rfl), ?_⟩))
    refine hm_st hR ⟨hm_le rfl, rfl, (hm_le rfl), (hm_ltN hN rfl), hm_le rfl, hm_le rfl, (0, 0), Nat.zero_le _, Nat.zero_le _, ?_⟩
    refine sp_87 hR hN ?_
    show R 59 12 [(2, .int v2), (1, .int v1), (0, .ref 2)] [.int (T_87 s), .int v2] (N, hm_sh L g, s) _ Q
    show R 59 12 [(2, .int v2), (1, .int v1), (0, .ref 2)] [.int (T_87 s), .int v2] (N, hm_sh L g, s) _ Q
    refine hm_st hR ⟨fun c12 => ?_, fun c12 => ?_⟩
    · rw [if_pos c12] at hq
      show R 59 70 [(2, .int v2), (1, .int v1), (0, .ref 2)] [] (N, hm_sh L g, s) _ Q
      refine hm_st hR (hm_st hR (hm_st hR ⟨rfl, hm_le rfl, (hm_ltN hN rfl), ?_⟩))
      refine hm_st hR ⟨hm_le rfl, rfl, (hm_le rfl), (hm_ltN hN rfl), hm_le rfl, hm_le rfl, (0, 0), Nat.zero_le _, Nat.zero_le _, ?_⟩
      refine sp_158 hR hN ?_
      show R 59 78 [(2, .int v2), (1, .int v1), (0, .ref 2)] [.int (T_158 s), .int v1] (N, hm_sh L g, s) _ Q
      show R 59 78 [(2, .int v2), (1, .int v1), (0, .ref 2)] [.int (T_158 s), .int v1] (N, hm_sh L g, s) _ Q
      suffices G : R 59 86 [(2, .int v2), (1, .int v1), (0, .ref 2)] [.int (if v1 = (T_158 s) then 1 else 0)] (N, hm_sh L g, s) ((b.1 - 0, b.2 - 0).1 - 0, (b.1 - 0, b.2 - 0).2 - 0) Q by
        show R 59 78 [(2, .int v2), (1, .int v1), (0, .ref 2)] [.int (T_158 s), .int v1] (N, hm_sh L g, s) _ Q
        refine hm_st hR ⟨fun c => ?_, fun c => ?_⟩
        · rw [if_neg c] at G; exact hm_st hR (G)
        · rw [if_pos c] at G; exact hm_st hR (hm_st hR (G))
      exact hm_st hR ⟨fun _ => (by split <;> first | exact Or.inl rfl | exact Or.inr rfl), hq⟩
    · rw [if_neg c12] at hq
      show R 59 15 [(2, .int v2), (1, .int v1), (0, .ref 2)] [] (N, hm_sh L g, s) _ Q
      refine hm_st hR (hm_st hR ⟨rfl, hm_le rfl, (hm_ltN hN rfl), hm_st hR (?_)⟩)
      refine hm_st hR ⟨hm_le rfl, rfl, (hm_le rfl), (hm_ltN hN rfl), hm_le rfl, hm_le rfl, (0, 0), Nat.zero_le _, Nat.zero_le _, ?_⟩
      refine sp_140 hR hN ?_
      show R 59 23 [(2, .int v2), (1, .int v1), (0, .ref 2)] [.int (T_140 s v2)] (N, hm_sh L g, s) _ Q
      refine hm_st hR (hm_st hR (hm_st hR (?_)))
      show R 59 26 [(3, .int (T_140 s v2)), (2, .int v2), (1, .int v1), (0, .ref 2)] [.int (-1), .int (T_140 s v2)] (N, hm_sh L g, s) _ Q
      refine hm_st hR ⟨fun c26 => ?_, fun c26 => ?_⟩
      · rw [if_pos c26] at hq
        show R 59 51 [(3, .int (T_140 s v2)), (2, .int v2), (1, .int v1), (0, .ref 2)] [] (N, hm_sh L g, s) _ Q
        refine hm_st hR (hm_st hR (hm_st hR (?_)))
        show R 59 54 [(3, .int (T_140 s v2)), (2, .int v2), (1, .int v1), (0, .ref 2)] [.int (-1), .int (T_140 s v2), .int v1] (N, hm_sh L g, s) _ Q
        suffices G : R 59 62 [(3, .int (T_140 s v2)), (2, .int v2), (1, .int v1), (0, .ref 2)] [.int (if (T_140 s v2) = (-1) then 0 else 1), .int v1] (N, hm_sh L g, s) ((b.1 - 0, b.2 - 0).1 - 0, (b.1 - 0, b.2 - 0).2 - 0) Q by
          show R 59 54 [(3, .int (T_140 s v2)), (2, .int v2), (1, .int v1), (0, .ref 2)] [.int (-1), .int (T_140 s v2), .int v1] (N, hm_sh L g, s) _ Q
          refine hm_st hR ⟨fun c => ?_, fun c => ?_⟩
          · rw [if_neg c] at G; exact hm_st hR (G)
          · rw [if_pos c] at G; exact hm_st hR (hm_st hR (G))
        refine hm_st hR (hm_st hR (hm_st hR (hm_st hR (?_))))
        show R 59 4 [(2, .int (v2 + 1)), (1, .int (v1 + (if (T_140 s v2) = (-1) then 0 else 1))), (3, .int (T_140 s v2)), (0, .ref 2)] [] (N, hm_sh L g, s) _ Q
        exact hm_lvS hR (by intro q hq; simp only [List.mem_cons, List.not_mem_nil, or_false] at hq ⊢; rcases hq with rfl | rfl | rfl <;> simp) (ih s (v1 + (if (T_140 s v2) = (-1) then 0 else 1)) (v2 + 1) (hm_dcx c12 hm) hq)
      · rw [if_neg c26] at hq
        show R 59 29 [(3, .int (T_140 s v2)), (2, .int v2), (1, .int v1), (0, .ref 2)] [] (N, hm_sh L g, s) _ Q
        refine hm_st hR (hm_st hR ⟨rfl, hm_le rfl, (hm_ltN hN rfl), hm_st hR (?_)⟩)
        refine hm_st hR ⟨hm_le rfl, rfl, (hm_le rfl), (hm_ltN hN rfl), hm_le rfl, hm_le rfl, (0, 0), Nat.zero_le _, Nat.zero_le _, ?_⟩
        refine sp_160 hR hN ?_
        show R 59 37 [(3, .int (T_140 s v2)), (2, .int v2), (1, .int v1), (0, .ref 2)] [.int (T_160 s (T_140 s v2))] (N, hm_sh L g, s) _ Q
        show R 59 37 [(3, .int (T_140 s v2)), (2, .int v2), (1, .int v1), (0, .ref 2)] [.int (T_160 s (T_140 s v2))] (N, hm_sh L g, s) _ Q
        refine hm_st hR ⟨fun c37 => ?_, fun c37 => ?_⟩
        · rw [if_pos c37] at hq
          show R 59 49 [(3, .int (T_140 s v2)), (2, .int v2), (1, .int v1), (0, .ref 2)] [] (N, hm_sh L g, s) _ Q
          refine hm_st hR (?_)
          exact hm_st hR ⟨fun _ => Or.inl rfl, hq⟩
        · rw [if_neg c37] at hq
          show R 59 40 [(3, .int (T_140 s v2)), (2, .int v2), (1, .int v1), (0, .ref 2)] [] (N, hm_sh L g, s) _ Q
          refine hm_st hR (hm_st hR (?_))
          refine hm_st hR ⟨hm_le rfl, rfl, (hm_le rfl), (hm_ltN hN rfl), hm_le rfl, hm_le rfl, (0, 0), Nat.zero_le _, Nat.zero_le _, ?_⟩
          refine sp_40 hR hN ?_
          show R 59 45 [(3, .int (T_140 s v2)), (2, .int v2), (1, .int v1), (0, .ref 2)] [.int (T_40 s (T_140 s v2))] (N, hm_sh L g, s) _ Q
          refine hm_st hR (?_)
          show R 59 46 [(3, .int (T_140 s v2)), (2, .int v2), (1, .int v1), (0, .ref 2)] [.int v2, .int (T_40 s (T_140 s v2))] (N, hm_sh L g, s) _ Q
          refine hm_st hR ⟨fun c46 => ?_, fun c46 => ?_⟩
          · rw [if_pos c46] at hq
            show R 59 51 [(3, .int (T_140 s v2)), (2, .int v2), (1, .int v1), (0, .ref 2)] [] (N, hm_sh L g, s) _ Q
            refine hm_st hR (hm_st hR (hm_st hR (?_)))
            show R 59 54 [(3, .int (T_140 s v2)), (2, .int v2), (1, .int v1), (0, .ref 2)] [.int (-1), .int (T_140 s v2), .int v1] (N, hm_sh L g, s) _ Q
            suffices G : R 59 62 [(3, .int (T_140 s v2)), (2, .int v2), (1, .int v1), (0, .ref 2)] [.int (if (T_140 s v2) = (-1) then 0 else 1), .int v1] (N, hm_sh L g, s) ((((b.1 - 0, b.2 - 0).1 - 0, (b.1 - 0, b.2 - 0).2 - 0).1 - 0, ((b.1 - 0, b.2 - 0).1 - 0, (b.1 - 0, b.2 - 0).2 - 0).2 - 0).1 - 0, (((b.1 - 0, b.2 - 0).1 - 0, (b.1 - 0, b.2 - 0).2 - 0).1 - 0, ((b.1 - 0, b.2 - 0).1 - 0, (b.1 - 0, b.2 - 0).2 - 0).2 - 0).2 - 0) Q by
              show R 59 54 [(3, .int (T_140 s v2)), (2, .int v2), (1, .int v1), (0, .ref 2)] [.int (-1), .int (T_140 s v2), .int v1] (N, hm_sh L g, s) _ Q
              refine hm_st hR ⟨fun c => ?_, fun c => ?_⟩
              · rw [if_neg c] at G; exact hm_st hR (G)
              · rw [if_pos c] at G; exact hm_st hR (hm_st hR (G))
            refine hm_st hR (hm_st hR (hm_st hR (hm_st hR (?_))))
            show R 59 4 [(2, .int (v2 + 1)), (1, .int (v1 + (if (T_140 s v2) = (-1) then 0 else 1))), (3, .int (T_140 s v2)), (0, .ref 2)] [] (N, hm_sh L g, s) _ Q
            exact hm_lvS hR (by intro q hq; simp only [List.mem_cons, List.not_mem_nil, or_false] at hq ⊢; rcases hq with rfl | rfl | rfl <;> simp) (ih s (v1 + (if (T_140 s v2) = (-1) then 0 else 1)) (v2 + 1) (hm_dcx c12 hm) hq)
          · rw [if_neg c46] at hq
            show R 59 49 [(3, .int (T_140 s v2)), (2, .int v2), (1, .int v1), (0, .ref 2)] [] (N, hm_sh L g, s) _ Q
            refine hm_st hR (?_)
            exact hm_st hR ⟨fun _ => Or.inl rfl, hq⟩
set_option maxRecDepth 20000 in
theorem sp_59 {R : hm_R} (hR : hm_Cm R) {N L : Nat} {g : Nat → hm_Sh} {s : hm_St} {b : hm_B} {Q : hm_Q} (hN : 68 ≤ N) (hq : Q (.inr (some (.int (T_59 s)))) (N, hm_sh L g, s)) : R 59 0 (lv_args 0 [.ref 2]) [] (N, hm_sh L g, s) b Q := by
  unfold T_59 at hq
  show R 59 0 [(0, .ref 2)] [] (N, hm_sh L g, s) _ Q
  refine hm_st hR (hm_st hR (hm_st hR (hm_st hR (?_))))
  show R 59 4 [(2, .int 0), (1, .int 0), (0, .ref 2)] [] (N, hm_sh L g, s) _ Q
  exact lp_59_4 hR hN _ _ _ _ (Nat.lt_succ_self _) hq
/-- CurvekeyHouse$Curves.order()I -/
def T_85 (s : hm_St) : Int32 := (s 3 5)
set_option maxRecDepth 20000 in
theorem sp_85 {R : hm_R} (hR : hm_Cm R) {N L : Nat} {g : Nat → hm_Sh} {s : hm_St} {b : hm_B} {Q : hm_Q} (hN : 68 ≤ N) (hq : Q (.inr (some (.int (T_85 s)))) (N, hm_sh L g, s)) : R 85 0 (lv_args 0 [.ref 3]) [] (N, hm_sh L g, s) b Q := by
  unfold T_85 at hq
  show R 85 0 [(0, .ref 3)] [] (N, hm_sh L g, s) _ Q
  refine hm_st hR (hm_st hR ⟨rfl, hm_le rfl, (hm_ltN hN rfl), ?_⟩)
  exact hm_st hR ⟨fun z => absurd z (by decide), hq⟩
/-- CurvekeyHouse$Pages.capacity()I -/
def T_134 (s : hm_St) : Int32 := (s 42 3)
set_option maxRecDepth 20000 in
theorem sp_134 {R : hm_R} (hR : hm_Cm R) {N L : Nat} {g : Nat → hm_Sh} {s : hm_St} {b : hm_B} {Q : hm_Q} (hN : 68 ≤ N) (hq : Q (.inr (some (.int (T_134 s)))) (N, hm_sh L g, s)) : R 134 0 (lv_args 0 [.ref 42]) [] (N, hm_sh L g, s) b Q := by
  unfold T_134 at hq
  show R 134 0 [(0, .ref 42)] [] (N, hm_sh L g, s) _ Q
  refine hm_st hR (hm_st hR ⟨rfl, hm_le rfl, (hm_ltN hN rfl), ?_⟩)
  exact hm_st hR ⟨fun z => absurd z (by decide), hq⟩
/-- CurvekeyHouse$Points.size()I -/
def T_157 (s : hm_St) : Int32 := (s 14 5)
set_option maxRecDepth 20000 in
theorem sp_157 {R : hm_R} (hR : hm_Cm R) {N L : Nat} {g : Nat → hm_Sh} {s : hm_St} {b : hm_B} {Q : hm_Q} (hN : 68 ≤ N) (hq : Q (.inr (some (.int (T_157 s)))) (N, hm_sh L g, s)) : R 157 0 (lv_args 0 [.ref 14]) [] (N, hm_sh L g, s) b Q := by
  unfold T_157 at hq
  show R 157 0 [(0, .ref 14)] [] (N, hm_sh L g, s) _ Q
  refine hm_st hR (hm_st hR ⟨rfl, hm_le rfl, (hm_ltN hN rfl), ?_⟩)
  exact hm_st hR ⟨fun z => absurd z (by decide), hq⟩
/-- CurvekeyHouse$Pages.size()I -/
def T_133 (s : hm_St) : Int32 := (s 42 4)
set_option maxRecDepth 20000 in
theorem sp_133 {R : hm_R} (hR : hm_Cm R) {N L : Nat} {g : Nat → hm_Sh} {s : hm_St} {b : hm_B} {Q : hm_Q} (hN : 68 ≤ N) (hq : Q (.inr (some (.int (T_133 s)))) (N, hm_sh L g, s)) : R 133 0 (lv_args 0 [.ref 42]) [] (N, hm_sh L g, s) b Q := by
  unfold T_133 at hq
  show R 133 0 [(0, .ref 42)] [] (N, hm_sh L g, s) _ Q
  refine hm_st hR (hm_st hR ⟨rfl, hm_le rfl, (hm_ltN hN rfl), ?_⟩)
  exact hm_st hR ⟨fun z => absurd z (by decide), hq⟩
/-- CurvekeyHouse$Pages.tombs()I -/
def T_135 (s : hm_St) : Int32 := (s 42 5)
set_option maxRecDepth 20000 in
theorem sp_135 {R : hm_R} (hR : hm_Cm R) {N L : Nat} {g : Nat → hm_Sh} {s : hm_St} {b : hm_B} {Q : hm_Q} (hN : 68 ≤ N) (hq : Q (.inr (some (.int (T_135 s)))) (N, hm_sh L g, s)) : R 135 0 (lv_args 0 [.ref 42]) [] (N, hm_sh L g, s) b Q := by
  unfold T_135 at hq
  show R 135 0 [(0, .ref 42)] [] (N, hm_sh L g, s) _ Q
  refine hm_st hR (hm_st hR ⟨rfl, hm_le rfl, (hm_ltN hN rfl), ?_⟩)
  exact hm_st hR ⟨fun z => absurd z (by decide), hq⟩
/-- CurvekeyHouse.storeFact(I)I -/
def T_55 (s : hm_St) (p1 : Int32) : Int32 := (if p1 = 0 then (T_85 s) else (if p1 = 1 then (s 2 8) else (if p1 = 2 then (T_134 s) else (if p1 = 3 then (T_157 s) else (if p1 = 4 then (T_158 s) else (if p1 = 5 then (T_133 s) else (if p1 = 6 then (T_135 s) else (T_113 s))))))))
set_option maxRecDepth 20000 in
theorem sp_55 {R : hm_R} (hR : hm_Cm R) {N L : Nat} {g : Nat → hm_Sh} {s : hm_St} {b : hm_B} {Q : hm_Q} (hN : 68 ≤ N) {p1 : Int32} (hq : Q (.inr (some (.int (T_55 s p1)))) (N, hm_sh L g, s)) : R 55 0 (lv_args 0 [.ref 2, .int p1]) [] (N, hm_sh L g, s) b Q := by
  unfold T_55 at hq
  show R 55 0 [(0, .ref 2), (1, .int p1)] [] (N, hm_sh L g, s) _ Q
  refine hm_st hR (?_)
  show R 55 1 [(0, .ref 2), (1, .int p1)] [.int p1] (N, hm_sh L g, s) _ Q
  by_cases w1_0 : p1 = 0
  · rw [if_pos w1_0] at hq
    refine hm_tsS hR 44 (by rfl) (by rw [w1_0]; rfl) ?_
    show R 55 44 [(0, .ref 2), (1, .int p1)] [] (N, hm_sh L g, s) _ Q
    refine hm_st hR (hm_st hR ⟨rfl, hm_le rfl, (hm_ltN hN rfl), ?_⟩)
    refine hm_st hR ⟨hm_le rfl, rfl, (hm_le rfl), (hm_ltN hN rfl), hm_le rfl, hm_le rfl, (0, 0), Nat.zero_le _, Nat.zero_le _, ?_⟩
    refine sp_85 hR hN ?_
    show R 55 51 [(0, .ref 2), (1, .int p1)] [.int (T_85 s)] (N, hm_sh L g, s) _ Q
    exact hm_st hR ⟨fun z => absurd z (by decide), hq⟩
  rw [if_neg w1_0] at hq
  by_cases w1_1 : p1 = 1
  · rw [if_pos w1_1] at hq
    refine hm_tsS hR 52 (by rfl) (by rw [w1_1]; rfl) ?_
    show R 55 52 [(0, .ref 2), (1, .int p1)] [] (N, hm_sh L g, s) _ Q
    refine hm_st hR (hm_st hR ⟨rfl, hm_le rfl, (hm_ltN hN rfl), ?_⟩)
    exact hm_st hR ⟨fun z => absurd z (by decide), hq⟩
  rw [if_neg w1_1] at hq
  by_cases w1_2 : p1 = 2
  · rw [if_pos w1_2] at hq
    refine hm_tsS hR 57 (by rfl) (by rw [w1_2]; rfl) ?_
    show R 55 57 [(0, .ref 2), (1, .int p1)] [] (N, hm_sh L g, s) _ Q
    refine hm_st hR (hm_st hR ⟨rfl, hm_le rfl, (hm_ltN hN rfl), ?_⟩)
    refine hm_st hR ⟨hm_le rfl, rfl, (hm_le rfl), (hm_ltN hN rfl), hm_le rfl, hm_le rfl, (0, 0), Nat.zero_le _, Nat.zero_le _, ?_⟩
    refine sp_134 hR hN ?_
    show R 55 64 [(0, .ref 2), (1, .int p1)] [.int (T_134 s)] (N, hm_sh L g, s) _ Q
    exact hm_st hR ⟨fun z => absurd z (by decide), hq⟩
  rw [if_neg w1_2] at hq
  by_cases w1_3 : p1 = 3
  · rw [if_pos w1_3] at hq
    refine hm_tsS hR 65 (by rfl) (by rw [w1_3]; rfl) ?_
    show R 55 65 [(0, .ref 2), (1, .int p1)] [] (N, hm_sh L g, s) _ Q
    refine hm_st hR (hm_st hR ⟨rfl, hm_le rfl, (hm_ltN hN rfl), ?_⟩)
    refine hm_st hR ⟨hm_le rfl, rfl, (hm_le rfl), (hm_ltN hN rfl), hm_le rfl, hm_le rfl, (0, 0), Nat.zero_le _, Nat.zero_le _, ?_⟩
    refine sp_157 hR hN ?_
    show R 55 72 [(0, .ref 2), (1, .int p1)] [.int (T_157 s)] (N, hm_sh L g, s) _ Q
    exact hm_st hR ⟨fun z => absurd z (by decide), hq⟩
  rw [if_neg w1_3] at hq
  by_cases w1_4 : p1 = 4
  · rw [if_pos w1_4] at hq
    refine hm_tsS hR 73 (by rfl) (by rw [w1_4]; rfl) ?_
    show R 55 73 [(0, .ref 2), (1, .int p1)] [] (N, hm_sh L g, s) _ Q
    refine hm_st hR (hm_st hR ⟨rfl, hm_le rfl, (hm_ltN hN rfl), ?_⟩)
    refine hm_st hR ⟨hm_le rfl, rfl, (hm_le rfl), (hm_ltN hN rfl), hm_le rfl, hm_le rfl, (0, 0), Nat.zero_le _, Nat.zero_le _, ?_⟩
    refine sp_158 hR hN ?_
    show R 55 80 [(0, .ref 2), (1, .int p1)] [.int (T_158 s)] (N, hm_sh L g, s) _ Q
    exact hm_st hR ⟨fun z => absurd z (by decide), hq⟩
  rw [if_neg w1_4] at hq
  by_cases w1_5 : p1 = 5
  · rw [if_pos w1_5] at hq
    refine hm_tsS hR 81 (by rfl) (by rw [w1_5]; rfl) ?_
    show R 55 81 [(0, .ref 2), (1, .int p1)] [] (N, hm_sh L g, s) _ Q
    refine hm_st hR (hm_st hR ⟨rfl, hm_le rfl, (hm_ltN hN rfl), ?_⟩)
    refine hm_st hR ⟨hm_le rfl, rfl, (hm_le rfl), (hm_ltN hN rfl), hm_le rfl, hm_le rfl, (0, 0), Nat.zero_le _, Nat.zero_le _, ?_⟩
    refine sp_133 hR hN ?_
    show R 55 88 [(0, .ref 2), (1, .int p1)] [.int (T_133 s)] (N, hm_sh L g, s) _ Q
    exact hm_st hR ⟨fun z => absurd z (by decide), hq⟩
  rw [if_neg w1_5] at hq
  by_cases w1_6 : p1 = 6
  · rw [if_pos w1_6] at hq
    refine hm_tsS hR 89 (by rfl) (by rw [w1_6]; rfl) ?_
    show R 55 89 [(0, .ref 2), (1, .int p1)] [] (N, hm_sh L g, s) _ Q
    refine hm_st hR (hm_st hR ⟨rfl, hm_le rfl, (hm_ltN hN rfl), ?_⟩)
    refine hm_st hR ⟨hm_le rfl, rfl, (hm_le rfl), (hm_ltN hN rfl), hm_le rfl, hm_le rfl, (0, 0), Nat.zero_le _, Nat.zero_le _, ?_⟩
    refine sp_135 hR hN ?_
    show R 55 96 [(0, .ref 2), (1, .int p1)] [.int (T_135 s)] (N, hm_sh L g, s) _ Q
    exact hm_st hR ⟨fun z => absurd z (by decide), hq⟩
  rw [if_neg w1_6] at hq
  refine hm_tsS hR 97 (by rfl) (by exact hm_swD7 w1_0 w1_1 w1_2 w1_3 w1_4 w1_5 w1_6) ?_
  show R 55 97 [(0, .ref 2), (1, .int p1)] [] (N, hm_sh L g, s) _ Q
  refine hm_st hR (hm_st hR ⟨rfl, hm_le rfl, (hm_ltN hN rfl), ?_⟩)
  refine hm_st hR ⟨hm_le rfl, rfl, (hm_le rfl), (hm_ltN hN rfl), hm_le rfl, hm_le rfl, (0, 0), Nat.zero_le _, Nat.zero_le _, ?_⟩
  refine sp_113 hR hN ?_
  show R 55 104 [(0, .ref 2), (1, .int p1)] [.int (T_113 s)] (N, hm_sh L g, s) _ Q
  exact hm_st hR ⟨fun z => absurd z (by decide), hq⟩
/-- CurvekeyHouse$History.size()I -/
def T_112 (s : hm_St) : Int32 := (s 25 8)
set_option maxRecDepth 20000 in
theorem sp_112 {R : hm_R} (hR : hm_Cm R) {N L : Nat} {g : Nat → hm_Sh} {s : hm_St} {b : hm_B} {Q : hm_Q} (hN : 68 ≤ N) (hq : Q (.inr (some (.int (T_112 s)))) (N, hm_sh L g, s)) : R 112 0 (lv_args 0 [.ref 25]) [] (N, hm_sh L g, s) b Q := by
  unfold T_112 at hq
  show R 112 0 [(0, .ref 25)] [] (N, hm_sh L g, s) _ Q
  refine hm_st hR (hm_st hR ⟨rfl, hm_le rfl, (hm_ltN hN rfl), ?_⟩)
  exact hm_st hR ⟨fun z => absurd z (by decide), hq⟩
/-- CurvekeyHouse$Tiles.size()I -/
def T_186 (s : hm_St) : Int32 := (s 50 4)
set_option maxRecDepth 20000 in
theorem sp_186 {R : hm_R} (hR : hm_Cm R) {N L : Nat} {g : Nat → hm_Sh} {s : hm_St} {b : hm_B} {Q : hm_Q} (hN : 68 ≤ N) (hq : Q (.inr (some (.int (T_186 s)))) (N, hm_sh L g, s)) : R 186 0 (lv_args 0 [.ref 50]) [] (N, hm_sh L g, s) b Q := by
  unfold T_186 at hq
  show R 186 0 [(0, .ref 50)] [] (N, hm_sh L g, s) _ Q
  refine hm_st hR (hm_st hR ⟨rfl, hm_le rfl, (hm_ltN hN rfl), ?_⟩)
  exact hm_st hR ⟨fun z => absurd z (by decide), hq⟩
def T_190_4 : Nat → hm_St → Int32 → Int32 → Int32
  | 0, s, _, _ => 0
  | n + 1, s, v1, v2 => (if (s 50 4) ≤ v2 then v1 else (T_190_4 n s (v1 + (T_178 s 58 20 v2)) (v2 + 1)))
/-- CurvekeyHouse$Tiles.staleOnes()I -/
def T_190 (s : hm_St) : Int32 := (T_190_4 (hm_df (s 50 4) 0 + 1) s 0 0)
set_option maxRecDepth 20000 in
theorem lp_190_4 {R : hm_R} (hR : hm_Cm R) {N L : Nat} {g : Nat → hm_Sh} {b : hm_B} {Q : hm_Q} (hN : 68 ≤ N) : ∀ (n : Nat) (s : hm_St) (v1 : Int32) (v2 : Int32), hm_df (s 50 4) v2 < n → (hq : Q (.inr (some (.int (T_190_4 n s v1 v2)))) (N, hm_sh L g, s)) → R 190 4 [(2, .int v2), (1, .int v1), (0, .ref 50)] [] (N, hm_sh L g, s) b Q := by
  intro n
  induction n with
  | zero => intro s v1 v2 hm _; exact absurd hm (Nat.not_lt_zero _)
  | succ n ih =>
    intro s v1 v2 hm hq
    unfold T_190_4 at hq
    refine hm_st hR (hm_st hR (hm_st hR ⟨rfl, hm_le rfl, (hm_ltN hN rfl), ?_⟩))
    show R 190 9 [(2, .int v2), (1, .int v1), (0, .ref 50)] [.int (s 50 4), .int v2] (N, hm_sh L g, s) _ Q
    refine hm_st hR ⟨fun c9 => ?_, fun c9 => ?_⟩
    · rw [if_pos c9] at hq
      show R 190 29 [(2, .int v2), (1, .int v1), (0, .ref 50)] [] (N, hm_sh L g, s) _ Q
      refine hm_st hR (?_)
      exact hm_st hR ⟨fun z => absurd z (by decide), hq⟩
    · rw [if_neg c9] at hq
      show R 190 12 [(2, .int v2), (1, .int v1), (0, .ref 50)] [] (N, hm_sh L g, s) _ Q
      refine hm_st hR (hm_st hR (hm_st hR ⟨rfl, hm_le rfl, (hm_ltN hN rfl), hm_st hR (?_)⟩))
      refine hm_st hR ⟨hm_le rfl, rfl, (hm_le rfl), (hm_ltN hN rfl), hm_le rfl, hm_le rfl, (0, 0), Nat.zero_le _, Nat.zero_le _, ?_⟩
      refine sp_178 hR hN (rr := 57) (aa := 58) (nn := 20) rfl rfl (hm_le rfl) (hm_ltN hN rfl) rfl rfl (hm_le rfl) (hm_ltN hN rfl) (by decide) ?_
      show R 190 21 [(2, .int v2), (1, .int v1), (0, .ref 50)] [.int (T_178 s 58 20 v2), .int v1] (N, hm_sh L g, s) _ Q
      refine hm_st hR (hm_st hR (hm_st hR (hm_st hR (?_))))
      show R 190 4 [(2, .int (v2 + 1)), (1, .int (v1 + (T_178 s 58 20 v2))), (0, .ref 50)] [] (N, hm_sh L g, s) _ Q
      exact hm_lvS hR (by intro q hq; simp only [List.mem_cons, List.not_mem_nil, or_false] at hq ⊢; rcases hq with rfl | rfl | rfl <;> simp) (ih s (v1 + (T_178 s 58 20 v2)) (v2 + 1) (hm_dcx c9 hm) hq)
set_option maxRecDepth 20000 in
theorem sp_190 {R : hm_R} (hR : hm_Cm R) {N L : Nat} {g : Nat → hm_Sh} {s : hm_St} {b : hm_B} {Q : hm_Q} (hN : 68 ≤ N) (hq : Q (.inr (some (.int (T_190 s)))) (N, hm_sh L g, s)) : R 190 0 (lv_args 0 [.ref 50]) [] (N, hm_sh L g, s) b Q := by
  unfold T_190 at hq
  show R 190 0 [(0, .ref 50)] [] (N, hm_sh L g, s) _ Q
  refine hm_st hR (hm_st hR (hm_st hR (hm_st hR (?_))))
  show R 190 4 [(2, .int 0), (1, .int 0), (0, .ref 50)] [] (N, hm_sh L g, s) _ Q
  exact lp_190_4 hR hN _ _ _ _ (Nat.lt_succ_self _) hq
/-- CurvekeyHouse$Pages.splits()I -/
def T_136 (s : hm_St) : Int32 := (s 42 6)
set_option maxRecDepth 20000 in
theorem sp_136 {R : hm_R} (hR : hm_Cm R) {N L : Nat} {g : Nat → hm_Sh} {s : hm_St} {b : hm_B} {Q : hm_Q} (hN : 68 ≤ N) (hq : Q (.inr (some (.int (T_136 s)))) (N, hm_sh L g, s)) : R 136 0 (lv_args 0 [.ref 42]) [] (N, hm_sh L g, s) b Q := by
  unfold T_136 at hq
  show R 136 0 [(0, .ref 42)] [] (N, hm_sh L g, s) _ Q
  refine hm_st hR (hm_st hR ⟨rfl, hm_le rfl, (hm_ltN hN rfl), ?_⟩)
  exact hm_st hR ⟨fun z => absurd z (by decide), hq⟩
/-- CurvekeyHouse.countFact(I)I -/
def T_56 (s : hm_St) (p1 : Int32) : Int32 := (if p1 = 8 then (T_112 s) else (if p1 = 9 then (s 2 11) else (if p1 = 10 then (s 2 10) else (if p1 = 11 then (s 2 9) else (if p1 = 12 then (T_186 s) else (if p1 = 13 then (T_190 s) else (if p1 = 14 then (s 2 12) else (T_136 s))))))))
set_option maxRecDepth 20000 in
theorem sp_56 {R : hm_R} (hR : hm_Cm R) {N L : Nat} {g : Nat → hm_Sh} {s : hm_St} {b : hm_B} {Q : hm_Q} (hN : 68 ≤ N) {p1 : Int32} (hq : Q (.inr (some (.int (T_56 s p1)))) (N, hm_sh L g, s)) : R 56 0 (lv_args 0 [.ref 2, .int p1]) [] (N, hm_sh L g, s) b Q := by
  unfold T_56 at hq
  show R 56 0 [(0, .ref 2), (1, .int p1)] [] (N, hm_sh L g, s) _ Q
  refine hm_st hR (?_)
  show R 56 1 [(0, .ref 2), (1, .int p1)] [.int p1] (N, hm_sh L g, s) _ Q
  by_cases w1_8 : p1 = 8
  · rw [if_pos w1_8] at hq
    refine hm_tsS hR 44 (by rfl) (by rw [w1_8]; rfl) ?_
    show R 56 44 [(0, .ref 2), (1, .int p1)] [] (N, hm_sh L g, s) _ Q
    refine hm_st hR (hm_st hR ⟨rfl, hm_le rfl, (hm_ltN hN rfl), ?_⟩)
    refine hm_st hR ⟨hm_le rfl, rfl, (hm_le rfl), (hm_ltN hN rfl), hm_le rfl, hm_le rfl, (0, 0), Nat.zero_le _, Nat.zero_le _, ?_⟩
    refine sp_112 hR hN ?_
    show R 56 51 [(0, .ref 2), (1, .int p1)] [.int (T_112 s)] (N, hm_sh L g, s) _ Q
    exact hm_st hR ⟨fun z => absurd z (by decide), hq⟩
  rw [if_neg w1_8] at hq
  by_cases w1_9 : p1 = 9
  · rw [if_pos w1_9] at hq
    refine hm_tsS hR 52 (by rfl) (by rw [w1_9]; rfl) ?_
    show R 56 52 [(0, .ref 2), (1, .int p1)] [] (N, hm_sh L g, s) _ Q
    refine hm_st hR (hm_st hR ⟨rfl, hm_le rfl, (hm_ltN hN rfl), ?_⟩)
    exact hm_st hR ⟨fun z => absurd z (by decide), hq⟩
  rw [if_neg w1_9] at hq
  by_cases w1_10 : p1 = 10
  · rw [if_pos w1_10] at hq
    refine hm_tsS hR 57 (by rfl) (by rw [w1_10]; rfl) ?_
    show R 56 57 [(0, .ref 2), (1, .int p1)] [] (N, hm_sh L g, s) _ Q
    refine hm_st hR (hm_st hR ⟨rfl, hm_le rfl, (hm_ltN hN rfl), ?_⟩)
    exact hm_st hR ⟨fun z => absurd z (by decide), hq⟩
  rw [if_neg w1_10] at hq
  by_cases w1_11 : p1 = 11
  · rw [if_pos w1_11] at hq
    refine hm_tsS hR 62 (by rfl) (by rw [w1_11]; rfl) ?_
    show R 56 62 [(0, .ref 2), (1, .int p1)] [] (N, hm_sh L g, s) _ Q
    refine hm_st hR (hm_st hR ⟨rfl, hm_le rfl, (hm_ltN hN rfl), ?_⟩)
    exact hm_st hR ⟨fun z => absurd z (by decide), hq⟩
  rw [if_neg w1_11] at hq
  by_cases w1_12 : p1 = 12
  · rw [if_pos w1_12] at hq
    refine hm_tsS hR 67 (by rfl) (by rw [w1_12]; rfl) ?_
    show R 56 67 [(0, .ref 2), (1, .int p1)] [] (N, hm_sh L g, s) _ Q
    refine hm_st hR (hm_st hR ⟨rfl, hm_le rfl, (hm_ltN hN rfl), ?_⟩)
    refine hm_st hR ⟨hm_le rfl, rfl, (hm_le rfl), (hm_ltN hN rfl), hm_le rfl, hm_le rfl, (0, 0), Nat.zero_le _, Nat.zero_le _, ?_⟩
    refine sp_186 hR hN ?_
    show R 56 74 [(0, .ref 2), (1, .int p1)] [.int (T_186 s)] (N, hm_sh L g, s) _ Q
    exact hm_st hR ⟨fun z => absurd z (by decide), hq⟩
  rw [if_neg w1_12] at hq
  by_cases w1_13 : p1 = 13
  · rw [if_pos w1_13] at hq
    refine hm_tsS hR 75 (by rfl) (by rw [w1_13]; rfl) ?_
    show R 56 75 [(0, .ref 2), (1, .int p1)] [] (N, hm_sh L g, s) _ Q
    refine hm_st hR (hm_st hR ⟨rfl, hm_le rfl, (hm_ltN hN rfl), ?_⟩)
    refine hm_st hR ⟨hm_le rfl, rfl, (hm_le rfl), (hm_ltN hN rfl), hm_le rfl, hm_le rfl, (0, 0), Nat.zero_le _, Nat.zero_le _, ?_⟩
    refine sp_190 hR hN ?_
    show R 56 82 [(0, .ref 2), (1, .int p1)] [.int (T_190 s)] (N, hm_sh L g, s) _ Q
    exact hm_st hR ⟨fun z => absurd z (by decide), hq⟩
  rw [if_neg w1_13] at hq
  by_cases w1_14 : p1 = 14
  · rw [if_pos w1_14] at hq
    refine hm_tsS hR 83 (by rfl) (by rw [w1_14]; rfl) ?_
    show R 56 83 [(0, .ref 2), (1, .int p1)] [] (N, hm_sh L g, s) _ Q
    refine hm_st hR (hm_st hR ⟨rfl, hm_le rfl, (hm_ltN hN rfl), ?_⟩)
    exact hm_st hR ⟨fun z => absurd z (by decide), hq⟩
  rw [if_neg w1_14] at hq
  refine hm_tsS hR 88 (by rfl) (by exact hm_swD7_8 w1_8 w1_9 w1_10 w1_11 w1_12 w1_13 w1_14) ?_
  show R 56 88 [(0, .ref 2), (1, .int p1)] [] (N, hm_sh L g, s) _ Q
  refine hm_st hR (hm_st hR ⟨rfl, hm_le rfl, (hm_ltN hN rfl), ?_⟩)
  refine hm_st hR ⟨hm_le rfl, rfl, (hm_le rfl), (hm_ltN hN rfl), hm_le rfl, hm_le rfl, (0, 0), Nat.zero_le _, Nat.zero_le _, ?_⟩
  refine sp_136 hR hN ?_
  show R 56 95 [(0, .ref 2), (1, .int p1)] [.int (T_136 s)] (N, hm_sh L g, s) _ Q
  exact hm_st hR ⟨fun z => absurd z (by decide), hq⟩
/-- CurvekeyHouse.mix(JJ)J -/
def T_60 (s : hm_St) (p1 : Int64) (p2 : Int64) : Int64 := ((p1 * 31) + p2)
set_option maxRecDepth 20000 in
theorem sp_60 {R : hm_R} (hR : hm_Cm R) {N L : Nat} {g : Nat → hm_Sh} {s : hm_St} {b : hm_B} {Q : hm_Q} (hN : 68 ≤ N) {p1 : Int64} {p2 : Int64} (hq : Q (.inr (some (.long (T_60 s p1 p2)))) (N, hm_sh L g, s)) : R 60 0 (lv_args 0 [.long p1, .long p2]) [] (N, hm_sh L g, s) b Q := by
  unfold T_60 at hq
  show R 60 0 [(0, .long p1), (2, .long p2)] [] (N, hm_sh L g, s) _ Q
  refine hm_st hR (hm_st hR (hm_st hR (hm_st hR (hm_st hR (?_)))))
  exact hm_st hR hq
/-- CurvekeyHouse$Curves.factOf(II)I -/
def T_91 (s : hm_St) (p1 : Int32) (p2 : Int32) : Int32 := (T_178 s 13 24 ((p1 * 4) + p2))
set_option maxRecDepth 20000 in
theorem sp_91 {R : hm_R} (hR : hm_Cm R) {N L : Nat} {g : Nat → hm_Sh} {s : hm_St} {b : hm_B} {Q : hm_Q} (hN : 68 ≤ N) {p1 : Int32} {p2 : Int32} (hq : Q (.inr (some (.int (T_91 s p1 p2)))) (N, hm_sh L g, s)) : R 91 0 (lv_args 0 [.ref 3, .int p1, .int p2]) [] (N, hm_sh L g, s) b Q := by
  unfold T_91 at hq
  show R 91 0 [(0, .ref 3), (1, .int p1), (2, .int p2)] [] (N, hm_sh L g, s) _ Q
  refine hm_st hR (hm_st hR ⟨rfl, hm_le rfl, (hm_ltN hN rfl), hm_st hR (hm_st hR (hm_st hR (hm_st hR (hm_st hR (?_)))))⟩)
  refine hm_st hR ⟨hm_le rfl, rfl, (hm_le rfl), (hm_ltN hN rfl), hm_le rfl, hm_le rfl, (0, 0), Nat.zero_le _, Nat.zero_le _, ?_⟩
  refine sp_178 hR hN (rr := 12) (aa := 13) (nn := 24) rfl rfl (hm_le rfl) (hm_ltN hN rfl) rfl rfl (hm_le rfl) (hm_ltN hN rfl) (by decide) ?_
  show R 91 12 [(0, .ref 3), (1, .int p1), (2, .int p2)] [.int (T_178 s 13 24 ((p1 * 4) + p2))] (N, hm_sh L g, s) _ Q
  exact hm_st hR ⟨fun z => absurd z (by decide), hq⟩
def T_61_60 (O : hm_St → Int64 → Int64 → Int32 → Int64) : Nat → hm_St → Int64 → Int64 → Int32 → Int32 → Int64
  | 0, s, _, _, _, _ => 0
  | n + 1, s, v1, v3, v5, v6 => (if 4 ≤ v6 then (O s v1 v3 (v5 + 1)) else (T_61_60 O n s v1 (T_60 s v3 (((T_91 s v5 v6)).toInt64)) v5 (v6 + 1)))
def T_61_50 : Nat → hm_St → Int64 → Int64 → Int32 → Int64
  | 0, s, _, _, _ => 0
  | n + 1, s, v1, v3, v5 => (if 6 ≤ v5 then v3 else (T_61_60 (fun s v1 v3 v5 => T_61_50 n s v1 v3 v5) (hm_df 4 0 + 1) s v1 v3 v5 0))
def T_61_5 : Nat → hm_St → Int64 → Int64 → Int32 → Int64
  | 0, s, _, _, _ => 0
  | n + 1, s, v1, v3, v5 => (if 16 ≤ v5 then (T_61_50 (hm_df 6 0 + 1) s v1 v3 0) else (if 8 ≤ v5 then (T_61_5 n s v1 (T_60 s v3 (((T_56 s v5)).toInt64)) (v5 + 1)) else (T_61_5 n s v1 (T_60 s v3 (((T_55 s v5)).toInt64)) (v5 + 1))))
/-- CurvekeyHouse.mixStore(J)J -/
def T_61 (s : hm_St) (p1 : Int64) : Int64 := (T_61_5 (hm_df 16 0 + 1) s p1 p1 0)
set_option maxRecDepth 20000 in
theorem lp_61_60 {R : hm_R} (hR : hm_Cm R) {N L : Nat} {g : Nat → hm_Sh} {b : hm_B} {Q : hm_Q} (hN : 68 ≤ N) {O : hm_St → Int64 → Int64 → Int32 → Int64} {nO : Nat} (hO : ∀ (s : hm_St) (v1 : Int64) (v3 : Int64) (v5 : Int32), hm_df 6 v5 < nO → (Q (.inr (some (.long (O s v1 v3 v5)))) (N, hm_sh L g, s)) → R 61 50 [(5, .int v5), (3, .long v3), (0, .ref 2), (1, .long v1)] [] (N, hm_sh L g, s) b Q) : ∀ (n : Nat) (s : hm_St) (v1 : Int64) (v3 : Int64) (v5 : Int32) (v6 : Int32), hm_df 4 v6 < n → (hPO : hm_df 6 (v5 + 1) < nO) → (hq : Q (.inr (some (.long (T_61_60 O n s v1 v3 v5 v6)))) (N, hm_sh L g, s)) → R 61 60 [(6, .int v6), (5, .int v5), (3, .long v3), (0, .ref 2), (1, .long v1)] [] (N, hm_sh L g, s) b Q := by
  intro n
  induction n with
  | zero => intro s v1 v3 v5 v6 hm hPO _; exact absurd hm (Nat.not_lt_zero _)
  | succ n ih =>
    intro s v1 v3 v5 v6 hm hPO hq
    unfold T_61_60 at hq
    refine hm_st hR (hm_st hR (?_))
    show R 61 63 [(6, .int v6), (5, .int v5), (3, .long v3), (0, .ref 2), (1, .long v1)] [.int 4, .int v6] (N, hm_sh L g, s) _ Q
    refine hm_st hR ⟨fun c63 => ?_, fun c63 => ?_⟩
    · rw [if_pos c63] at hq
      show R 61 89 [(6, .int v6), (5, .int v5), (3, .long v3), (0, .ref 2), (1, .long v1)] [] (N, hm_sh L g, s) _ Q
      refine hm_st hR (hm_st hR (?_))
      show R 61 50 [(5, .int (v5 + 1)), (6, .int v6), (3, .long v3), (0, .ref 2), (1, .long v1)] [] (N, hm_sh L g, s) _ Q
      exact hm_lvS hR (by intro q hq; simp only [List.mem_cons, List.not_mem_nil, or_false] at hq ⊢; rcases hq with rfl | rfl | rfl | rfl <;> simp) (hO s v1 v3 (v5 + 1) hPO hq)
    · rw [if_neg c63] at hq
      show R 61 66 [(6, .int v6), (5, .int v5), (3, .long v3), (0, .ref 2), (1, .long v1)] [] (N, hm_sh L g, s) _ Q
      refine hm_st hR (hm_st hR (hm_st hR ⟨rfl, hm_le rfl, (hm_ltN hN rfl), hm_st hR (hm_st hR (?_))⟩))
      refine hm_st hR ⟨hm_le rfl, rfl, (hm_le rfl), (hm_ltN hN rfl), hm_le rfl, hm_le rfl, (0, 0), Nat.zero_le _, Nat.zero_le _, ?_⟩
      refine sp_91 hR hN ?_
      show R 61 78 [(6, .int v6), (5, .int v5), (3, .long v3), (0, .ref 2), (1, .long v1)] [.int (T_91 s v5 v6), .long v3] (N, hm_sh L g, s) _ Q
      refine hm_st hR (?_)
      refine hm_st hR ⟨hm_le rfl, hm_le rfl, hm_le rfl, (0, 0), Nat.zero_le _, Nat.zero_le _, ?_⟩
      refine sp_60 hR hN ?_
      show R 61 82 [(6, .int v6), (5, .int v5), (3, .long v3), (0, .ref 2), (1, .long v1)] [.long (T_60 s v3 (((T_91 s v5 v6)).toInt64))] (N, hm_sh L g, s) _ Q
      refine hm_st hR (hm_st hR (hm_st hR (?_)))
      show R 61 60 [(6, .int (v6 + 1)), (3, .long (T_60 s v3 (((T_91 s v5 v6)).toInt64))), (5, .int v5), (0, .ref 2), (1, .long v1)] [] (N, hm_sh L g, s) _ Q
      exact hm_lvS hR (by intro q hq; simp only [List.mem_cons, List.not_mem_nil, or_false] at hq ⊢; rcases hq with rfl | rfl | rfl | rfl | rfl <;> simp) (ih s v1 (T_60 s v3 (((T_91 s v5 v6)).toInt64)) v5 (v6 + 1) (hm_dcx c63 hm) hPO hq)
set_option maxRecDepth 20000 in
theorem lp_61_50 {R : hm_R} (hR : hm_Cm R) {N L : Nat} {g : Nat → hm_Sh} {b : hm_B} {Q : hm_Q} (hN : 68 ≤ N) : ∀ (n : Nat) (s : hm_St) (v1 : Int64) (v3 : Int64) (v5 : Int32), hm_df 6 v5 < n → (hq : Q (.inr (some (.long (T_61_50 n s v1 v3 v5)))) (N, hm_sh L g, s)) → R 61 50 [(5, .int v5), (3, .long v3), (0, .ref 2), (1, .long v1)] [] (N, hm_sh L g, s) b Q := by
  intro n
  induction n with
  | zero => intro s v1 v3 v5 hm _; exact absurd hm (Nat.not_lt_zero _)
  | succ n ih =>
    intro s v1 v3 v5 hm hq
    unfold T_61_50 at hq
    refine hm_st hR (hm_st hR (?_))
    show R 61 54 [(5, .int v5), (3, .long v3), (0, .ref 2), (1, .long v1)] [.int 6, .int v5] (N, hm_sh L g, s) _ Q
    refine hm_st hR ⟨fun c54 => ?_, fun c54 => ?_⟩
    · rw [if_pos c54] at hq
      show R 61 95 [(5, .int v5), (3, .long v3), (0, .ref 2), (1, .long v1)] [] (N, hm_sh L g, s) _ Q
      refine hm_st hR (?_)
      exact hm_st hR hq
    · rw [if_neg c54] at hq
      show R 61 57 [(5, .int v5), (3, .long v3), (0, .ref 2), (1, .long v1)] [] (N, hm_sh L g, s) _ Q
      refine hm_st hR (hm_st hR (?_))
      show R 61 60 [(6, .int 0), (5, .int v5), (3, .long v3), (0, .ref 2), (1, .long v1)] [] (N, hm_sh L g, s) _ Q
      exact lp_61_60 hR hN (O := (fun s v1 v3 v5 => T_61_50 n s v1 v3 v5)) (nO := n) (fun s v1 v3 v5 hm hq => ih s v1 v3 v5 hm hq) _ _ _ _ _ _ (Nat.lt_succ_self _) (hm_dcx c54 hm) hq
set_option maxRecDepth 20000 in
theorem lp_61_5 {R : hm_R} (hR : hm_Cm R) {N L : Nat} {g : Nat → hm_Sh} {b : hm_B} {Q : hm_Q} (hN : 68 ≤ N) : ∀ (n : Nat) (s : hm_St) (v1 : Int64) (v3 : Int64) (v5 : Int32), hm_df 16 v5 < n → (hq : Q (.inr (some (.long (T_61_5 n s v1 v3 v5)))) (N, hm_sh L g, s)) → R 61 5 [(5, .int v5), (3, .long v3), (0, .ref 2), (1, .long v1)] [] (N, hm_sh L g, s) b Q := by
  intro n
  induction n with
  | zero => intro s v1 v3 v5 hm _; exact absurd hm (Nat.not_lt_zero _)
  | succ n ih =>
    intro s v1 v3 v5 hm hq
    unfold T_61_5 at hq
    refine hm_st hR (hm_st hR (?_))
    show R 61 9 [(5, .int v5), (3, .long v3), (0, .ref 2), (1, .long v1)] [.int 16, .int v5] (N, hm_sh L g, s) _ Q
    refine hm_st hR ⟨fun c9 => ?_, fun c9 => ?_⟩
    · rw [if_pos c9] at hq
      show R 61 47 [(5, .int v5), (3, .long v3), (0, .ref 2), (1, .long v1)] [] (N, hm_sh L g, s) _ Q
      refine hm_st hR (hm_st hR (?_))
      show R 61 50 [(5, .int 0), (3, .long v3), (0, .ref 2), (1, .long v1)] [] (N, hm_sh L g, s) _ Q
      exact lp_61_50 hR hN _ _ _ _ _ (Nat.lt_succ_self _) hq
    · rw [if_neg c9] at hq
      show R 61 12 [(5, .int v5), (3, .long v3), (0, .ref 2), (1, .long v1)] [] (N, hm_sh L g, s) _ Q
      refine hm_st hR (hm_st hR (hm_st hR (?_)))
      show R 61 17 [(5, .int v5), (3, .long v3), (0, .ref 2), (1, .long v1)] [.int 8, .int v5, .long v3] (N, hm_sh L g, s) _ Q
      refine hm_st hR ⟨fun c17 => ?_, fun c17 => ?_⟩
      · rw [if_pos c17] at hq
        show R 61 30 [(5, .int v5), (3, .long v3), (0, .ref 2), (1, .long v1)] [.long v3] (N, hm_sh L g, s) _ Q
        refine hm_st hR (hm_st hR (?_))
        refine hm_st hR ⟨hm_le rfl, rfl, (hm_le rfl), (hm_ltN hN rfl), hm_le rfl, hm_le rfl, (0, 0), Nat.zero_le _, Nat.zero_le _, ?_⟩
        refine sp_56 hR hN ?_
        show R 61 36 [(5, .int v5), (3, .long v3), (0, .ref 2), (1, .long v1)] [.int (T_56 s v5), .long v3] (N, hm_sh L g, s) _ Q
        refine hm_st hR (?_)
        refine hm_st hR ⟨hm_le rfl, hm_le rfl, hm_le rfl, (0, 0), Nat.zero_le _, Nat.zero_le _, ?_⟩
        refine sp_60 hR hN ?_
        show R 61 40 [(5, .int v5), (3, .long v3), (0, .ref 2), (1, .long v1)] [.long (T_60 s v3 (((T_56 s v5)).toInt64))] (N, hm_sh L g, s) _ Q
        refine hm_st hR (hm_st hR (hm_st hR (?_)))
        show R 61 5 [(5, .int (v5 + 1)), (3, .long (T_60 s v3 (((T_56 s v5)).toInt64))), (0, .ref 2), (1, .long v1)] [] (N, hm_sh L g, s) _ Q
        exact hm_lvS hR (by intro q hq; simp only [List.mem_cons, List.not_mem_nil, or_false] at hq ⊢; rcases hq with rfl | rfl | rfl | rfl <;> simp) (ih s v1 (T_60 s v3 (((T_56 s v5)).toInt64)) (v5 + 1) (hm_dcx c9 hm) hq)
      · rw [if_neg c17] at hq
        show R 61 20 [(5, .int v5), (3, .long v3), (0, .ref 2), (1, .long v1)] [.long v3] (N, hm_sh L g, s) _ Q
        refine hm_st hR (hm_st hR (?_))
        refine hm_st hR ⟨hm_le rfl, rfl, (hm_le rfl), (hm_ltN hN rfl), hm_le rfl, hm_le rfl, (0, 0), Nat.zero_le _, Nat.zero_le _, ?_⟩
        refine sp_55 hR hN ?_
        show R 61 26 [(5, .int v5), (3, .long v3), (0, .ref 2), (1, .long v1)] [.int (T_55 s v5), .long v3] (N, hm_sh L g, s) _ Q
        refine hm_st hR (hm_st hR (?_))
        refine hm_st hR ⟨hm_le rfl, hm_le rfl, hm_le rfl, (0, 0), Nat.zero_le _, Nat.zero_le _, ?_⟩
        refine sp_60 hR hN ?_
        show R 61 40 [(5, .int v5), (3, .long v3), (0, .ref 2), (1, .long v1)] [.long (T_60 s v3 (((T_55 s v5)).toInt64))] (N, hm_sh L g, s) _ Q
        refine hm_st hR (hm_st hR (hm_st hR (?_)))
        show R 61 5 [(5, .int (v5 + 1)), (3, .long (T_60 s v3 (((T_55 s v5)).toInt64))), (0, .ref 2), (1, .long v1)] [] (N, hm_sh L g, s) _ Q
        exact hm_lvS hR (by intro q hq; simp only [List.mem_cons, List.not_mem_nil, or_false] at hq ⊢; rcases hq with rfl | rfl | rfl | rfl <;> simp) (ih s v1 (T_60 s v3 (((T_55 s v5)).toInt64)) (v5 + 1) (hm_dcx c9 hm) hq)
set_option maxRecDepth 20000 in
theorem sp_61 {R : hm_R} (hR : hm_Cm R) {N L : Nat} {g : Nat → hm_Sh} {s : hm_St} {b : hm_B} {Q : hm_Q} (hN : 68 ≤ N) {p1 : Int64} (hq : Q (.inr (some (.long (T_61 s p1)))) (N, hm_sh L g, s)) : R 61 0 (lv_args 0 [.ref 2, .long p1]) [] (N, hm_sh L g, s) b Q := by
  unfold T_61 at hq
  show R 61 0 [(0, .ref 2), (1, .long p1)] [] (N, hm_sh L g, s) _ Q
  refine hm_st hR (hm_st hR (hm_st hR (hm_st hR (?_))))
  show R 61 5 [(5, .int 0), (3, .long p1), (0, .ref 2), (1, .long p1)] [] (N, hm_sh L g, s) _ Q
  exact lp_61_5 hR hN _ _ _ _ _ (Nat.lt_succ_self _) hq
/-- CurvekeyHouse$History.spellsOf(I)I -/
def T_114 (s : hm_St) (p1 : Int32) : Int32 := (T_178 s 37 80 p1)
set_option maxRecDepth 20000 in
theorem sp_114 {R : hm_R} (hR : hm_Cm R) {N L : Nat} {g : Nat → hm_Sh} {s : hm_St} {b : hm_B} {Q : hm_Q} (hN : 68 ≤ N) {p1 : Int32} (hq : Q (.inr (some (.int (T_114 s p1)))) (N, hm_sh L g, s)) : R 114 0 (lv_args 0 [.ref 25, .int p1]) [] (N, hm_sh L g, s) b Q := by
  unfold T_114 at hq
  show R 114 0 [(0, .ref 25), (1, .int p1)] [] (N, hm_sh L g, s) _ Q
  refine hm_st hR (hm_st hR ⟨rfl, hm_le rfl, (hm_ltN hN rfl), hm_st hR (?_)⟩)
  refine hm_st hR ⟨hm_le rfl, rfl, (hm_le rfl), (hm_ltN hN rfl), hm_le rfl, hm_le rfl, (0, 0), Nat.zero_le _, Nat.zero_le _, ?_⟩
  refine sp_178 hR hN (rr := 36) (aa := 37) (nn := 80) rfl rfl (hm_le rfl) (hm_ltN hN rfl) rfl rfl (hm_le rfl) (hm_ltN hN rfl) (by decide) ?_
  show R 114 8 [(0, .ref 25), (1, .int p1)] [.int (T_178 s 37 80 p1)] (N, hm_sh L g, s) _ Q
  exact hm_st hR ⟨fun z => absurd z (by decide), hq⟩
/-- CurvekeyHouse$History.birthOf(I)I -/
def T_115 (s : hm_St) (p1 : Int32) : Int32 := (T_178 s 39 80 p1)
set_option maxRecDepth 20000 in
theorem sp_115 {R : hm_R} (hR : hm_Cm R) {N L : Nat} {g : Nat → hm_Sh} {s : hm_St} {b : hm_B} {Q : hm_Q} (hN : 68 ≤ N) {p1 : Int32} (hq : Q (.inr (some (.int (T_115 s p1)))) (N, hm_sh L g, s)) : R 115 0 (lv_args 0 [.ref 25, .int p1]) [] (N, hm_sh L g, s) b Q := by
  unfold T_115 at hq
  show R 115 0 [(0, .ref 25), (1, .int p1)] [] (N, hm_sh L g, s) _ Q
  refine hm_st hR (hm_st hR ⟨rfl, hm_le rfl, (hm_ltN hN rfl), hm_st hR (?_)⟩)
  refine hm_st hR ⟨hm_le rfl, rfl, (hm_le rfl), (hm_ltN hN rfl), hm_le rfl, hm_le rfl, (0, 0), Nat.zero_le _, Nat.zero_le _, ?_⟩
  refine sp_178 hR hN (rr := 38) (aa := 39) (nn := 80) rfl rfl (hm_le rfl) (hm_ltN hN rfl) rfl rfl (hm_le rfl) (hm_ltN hN rfl) (by decide) ?_
  show R 115 8 [(0, .ref 25), (1, .int p1)] [.int (T_178 s 39 80 p1)] (N, hm_sh L g, s) _ Q
  exact hm_st hR ⟨fun z => absurd z (by decide), hq⟩
/-- CurvekeyHouse$History.endOf(I)I -/
def T_116 (s : hm_St) (p1 : Int32) : Int32 := (T_178 s 41 80 p1)
set_option maxRecDepth 20000 in
theorem sp_116 {R : hm_R} (hR : hm_Cm R) {N L : Nat} {g : Nat → hm_Sh} {s : hm_St} {b : hm_B} {Q : hm_Q} (hN : 68 ≤ N) {p1 : Int32} (hq : Q (.inr (some (.int (T_116 s p1)))) (N, hm_sh L g, s)) : R 116 0 (lv_args 0 [.ref 25, .int p1]) [] (N, hm_sh L g, s) b Q := by
  unfold T_116 at hq
  show R 116 0 [(0, .ref 25), (1, .int p1)] [] (N, hm_sh L g, s) _ Q
  refine hm_st hR (hm_st hR ⟨rfl, hm_le rfl, (hm_ltN hN rfl), hm_st hR (?_)⟩)
  refine hm_st hR ⟨hm_le rfl, rfl, (hm_le rfl), (hm_ltN hN rfl), hm_le rfl, hm_le rfl, (0, 0), Nat.zero_le _, Nat.zero_le _, ?_⟩
  refine sp_178 hR hN (rr := 40) (aa := 41) (nn := 80) rfl rfl (hm_le rfl) (hm_ltN hN rfl) rfl rfl (hm_le rfl) (hm_ltN hN rfl) (by decide) ?_
  show R 116 8 [(0, .ref 25), (1, .int p1)] [.int (T_178 s 41 80 p1)] (N, hm_sh L g, s) _ Q
  exact hm_st hR ⟨fun z => absurd z (by decide), hq⟩
end
section
/-! The methods as functions; the abstract machine does them. -/
def T_139_4 : Nat → hm_St → Int32 → Int32 → Int32 → Int32
  | 0, s, _, _, _ => 0
  | n + 1, s, v1, v2, v3 => (if (s 42 4) ≤ v3 then v2 else (if v1 < (T_178 s 46 1025 v3) then v2 else (T_139_4 n s v1 v3 (v3 + 1))))
/-- CurvekeyHouse$Pages.pageOf(I)I -/
def T_139 (s : hm_St) (p1 : Int32) : Int32 := (T_139_4 (hm_df (s 42 4) 1 + 1) s p1 0 1)
set_option maxRecDepth 20000 in
theorem lp_139_4 {R : hm_R} (hR : hm_Cm R) {N L : Nat} {g : Nat → hm_Sh} {b : hm_B} {Q : hm_Q} (hN : 68 ≤ N) : ∀ (n : Nat) (s : hm_St) (v1 : Int32) (v2 : Int32) (v3 : Int32), hm_df (s 42 4) v3 < n → (hq : Q (.inr (some (.int (T_139_4 n s v1 v2 v3)))) (N, hm_sh L g, s)) → R 139 4 [(3, .int v3), (2, .int v2), (0, .ref 42), (1, .int v1)] [] (N, hm_sh L g, s) b Q := by
  intro n
  induction n with
  | zero => intro s v1 v2 v3 hm _; exact absurd hm (Nat.not_lt_zero _)
  | succ n ih =>
    intro s v1 v2 v3 hm hq
    unfold T_139_4 at hq
    refine hm_st hR (hm_st hR (hm_st hR ⟨rfl, hm_le rfl, (hm_ltN hN rfl), ?_⟩))
    show R 139 9 [(3, .int v3), (2, .int v2), (0, .ref 42), (1, .int v1)] [.int (s 42 4), .int v3] (N, hm_sh L g, s) _ Q
    refine hm_st hR ⟨fun c9 => ?_, fun c9 => ?_⟩
    · rw [if_pos c9] at hq
      show R 139 32 [(3, .int v3), (2, .int v2), (0, .ref 42), (1, .int v1)] [] (N, hm_sh L g, s) _ Q
      refine hm_st hR (?_)
      exact hm_st hR ⟨fun z => absurd z (by decide), hq⟩
    · rw [if_neg c9] at hq
      show R 139 12 [(3, .int v3), (2, .int v2), (0, .ref 42), (1, .int v1)] [] (N, hm_sh L g, s) _ Q
      refine hm_st hR (hm_st hR ⟨rfl, hm_le rfl, (hm_ltN hN rfl), hm_st hR (?_)⟩)
      refine hm_st hR ⟨hm_le rfl, rfl, (hm_le rfl), (hm_ltN hN rfl), hm_le rfl, hm_le rfl, (0, 0), Nat.zero_le _, Nat.zero_le _, ?_⟩
      refine sp_178 hR hN (rr := 45) (aa := 46) (nn := 1025) rfl rfl (hm_le rfl) (hm_ltN hN rfl) rfl rfl (hm_le rfl) (hm_ltN hN rfl) (by decide) ?_
      show R 139 20 [(3, .int v3), (2, .int v2), (0, .ref 42), (1, .int v1)] [.int (T_178 s 46 1025 v3)] (N, hm_sh L g, s) _ Q
      refine hm_st hR (?_)
      show R 139 21 [(3, .int v3), (2, .int v2), (0, .ref 42), (1, .int v1)] [.int v1, .int (T_178 s 46 1025 v3)] (N, hm_sh L g, s) _ Q
      refine hm_st hR ⟨fun c21 => ?_, fun c21 => ?_⟩
      · rw [if_pos c21] at hq
        show R 139 32 [(3, .int v3), (2, .int v2), (0, .ref 42), (1, .int v1)] [] (N, hm_sh L g, s) _ Q
        refine hm_st hR (?_)
        exact hm_st hR ⟨fun z => absurd z (by decide), hq⟩
      · rw [if_neg c21] at hq
        show R 139 24 [(3, .int v3), (2, .int v2), (0, .ref 42), (1, .int v1)] [] (N, hm_sh L g, s) _ Q
        refine hm_st hR (hm_st hR (hm_st hR (hm_st hR (?_))))
        show R 139 4 [(3, .int (v3 + 1)), (2, .int v3), (0, .ref 42), (1, .int v1)] [] (N, hm_sh L g, s) _ Q
        exact hm_lvS hR (by intro q hq; simp only [List.mem_cons, List.not_mem_nil, or_false] at hq ⊢; rcases hq with rfl | rfl | rfl | rfl <;> simp) (ih s v1 v3 (v3 + 1) (hm_dcx c9 hm) hq)
set_option maxRecDepth 20000 in
theorem sp_139 {R : hm_R} (hR : hm_Cm R) {N L : Nat} {g : Nat → hm_Sh} {s : hm_St} {b : hm_B} {Q : hm_Q} (hN : 68 ≤ N) {p1 : Int32} (hq : Q (.inr (some (.int (T_139 s p1)))) (N, hm_sh L g, s)) : R 139 0 (lv_args 0 [.ref 42, .int p1]) [] (N, hm_sh L g, s) b Q := by
  unfold T_139 at hq
  show R 139 0 [(0, .ref 42), (1, .int p1)] [] (N, hm_sh L g, s) _ Q
  refine hm_st hR (hm_st hR (hm_st hR (hm_st hR (?_))))
  show R 139 4 [(3, .int 1), (2, .int 0), (0, .ref 42), (1, .int p1)] [] (N, hm_sh L g, s) _ Q
  exact lp_139_4 hR hN _ _ _ _ _ (Nat.lt_succ_self _) hq
/-- CurvekeyHouse$Points.speedX(I)I -/
def T_163 (s : hm_St) (p1 : Int32) : Int32 := (T_178 s 22 80 p1)
set_option maxRecDepth 20000 in
theorem sp_163 {R : hm_R} (hR : hm_Cm R) {N L : Nat} {g : Nat → hm_Sh} {s : hm_St} {b : hm_B} {Q : hm_Q} (hN : 68 ≤ N) {p1 : Int32} (hq : Q (.inr (some (.int (T_163 s p1)))) (N, hm_sh L g, s)) : R 163 0 (lv_args 0 [.ref 14, .int p1]) [] (N, hm_sh L g, s) b Q := by
  unfold T_163 at hq
  show R 163 0 [(0, .ref 14), (1, .int p1)] [] (N, hm_sh L g, s) _ Q
  refine hm_st hR (hm_st hR ⟨rfl, hm_le rfl, (hm_ltN hN rfl), hm_st hR (?_)⟩)
  refine hm_st hR ⟨hm_le rfl, rfl, (hm_le rfl), (hm_ltN hN rfl), hm_le rfl, hm_le rfl, (0, 0), Nat.zero_le _, Nat.zero_le _, ?_⟩
  refine sp_178 hR hN (rr := 21) (aa := 22) (nn := 80) rfl rfl (hm_le rfl) (hm_ltN hN rfl) rfl rfl (hm_le rfl) (hm_ltN hN rfl) (by decide) ?_
  show R 163 8 [(0, .ref 14), (1, .int p1)] [.int (T_178 s 22 80 p1)] (N, hm_sh L g, s) _ Q
  exact hm_st hR ⟨fun z => absurd z (by decide), hq⟩
/-- CurvekeyHouse$Points.speedY(I)I -/
def T_164 (s : hm_St) (p1 : Int32) : Int32 := (T_178 s 24 80 p1)
set_option maxRecDepth 20000 in
theorem sp_164 {R : hm_R} (hR : hm_Cm R) {N L : Nat} {g : Nat → hm_Sh} {s : hm_St} {b : hm_B} {Q : hm_Q} (hN : 68 ≤ N) {p1 : Int32} (hq : Q (.inr (some (.int (T_164 s p1)))) (N, hm_sh L g, s)) : R 164 0 (lv_args 0 [.ref 14, .int p1]) [] (N, hm_sh L g, s) b Q := by
  unfold T_164 at hq
  show R 164 0 [(0, .ref 14), (1, .int p1)] [] (N, hm_sh L g, s) _ Q
  refine hm_st hR (hm_st hR ⟨rfl, hm_le rfl, (hm_ltN hN rfl), hm_st hR (?_)⟩)
  refine hm_st hR ⟨hm_le rfl, rfl, (hm_le rfl), (hm_ltN hN rfl), hm_le rfl, hm_le rfl, (0, 0), Nat.zero_le _, Nat.zero_le _, ?_⟩
  refine sp_178 hR hN (rr := 23) (aa := 24) (nn := 80) rfl rfl (hm_le rfl) (hm_ltN hN rfl) rfl rfl (hm_le rfl) (hm_ltN hN rfl) (by decide) ?_
  show R 164 8 [(0, .ref 14), (1, .int p1)] [.int (T_178 s 24 80 p1)] (N, hm_sh L g, s) _ Q
  exact hm_st hR ⟨fun z => absurd z (by decide), hq⟩
/-- CurvekeyHouse.pointFact(II)I -/
def T_53 (s : hm_St) (p1 : Int32) (p2 : Int32) : Int32 := (if p2 = 0 then (T_161 s p1) else (if p2 = 1 then (T_162 s p1) else (if p2 = 2 then (T_40 s p1) else (if p2 = 3 then (if (T_160 s p1) = 0 then 0 else 1) else (if p2 = 4 then (T_114 s p1) else (if p2 = 5 then (T_115 s p1) else (if p2 = 6 then (T_116 s p1) else (if p2 = 7 then (if (T_160 s p1) = 0 then (-1) else (T_139 s (T_40 s p1))) else (if p2 = 8 then (T_163 s p1) else (T_164 s p1))))))))))
set_option maxRecDepth 20000 in
theorem sp_53 {R : hm_R} (hR : hm_Cm R) {N L : Nat} {g : Nat → hm_Sh} {s : hm_St} {b : hm_B} {Q : hm_Q} (hN : 68 ≤ N) {p1 : Int32} {p2 : Int32} (hq : Q (.inr (some (.int (T_53 s p1 p2)))) (N, hm_sh L g, s)) : R 53 0 (lv_args 0 [.ref 2, .int p1, .int p2]) [] (N, hm_sh L g, s) b Q := by
  unfold T_53 at hq
  show R 53 0 [(0, .ref 2), (1, .int p1), (2, .int p2)] [] (N, hm_sh L g, s) _ Q
  refine hm_st hR (?_)
  show R 53 1 [(0, .ref 2), (1, .int p1), (2, .int p2)] [.int p2] (N, hm_sh L g, s) _ Q
  by_cases w1_0 : p2 = 0
  · rw [if_pos w1_0] at hq
    refine hm_tsS hR 52 (by rfl) (by rw [w1_0]; rfl) ?_
    show R 53 52 [(0, .ref 2), (1, .int p1), (2, .int p2)] [] (N, hm_sh L g, s) _ Q
    refine hm_st hR (hm_st hR ⟨rfl, hm_le rfl, (hm_ltN hN rfl), hm_st hR (?_)⟩)
    refine hm_st hR ⟨hm_le rfl, rfl, (hm_le rfl), (hm_ltN hN rfl), hm_le rfl, hm_le rfl, (0, 0), Nat.zero_le _, Nat.zero_le _, ?_⟩
    refine sp_161 hR hN ?_
    show R 53 60 [(0, .ref 2), (1, .int p1), (2, .int p2)] [.int (T_161 s p1)] (N, hm_sh L g, s) _ Q
    exact hm_st hR ⟨fun z => absurd z (by decide), hq⟩
  rw [if_neg w1_0] at hq
  by_cases w1_1 : p2 = 1
  · rw [if_pos w1_1] at hq
    refine hm_tsS hR 61 (by rfl) (by rw [w1_1]; rfl) ?_
    show R 53 61 [(0, .ref 2), (1, .int p1), (2, .int p2)] [] (N, hm_sh L g, s) _ Q
    refine hm_st hR (hm_st hR ⟨rfl, hm_le rfl, (hm_ltN hN rfl), hm_st hR (?_)⟩)
    refine hm_st hR ⟨hm_le rfl, rfl, (hm_le rfl), (hm_ltN hN rfl), hm_le rfl, hm_le rfl, (0, 0), Nat.zero_le _, Nat.zero_le _, ?_⟩
    refine sp_162 hR hN ?_
    show R 53 69 [(0, .ref 2), (1, .int p1), (2, .int p2)] [.int (T_162 s p1)] (N, hm_sh L g, s) _ Q
    exact hm_st hR ⟨fun z => absurd z (by decide), hq⟩
  rw [if_neg w1_1] at hq
  by_cases w1_2 : p2 = 2
  · rw [if_pos w1_2] at hq
    refine hm_tsS hR 70 (by rfl) (by rw [w1_2]; rfl) ?_
    show R 53 70 [(0, .ref 2), (1, .int p1), (2, .int p2)] [] (N, hm_sh L g, s) _ Q
    refine hm_st hR (hm_st hR (?_))
    refine hm_st hR ⟨hm_le rfl, rfl, (hm_le rfl), (hm_ltN hN rfl), hm_le rfl, hm_le rfl, (0, 0), Nat.zero_le _, Nat.zero_le _, ?_⟩
    refine sp_40 hR hN ?_
    show R 53 75 [(0, .ref 2), (1, .int p1), (2, .int p2)] [.int (T_40 s p1)] (N, hm_sh L g, s) _ Q
    exact hm_st hR ⟨fun z => absurd z (by decide), hq⟩
  rw [if_neg w1_2] at hq
  by_cases w1_3 : p2 = 3
  · rw [if_pos w1_3] at hq
    refine hm_tsS hR 76 (by rfl) (by rw [w1_3]; rfl) ?_
    show R 53 76 [(0, .ref 2), (1, .int p1), (2, .int p2)] [] (N, hm_sh L g, s) _ Q
    refine hm_st hR (hm_st hR ⟨rfl, hm_le rfl, (hm_ltN hN rfl), hm_st hR (?_)⟩)
    refine hm_st hR ⟨hm_le rfl, rfl, (hm_le rfl), (hm_ltN hN rfl), hm_le rfl, hm_le rfl, (0, 0), Nat.zero_le _, Nat.zero_le _, ?_⟩
    refine sp_160 hR hN ?_
    show R 53 84 [(0, .ref 2), (1, .int p1), (2, .int p2)] [.int (T_160 s p1)] (N, hm_sh L g, s) _ Q
    show R 53 84 [(0, .ref 2), (1, .int p1), (2, .int p2)] [.int (T_160 s p1)] (N, hm_sh L g, s) _ Q
    suffices G : R 53 92 [(0, .ref 2), (1, .int p1), (2, .int p2)] [.int (if (T_160 s p1) = 0 then 0 else 1)] (N, hm_sh L g, s) ((((b.1 - 0, b.2 - 0).1 - 0, (b.1 - 0, b.2 - 0).2 - 0).1 - 0, ((b.1 - 0, b.2 - 0).1 - 0, (b.1 - 0, b.2 - 0).2 - 0).2 - 0).1 - 0, (((b.1 - 0, b.2 - 0).1 - 0, (b.1 - 0, b.2 - 0).2 - 0).1 - 0, ((b.1 - 0, b.2 - 0).1 - 0, (b.1 - 0, b.2 - 0).2 - 0).2 - 0).2 - 0) Q by
      show R 53 84 [(0, .ref 2), (1, .int p1), (2, .int p2)] [.int (T_160 s p1)] (N, hm_sh L g, s) _ Q
      refine hm_st hR ⟨fun c => ?_, fun c => ?_⟩
      · rw [if_pos c] at G; exact hm_st hR (G)
      · rw [if_neg c] at G; exact hm_st hR (hm_st hR (G))
    exact hm_st hR ⟨fun z => absurd z (by decide), hq⟩
  rw [if_neg w1_3] at hq
  by_cases w1_4 : p2 = 4
  · rw [if_pos w1_4] at hq
    refine hm_tsS hR 93 (by rfl) (by rw [w1_4]; rfl) ?_
    show R 53 93 [(0, .ref 2), (1, .int p1), (2, .int p2)] [] (N, hm_sh L g, s) _ Q
    refine hm_st hR (hm_st hR ⟨rfl, hm_le rfl, (hm_ltN hN rfl), hm_st hR (?_)⟩)
    refine hm_st hR ⟨hm_le rfl, rfl, (hm_le rfl), (hm_ltN hN rfl), hm_le rfl, hm_le rfl, (0, 0), Nat.zero_le _, Nat.zero_le _, ?_⟩
    refine sp_114 hR hN ?_
    show R 53 101 [(0, .ref 2), (1, .int p1), (2, .int p2)] [.int (T_114 s p1)] (N, hm_sh L g, s) _ Q
    exact hm_st hR ⟨fun z => absurd z (by decide), hq⟩
  rw [if_neg w1_4] at hq
  by_cases w1_5 : p2 = 5
  · rw [if_pos w1_5] at hq
    refine hm_tsS hR 102 (by rfl) (by rw [w1_5]; rfl) ?_
    show R 53 102 [(0, .ref 2), (1, .int p1), (2, .int p2)] [] (N, hm_sh L g, s) _ Q
    refine hm_st hR (hm_st hR ⟨rfl, hm_le rfl, (hm_ltN hN rfl), hm_st hR (?_)⟩)
    refine hm_st hR ⟨hm_le rfl, rfl, (hm_le rfl), (hm_ltN hN rfl), hm_le rfl, hm_le rfl, (0, 0), Nat.zero_le _, Nat.zero_le _, ?_⟩
    refine sp_115 hR hN ?_
    show R 53 110 [(0, .ref 2), (1, .int p1), (2, .int p2)] [.int (T_115 s p1)] (N, hm_sh L g, s) _ Q
    exact hm_st hR ⟨fun z => absurd z (by decide), hq⟩
  rw [if_neg w1_5] at hq
  by_cases w1_6 : p2 = 6
  · rw [if_pos w1_6] at hq
    refine hm_tsS hR 111 (by rfl) (by rw [w1_6]; rfl) ?_
    show R 53 111 [(0, .ref 2), (1, .int p1), (2, .int p2)] [] (N, hm_sh L g, s) _ Q
    refine hm_st hR (hm_st hR ⟨rfl, hm_le rfl, (hm_ltN hN rfl), hm_st hR (?_)⟩)
    refine hm_st hR ⟨hm_le rfl, rfl, (hm_le rfl), (hm_ltN hN rfl), hm_le rfl, hm_le rfl, (0, 0), Nat.zero_le _, Nat.zero_le _, ?_⟩
    refine sp_116 hR hN ?_
    show R 53 119 [(0, .ref 2), (1, .int p1), (2, .int p2)] [.int (T_116 s p1)] (N, hm_sh L g, s) _ Q
    exact hm_st hR ⟨fun z => absurd z (by decide), hq⟩
  rw [if_neg w1_6] at hq
  by_cases w1_7 : p2 = 7
  · rw [if_pos w1_7] at hq
    refine hm_tsS hR 120 (by rfl) (by rw [w1_7]; rfl) ?_
    show R 53 120 [(0, .ref 2), (1, .int p1), (2, .int p2)] [] (N, hm_sh L g, s) _ Q
    refine hm_st hR (hm_st hR ⟨rfl, hm_le rfl, (hm_ltN hN rfl), hm_st hR (?_)⟩)
    refine hm_st hR ⟨hm_le rfl, rfl, (hm_le rfl), (hm_ltN hN rfl), hm_le rfl, hm_le rfl, (0, 0), Nat.zero_le _, Nat.zero_le _, ?_⟩
    refine sp_160 hR hN ?_
    show R 53 128 [(0, .ref 2), (1, .int p1), (2, .int p2)] [.int (T_160 s p1)] (N, hm_sh L g, s) _ Q
    show R 53 128 [(0, .ref 2), (1, .int p1), (2, .int p2)] [.int (T_160 s p1)] (N, hm_sh L g, s) _ Q
    refine hm_st hR ⟨fun c128 => ?_, fun c128 => ?_⟩
    · rw [if_pos c128] at hq
      show R 53 146 [(0, .ref 2), (1, .int p1), (2, .int p2)] [] (N, hm_sh L g, s) _ Q
      refine hm_st hR (?_)
      exact hm_st hR ⟨fun z => absurd z (by decide), hq⟩
    · rw [if_neg c128] at hq
      show R 53 131 [(0, .ref 2), (1, .int p1), (2, .int p2)] [] (N, hm_sh L g, s) _ Q
      refine hm_st hR (hm_st hR ⟨rfl, hm_le rfl, (hm_ltN hN rfl), hm_st hR (hm_st hR (?_))⟩)
      refine hm_st hR ⟨hm_le rfl, rfl, (hm_le rfl), (hm_ltN hN rfl), hm_le rfl, hm_le rfl, (0, 0), Nat.zero_le _, Nat.zero_le _, ?_⟩
      refine sp_40 hR hN ?_
      show R 53 140 [(0, .ref 2), (1, .int p1), (2, .int p2)] [.int (T_40 s p1), .ref 42] (N, hm_sh L g, s) _ Q
      refine hm_st hR ⟨hm_le rfl, rfl, (hm_le rfl), (hm_ltN hN rfl), hm_le rfl, hm_le rfl, (0, 0), Nat.zero_le _, Nat.zero_le _, ?_⟩
      refine sp_139 hR hN ?_
      show R 53 143 [(0, .ref 2), (1, .int p1), (2, .int p2)] [.int (T_139 s (T_40 s p1))] (N, hm_sh L g, s) _ Q
      refine hm_st hR (?_)
      exact hm_st hR ⟨fun z => absurd z (by decide), hq⟩
  rw [if_neg w1_7] at hq
  by_cases w1_8 : p2 = 8
  · rw [if_pos w1_8] at hq
    refine hm_tsS hR 148 (by rfl) (by rw [w1_8]; rfl) ?_
    show R 53 148 [(0, .ref 2), (1, .int p1), (2, .int p2)] [] (N, hm_sh L g, s) _ Q
    refine hm_st hR (hm_st hR ⟨rfl, hm_le rfl, (hm_ltN hN rfl), hm_st hR (?_)⟩)
    refine hm_st hR ⟨hm_le rfl, rfl, (hm_le rfl), (hm_ltN hN rfl), hm_le rfl, hm_le rfl, (0, 0), Nat.zero_le _, Nat.zero_le _, ?_⟩
    refine sp_163 hR hN ?_
    show R 53 156 [(0, .ref 2), (1, .int p1), (2, .int p2)] [.int (T_163 s p1)] (N, hm_sh L g, s) _ Q
    exact hm_st hR ⟨fun z => absurd z (by decide), hq⟩
  rw [if_neg w1_8] at hq
  refine hm_tsS hR 157 (by rfl) (by exact hm_swD9 w1_0 w1_1 w1_2 w1_3 w1_4 w1_5 w1_6 w1_7 w1_8) ?_
  show R 53 157 [(0, .ref 2), (1, .int p1), (2, .int p2)] [] (N, hm_sh L g, s) _ Q
  refine hm_st hR (hm_st hR ⟨rfl, hm_le rfl, (hm_ltN hN rfl), hm_st hR (?_)⟩)
  refine hm_st hR ⟨hm_le rfl, rfl, (hm_le rfl), (hm_ltN hN rfl), hm_le rfl, hm_le rfl, (0, 0), Nat.zero_le _, Nat.zero_le _, ?_⟩
  refine sp_164 hR hN ?_
  show R 53 165 [(0, .ref 2), (1, .int p1), (2, .int p2)] [.int (T_164 s p1)] (N, hm_sh L g, s) _ Q
  exact hm_st hR ⟨fun z => absurd z (by decide), hq⟩
def T_62_20 (O : hm_St → Int64 → Int64 → Int32 → Int64) : Nat → hm_St → Int64 → Int64 → Int32 → Int32 → Int64
  | 0, s, _, _, _, _ => 0
  | n + 1, s, v1, v3, v5, v6 => (if 10 ≤ v6 then (O s v1 v3 (v5 + 1)) else (T_62_20 O n s v1 (T_60 s v3 (((T_53 s v5 v6)).toInt64)) v5 (v6 + 1)))
def T_62_5 : Nat → hm_St → Int64 → Int64 → Int32 → Int64
  | 0, s, _, _, _ => 0
  | n + 1, s, v1, v3, v5 => (if (T_157 s) ≤ v5 then v3 else (T_62_20 (fun s v1 v3 v5 => T_62_5 n s v1 v3 v5) (hm_df 10 0 + 1) s v1 v3 v5 0))
/-- CurvekeyHouse.mixPoints(J)J -/
def T_62 (s : hm_St) (p1 : Int64) : Int64 := (T_62_5 (hm_df (T_157 s) 0 + 1) s p1 p1 0)
set_option maxRecDepth 20000 in
theorem lp_62_20 {R : hm_R} (hR : hm_Cm R) {N L : Nat} {g : Nat → hm_Sh} {b : hm_B} {Q : hm_Q} (hN : 68 ≤ N) {O : hm_St → Int64 → Int64 → Int32 → Int64} {nO : Nat} (hO : ∀ (s : hm_St) (v1 : Int64) (v3 : Int64) (v5 : Int32), hm_df (T_157 s) v5 < nO → (Q (.inr (some (.long (O s v1 v3 v5)))) (N, hm_sh L g, s)) → R 62 5 [(5, .int v5), (3, .long v3), (0, .ref 2), (1, .long v1)] [] (N, hm_sh L g, s) b Q) : ∀ (n : Nat) (s : hm_St) (v1 : Int64) (v3 : Int64) (v5 : Int32) (v6 : Int32), hm_df 10 v6 < n → (hPO : hm_df (T_157 s) (v5 + 1) < nO) → (hq : Q (.inr (some (.long (T_62_20 O n s v1 v3 v5 v6)))) (N, hm_sh L g, s)) → R 62 20 [(6, .int v6), (5, .int v5), (3, .long v3), (0, .ref 2), (1, .long v1)] [] (N, hm_sh L g, s) b Q := by
  intro n
  induction n with
  | zero => intro s v1 v3 v5 v6 hm hPO _; exact absurd hm (Nat.not_lt_zero _)
  | succ n ih =>
    intro s v1 v3 v5 v6 hm hPO hq
    unfold T_62_20 at hq
    refine hm_st hR (hm_st hR (?_))
    show R 62 24 [(6, .int v6), (5, .int v5), (3, .long v3), (0, .ref 2), (1, .long v1)] [.int 10, .int v6] (N, hm_sh L g, s) _ Q
    refine hm_st hR ⟨fun c24 => ?_, fun c24 => ?_⟩
    · rw [if_pos c24] at hq
      show R 62 47 [(6, .int v6), (5, .int v5), (3, .long v3), (0, .ref 2), (1, .long v1)] [] (N, hm_sh L g, s) _ Q
      refine hm_st hR (hm_st hR (?_))
      show R 62 5 [(5, .int (v5 + 1)), (6, .int v6), (3, .long v3), (0, .ref 2), (1, .long v1)] [] (N, hm_sh L g, s) _ Q
      exact hm_lvS hR (by intro q hq; simp only [List.mem_cons, List.not_mem_nil, or_false] at hq ⊢; rcases hq with rfl | rfl | rfl | rfl <;> simp) (hO s v1 v3 (v5 + 1) hPO hq)
    · rw [if_neg c24] at hq
      show R 62 27 [(6, .int v6), (5, .int v5), (3, .long v3), (0, .ref 2), (1, .long v1)] [] (N, hm_sh L g, s) _ Q
      refine hm_st hR (hm_st hR (hm_st hR (hm_st hR (?_))))
      refine hm_st hR ⟨hm_le rfl, rfl, (hm_le rfl), (hm_ltN hN rfl), hm_le rfl, hm_le rfl, (0, 0), Nat.zero_le _, Nat.zero_le _, ?_⟩
      refine sp_53 hR hN ?_
      show R 62 36 [(6, .int v6), (5, .int v5), (3, .long v3), (0, .ref 2), (1, .long v1)] [.int (T_53 s v5 v6), .long v3] (N, hm_sh L g, s) _ Q
      refine hm_st hR (?_)
      refine hm_st hR ⟨hm_le rfl, hm_le rfl, hm_le rfl, (0, 0), Nat.zero_le _, Nat.zero_le _, ?_⟩
      refine sp_60 hR hN ?_
      show R 62 40 [(6, .int v6), (5, .int v5), (3, .long v3), (0, .ref 2), (1, .long v1)] [.long (T_60 s v3 (((T_53 s v5 v6)).toInt64))] (N, hm_sh L g, s) _ Q
      refine hm_st hR (hm_st hR (hm_st hR (?_)))
      show R 62 20 [(6, .int (v6 + 1)), (3, .long (T_60 s v3 (((T_53 s v5 v6)).toInt64))), (5, .int v5), (0, .ref 2), (1, .long v1)] [] (N, hm_sh L g, s) _ Q
      exact hm_lvS hR (by intro q hq; simp only [List.mem_cons, List.not_mem_nil, or_false] at hq ⊢; rcases hq with rfl | rfl | rfl | rfl | rfl <;> simp) (ih s v1 (T_60 s v3 (((T_53 s v5 v6)).toInt64)) v5 (v6 + 1) (hm_dcx c24 hm) hPO hq)
set_option maxRecDepth 20000 in
theorem lp_62_5 {R : hm_R} (hR : hm_Cm R) {N L : Nat} {g : Nat → hm_Sh} {b : hm_B} {Q : hm_Q} (hN : 68 ≤ N) : ∀ (n : Nat) (s : hm_St) (v1 : Int64) (v3 : Int64) (v5 : Int32), hm_df (T_157 s) v5 < n → (hq : Q (.inr (some (.long (T_62_5 n s v1 v3 v5)))) (N, hm_sh L g, s)) → R 62 5 [(5, .int v5), (3, .long v3), (0, .ref 2), (1, .long v1)] [] (N, hm_sh L g, s) b Q := by
  intro n
  induction n with
  | zero => intro s v1 v3 v5 hm _; exact absurd hm (Nat.not_lt_zero _)
  | succ n ih =>
    intro s v1 v3 v5 hm hq
    unfold T_62_5 at hq
    refine hm_st hR (hm_st hR (hm_st hR ⟨rfl, hm_le rfl, (hm_ltN hN rfl), ?_⟩))
    refine hm_st hR ⟨hm_le rfl, rfl, (hm_le rfl), (hm_ltN hN rfl), hm_le rfl, hm_le rfl, (0, 0), Nat.zero_le _, Nat.zero_le _, ?_⟩
    refine sp_157 hR hN ?_
    show R 62 14 [(5, .int v5), (3, .long v3), (0, .ref 2), (1, .long v1)] [.int (T_157 s), .int v5] (N, hm_sh L g, s) _ Q
    show R 62 14 [(5, .int v5), (3, .long v3), (0, .ref 2), (1, .long v1)] [.int (T_157 s), .int v5] (N, hm_sh L g, s) _ Q
    refine hm_st hR ⟨fun c14 => ?_, fun c14 => ?_⟩
    · rw [if_pos c14] at hq
      show R 62 53 [(5, .int v5), (3, .long v3), (0, .ref 2), (1, .long v1)] [] (N, hm_sh L g, s) _ Q
      refine hm_st hR (?_)
      exact hm_st hR hq
    · rw [if_neg c14] at hq
      show R 62 17 [(5, .int v5), (3, .long v3), (0, .ref 2), (1, .long v1)] [] (N, hm_sh L g, s) _ Q
      refine hm_st hR (hm_st hR (?_))
      show R 62 20 [(6, .int 0), (5, .int v5), (3, .long v3), (0, .ref 2), (1, .long v1)] [] (N, hm_sh L g, s) _ Q
      exact lp_62_20 hR hN (O := (fun s v1 v3 v5 => T_62_5 n s v1 v3 v5)) (nO := n) (fun s v1 v3 v5 hm hq => ih s v1 v3 v5 hm hq) _ _ _ _ _ _ (Nat.lt_succ_self _) (hm_dcx c14 hm) hq
set_option maxRecDepth 20000 in
theorem sp_62 {R : hm_R} (hR : hm_Cm R) {N L : Nat} {g : Nat → hm_Sh} {s : hm_St} {b : hm_B} {Q : hm_Q} (hN : 68 ≤ N) {p1 : Int64} (hq : Q (.inr (some (.long (T_62 s p1)))) (N, hm_sh L g, s)) : R 62 0 (lv_args 0 [.ref 2, .long p1]) [] (N, hm_sh L g, s) b Q := by
  unfold T_62 at hq
  show R 62 0 [(0, .ref 2), (1, .long p1)] [] (N, hm_sh L g, s) _ Q
  refine hm_st hR (hm_st hR (hm_st hR (hm_st hR (?_))))
  show R 62 5 [(5, .int 0), (3, .long p1), (0, .ref 2), (1, .long p1)] [] (N, hm_sh L g, s) _ Q
  exact lp_62_5 hR hN _ _ _ _ _ (Nat.lt_succ_self _) hq
/-- CurvekeyHouse$Pages.floorOf(I)I -/
def T_138 (s : hm_St) (p1 : Int32) : Int32 := (T_178 s 46 1025 p1)
set_option maxRecDepth 20000 in
theorem sp_138 {R : hm_R} (hR : hm_Cm R) {N L : Nat} {g : Nat → hm_Sh} {s : hm_St} {b : hm_B} {Q : hm_Q} (hN : 68 ≤ N) {p1 : Int32} (hq : Q (.inr (some (.int (T_138 s p1)))) (N, hm_sh L g, s)) : R 138 0 (lv_args 0 [.ref 42, .int p1]) [] (N, hm_sh L g, s) b Q := by
  unfold T_138 at hq
  show R 138 0 [(0, .ref 42), (1, .int p1)] [] (N, hm_sh L g, s) _ Q
  refine hm_st hR (hm_st hR ⟨rfl, hm_le rfl, (hm_ltN hN rfl), hm_st hR (?_)⟩)
  refine hm_st hR ⟨hm_le rfl, rfl, (hm_le rfl), (hm_ltN hN rfl), hm_le rfl, hm_le rfl, (0, 0), Nat.zero_le _, Nat.zero_le _, ?_⟩
  refine sp_178 hR hN (rr := 45) (aa := 46) (nn := 1025) rfl rfl (hm_le rfl) (hm_ltN hN rfl) rfl rfl (hm_le rfl) (hm_ltN hN rfl) (by decide) ?_
  show R 138 8 [(0, .ref 42), (1, .int p1)] [.int (T_178 s 46 1025 p1)] (N, hm_sh L g, s) _ Q
  exact hm_st hR ⟨fun z => absurd z (by decide), hq⟩
def T_145_24 : Nat → hm_St → Int32 → Int32 → Int32 → Int32 → Int32 → Int32
  | 0, s, _, _, _, _, _ => 0
  | n + 1, s, v1, v2, v3, v4, v5 => (if v4 ≤ v5 then (-1) else (if (T_178 s 44 1024 v5) = (-1) then (T_145_24 n s v1 v2 v3 v4 (v5 + 1)) else (if v3 = v2 then v5 else (T_145_24 n s v1 v2 (v3 + 1) v4 (v5 + 1)))))
/-- CurvekeyHouse$Pages.entryIn(II)I -/
def T_145 (s : hm_St) (p1 : Int32) (p2 : Int32) : Int32 := (T_145_24 (hm_df (T_178 s 46 1025 (p1 + 1)) (T_178 s 46 1025 p1) + 1) s p1 p2 0 (T_178 s 46 1025 (p1 + 1)) (T_178 s 46 1025 p1))
set_option maxRecDepth 20000 in
theorem lp_145_24 {R : hm_R} (hR : hm_Cm R) {N L : Nat} {g : Nat → hm_Sh} {b : hm_B} {Q : hm_Q} (hN : 68 ≤ N) : ∀ (n : Nat) (s : hm_St) (v1 : Int32) (v2 : Int32) (v3 : Int32) (v4 : Int32) (v5 : Int32), hm_df v4 v5 < n → (hq : Q (.inr (some (.int (T_145_24 n s v1 v2 v3 v4 v5)))) (N, hm_sh L g, s)) → R 145 24 [(5, .int v5), (4, .int v4), (3, .int v3), (0, .ref 42), (1, .int v1), (2, .int v2)] [] (N, hm_sh L g, s) b Q := by
  intro n
  induction n with
  | zero => intro s v1 v2 v3 v4 v5 hm _; exact absurd hm (Nat.not_lt_zero _)
  | succ n ih =>
    intro s v1 v2 v3 v4 v5 hm hq
    unfold T_145_24 at hq
    refine hm_st hR (hm_st hR (?_))
    show R 145 28 [(5, .int v5), (4, .int v4), (3, .int v3), (0, .ref 42), (1, .int v1), (2, .int v2)] [.int v4, .int v5] (N, hm_sh L g, s) _ Q
    refine hm_st hR ⟨fun c28 => ?_, fun c28 => ?_⟩
    · rw [if_pos c28] at hq
      show R 145 61 [(5, .int v5), (4, .int v4), (3, .int v3), (0, .ref 42), (1, .int v1), (2, .int v2)] [] (N, hm_sh L g, s) _ Q
      refine hm_st hR (?_)
      exact hm_st hR ⟨fun z => absurd z (by decide), hq⟩
    · rw [if_neg c28] at hq
      show R 145 31 [(5, .int v5), (4, .int v4), (3, .int v3), (0, .ref 42), (1, .int v1), (2, .int v2)] [] (N, hm_sh L g, s) _ Q
      refine hm_st hR (hm_st hR ⟨rfl, hm_le rfl, (hm_ltN hN rfl), hm_st hR (?_)⟩)
      refine hm_st hR ⟨hm_le rfl, rfl, (hm_le rfl), (hm_ltN hN rfl), hm_le rfl, hm_le rfl, (0, 0), Nat.zero_le _, Nat.zero_le _, ?_⟩
      refine sp_178 hR hN (rr := 43) (aa := 44) (nn := 1024) rfl rfl (hm_le rfl) (hm_ltN hN rfl) rfl rfl (hm_le rfl) (hm_ltN hN rfl) (by decide) ?_
      show R 145 40 [(5, .int v5), (4, .int v4), (3, .int v3), (0, .ref 42), (1, .int v1), (2, .int v2)] [.int (T_178 s 44 1024 v5)] (N, hm_sh L g, s) _ Q
      refine hm_st hR (?_)
      show R 145 41 [(5, .int v5), (4, .int v4), (3, .int v3), (0, .ref 42), (1, .int v1), (2, .int v2)] [.int (-1), .int (T_178 s 44 1024 v5)] (N, hm_sh L g, s) _ Q
      refine hm_st hR ⟨fun c41 => ?_, fun c41 => ?_⟩
      · rw [if_pos c41] at hq
        show R 145 55 [(5, .int v5), (4, .int v4), (3, .int v3), (0, .ref 42), (1, .int v1), (2, .int v2)] [] (N, hm_sh L g, s) _ Q
        refine hm_st hR (hm_st hR (?_))
        show R 145 24 [(5, .int (v5 + 1)), (4, .int v4), (3, .int v3), (0, .ref 42), (1, .int v1), (2, .int v2)] [] (N, hm_sh L g, s) _ Q
        exact hm_lvS hR (by intro q hq; simp only [List.mem_cons, List.not_mem_nil, or_false] at hq ⊢; rcases hq with rfl | rfl | rfl | rfl | rfl | rfl <;> simp) (ih s v1 v2 v3 v4 (v5 + 1) (hm_dcx c28 hm) hq)
      · rw [if_neg c41] at hq
        show R 145 44 [(5, .int v5), (4, .int v4), (3, .int v3), (0, .ref 42), (1, .int v1), (2, .int v2)] [] (N, hm_sh L g, s) _ Q
        refine hm_st hR (hm_st hR (?_))
        show R 145 46 [(5, .int v5), (4, .int v4), (3, .int v3), (0, .ref 42), (1, .int v1), (2, .int v2)] [.int v2, .int v3] (N, hm_sh L g, s) _ Q
        refine hm_st hR ⟨fun c46 => ?_, fun c46 => ?_⟩
        · rw [if_neg c46] at hq
          show R 145 52 [(5, .int v5), (4, .int v4), (3, .int v3), (0, .ref 42), (1, .int v1), (2, .int v2)] [] (N, hm_sh L g, s) _ Q
          refine hm_st hR (hm_st hR (hm_st hR (?_)))
          show R 145 24 [(5, .int (v5 + 1)), (3, .int (v3 + 1)), (4, .int v4), (0, .ref 42), (1, .int v1), (2, .int v2)] [] (N, hm_sh L g, s) _ Q
          exact hm_lvS hR (by intro q hq; simp only [List.mem_cons, List.not_mem_nil, or_false] at hq ⊢; rcases hq with rfl | rfl | rfl | rfl | rfl | rfl <;> simp) (ih s v1 v2 (v3 + 1) v4 (v5 + 1) (hm_dcx c28 hm) hq)
        · rw [if_pos c46] at hq
          show R 145 49 [(5, .int v5), (4, .int v4), (3, .int v3), (0, .ref 42), (1, .int v1), (2, .int v2)] [] (N, hm_sh L g, s) _ Q
          refine hm_st hR (?_)
          exact hm_st hR ⟨fun z => absurd z (by decide), hq⟩
set_option maxRecDepth 20000 in
theorem sp_145 {R : hm_R} (hR : hm_Cm R) {N L : Nat} {g : Nat → hm_Sh} {s : hm_St} {b : hm_B} {Q : hm_Q} (hN : 68 ≤ N) {p1 : Int32} {p2 : Int32} (hq : Q (.inr (some (.int (T_145 s p1 p2)))) (N, hm_sh L g, s)) : R 145 0 (lv_args 0 [.ref 42, .int p1, .int p2]) [] (N, hm_sh L g, s) b Q := by
  unfold T_145 at hq
  show R 145 0 [(0, .ref 42), (1, .int p1), (2, .int p2)] [] (N, hm_sh L g, s) _ Q
  refine hm_st hR (hm_st hR (hm_st hR (hm_st hR ⟨rfl, hm_le rfl, (hm_ltN hN rfl), hm_st hR (hm_st hR (hm_st hR (?_)))⟩)))
  refine hm_st hR ⟨hm_le rfl, rfl, (hm_le rfl), (hm_ltN hN rfl), hm_le rfl, hm_le rfl, (0, 0), Nat.zero_le _, Nat.zero_le _, ?_⟩
  refine sp_178 hR hN (rr := 45) (aa := 46) (nn := 1025) rfl rfl (hm_le rfl) (hm_ltN hN rfl) rfl rfl (hm_le rfl) (hm_ltN hN rfl) (by decide) ?_
  show R 145 12 [(3, .int 0), (0, .ref 42), (1, .int p1), (2, .int p2)] [.int (T_178 s 46 1025 (p1 + 1))] (N, hm_sh L g, s) _ Q
  refine hm_st hR (hm_st hR (hm_st hR ⟨rfl, hm_le rfl, (hm_ltN hN rfl), hm_st hR (?_)⟩))
  refine hm_st hR ⟨hm_le rfl, rfl, (hm_le rfl), (hm_ltN hN rfl), hm_le rfl, hm_le rfl, (0, 0), Nat.zero_le _, Nat.zero_le _, ?_⟩
  refine sp_178 hR hN (rr := 45) (aa := 46) (nn := 1025) rfl rfl (hm_le rfl) (hm_ltN hN rfl) rfl rfl (hm_le rfl) (hm_ltN hN rfl) (by decide) ?_
  show R 145 22 [(4, .int (T_178 s 46 1025 (p1 + 1))), (3, .int 0), (0, .ref 42), (1, .int p1), (2, .int p2)] [.int (T_178 s 46 1025 p1)] (N, hm_sh L g, s) _ Q
  refine hm_st hR (?_)
  show R 145 24 [(5, .int (T_178 s 46 1025 p1)), (4, .int (T_178 s 46 1025 (p1 + 1))), (3, .int 0), (0, .ref 42), (1, .int p1), (2, .int p2)] [] (N, hm_sh L g, s) _ Q
  exact lp_145_24 hR hN _ _ _ _ _ _ _ (Nat.lt_succ_self _) hq
/-- CurvekeyHouse$Pages.firstIn(I)I -/
def T_143 (s : hm_St) (p1 : Int32) : Int32 := (T_145 s p1 0)
set_option maxRecDepth 20000 in
theorem sp_143 {R : hm_R} (hR : hm_Cm R) {N L : Nat} {g : Nat → hm_Sh} {s : hm_St} {b : hm_B} {Q : hm_Q} (hN : 68 ≤ N) {p1 : Int32} (hq : Q (.inr (some (.int (T_143 s p1)))) (N, hm_sh L g, s)) : R 143 0 (lv_args 0 [.ref 42, .int p1]) [] (N, hm_sh L g, s) b Q := by
  unfold T_143 at hq
  show R 143 0 [(0, .ref 42), (1, .int p1)] [] (N, hm_sh L g, s) _ Q
  refine hm_st hR (hm_st hR (hm_st hR (?_)))
  refine hm_st hR ⟨hm_le rfl, rfl, (hm_le rfl), (hm_ltN hN rfl), hm_le rfl, hm_le rfl, (0, 0), Nat.zero_le _, Nat.zero_le _, ?_⟩
  refine sp_145 hR hN ?_
  show R 143 6 [(0, .ref 42), (1, .int p1)] [.int (T_145 s p1 0)] (N, hm_sh L g, s) _ Q
  exact hm_st hR ⟨fun z => absurd z (by decide), hq⟩
/-- CurvekeyHouse$Pages.lastIn(I)I -/
def T_144 (s : hm_St) (p1 : Int32) : Int32 := (T_145 s p1 ((T_141 s p1) - 1))
set_option maxRecDepth 20000 in
theorem sp_144 {R : hm_R} (hR : hm_Cm R) {N L : Nat} {g : Nat → hm_Sh} {s : hm_St} {b : hm_B} {Q : hm_Q} (hN : 68 ≤ N) {p1 : Int32} (hq : Q (.inr (some (.int (T_144 s p1)))) (N, hm_sh L g, s)) : R 144 0 (lv_args 0 [.ref 42, .int p1]) [] (N, hm_sh L g, s) b Q := by
  unfold T_144 at hq
  show R 144 0 [(0, .ref 42), (1, .int p1)] [] (N, hm_sh L g, s) _ Q
  refine hm_st hR (hm_st hR (hm_st hR (hm_st hR (?_))))
  refine hm_st hR ⟨hm_le rfl, rfl, (hm_le rfl), (hm_ltN hN rfl), hm_le rfl, hm_le rfl, (0, 0), Nat.zero_le _, Nat.zero_le _, ?_⟩
  refine sp_141 hR hN ?_
  show R 144 7 [(0, .ref 42), (1, .int p1)] [.int (T_141 s p1), .int p1, .ref 42] (N, hm_sh L g, s) _ Q
  refine hm_st hR (hm_st hR (?_))
  refine hm_st hR ⟨hm_le rfl, rfl, (hm_le rfl), (hm_ltN hN rfl), hm_le rfl, hm_le rfl, (0, 0), Nat.zero_le _, Nat.zero_le _, ?_⟩
  refine sp_145 hR hN ?_
  show R 144 12 [(0, .ref 42), (1, .int p1)] [.int (T_145 s p1 ((T_141 s p1) - 1))] (N, hm_sh L g, s) _ Q
  exact hm_st hR ⟨fun z => absurd z (by decide), hq⟩
/-- CurvekeyHouse.pageFact(II)I -/
def T_54 (s : hm_St) (p1 : Int32) (p2 : Int32) : Int32 := (if p2 = 0 then (T_138 s p1) else (if p2 = 1 then (T_141 s p1) else (if p2 = 2 then (T_142 s p1) else (if p2 = 3 then (T_143 s p1) else (if p2 = 4 then (T_144 s p1) else (T_146 s p1 (s 2 9)))))))
set_option maxRecDepth 20000 in
theorem sp_54 {R : hm_R} (hR : hm_Cm R) {N L : Nat} {g : Nat → hm_Sh} {s : hm_St} {b : hm_B} {Q : hm_Q} (hN : 68 ≤ N) {p1 : Int32} {p2 : Int32} (hq : Q (.inr (some (.int (T_54 s p1 p2)))) (N, hm_sh L g, s)) : R 54 0 (lv_args 0 [.ref 2, .int p1, .int p2]) [] (N, hm_sh L g, s) b Q := by
  unfold T_54 at hq
  show R 54 0 [(0, .ref 2), (1, .int p1), (2, .int p2)] [] (N, hm_sh L g, s) _ Q
  refine hm_st hR (?_)
  show R 54 1 [(0, .ref 2), (1, .int p1), (2, .int p2)] [.int p2] (N, hm_sh L g, s) _ Q
  by_cases w1_0 : p2 = 0
  · rw [if_pos w1_0] at hq
    refine hm_tsS hR 36 (by rfl) (by rw [w1_0]; rfl) ?_
    show R 54 36 [(0, .ref 2), (1, .int p1), (2, .int p2)] [] (N, hm_sh L g, s) _ Q
    refine hm_st hR (hm_st hR ⟨rfl, hm_le rfl, (hm_ltN hN rfl), hm_st hR (?_)⟩)
    refine hm_st hR ⟨hm_le rfl, rfl, (hm_le rfl), (hm_ltN hN rfl), hm_le rfl, hm_le rfl, (0, 0), Nat.zero_le _, Nat.zero_le _, ?_⟩
    refine sp_138 hR hN ?_
    show R 54 44 [(0, .ref 2), (1, .int p1), (2, .int p2)] [.int (T_138 s p1)] (N, hm_sh L g, s) _ Q
    exact hm_st hR ⟨fun z => absurd z (by decide), hq⟩
  rw [if_neg w1_0] at hq
  by_cases w1_1 : p2 = 1
  · rw [if_pos w1_1] at hq
    refine hm_tsS hR 45 (by rfl) (by rw [w1_1]; rfl) ?_
    show R 54 45 [(0, .ref 2), (1, .int p1), (2, .int p2)] [] (N, hm_sh L g, s) _ Q
    refine hm_st hR (hm_st hR ⟨rfl, hm_le rfl, (hm_ltN hN rfl), hm_st hR (?_)⟩)
    refine hm_st hR ⟨hm_le rfl, rfl, (hm_le rfl), (hm_ltN hN rfl), hm_le rfl, hm_le rfl, (0, 0), Nat.zero_le _, Nat.zero_le _, ?_⟩
    refine sp_141 hR hN ?_
    show R 54 53 [(0, .ref 2), (1, .int p1), (2, .int p2)] [.int (T_141 s p1)] (N, hm_sh L g, s) _ Q
    exact hm_st hR ⟨fun z => absurd z (by decide), hq⟩
  rw [if_neg w1_1] at hq
  by_cases w1_2 : p2 = 2
  · rw [if_pos w1_2] at hq
    refine hm_tsS hR 54 (by rfl) (by rw [w1_2]; rfl) ?_
    show R 54 54 [(0, .ref 2), (1, .int p1), (2, .int p2)] [] (N, hm_sh L g, s) _ Q
    refine hm_st hR (hm_st hR ⟨rfl, hm_le rfl, (hm_ltN hN rfl), hm_st hR (?_)⟩)
    refine hm_st hR ⟨hm_le rfl, rfl, (hm_le rfl), (hm_ltN hN rfl), hm_le rfl, hm_le rfl, (0, 0), Nat.zero_le _, Nat.zero_le _, ?_⟩
    refine sp_142 hR hN ?_
    show R 54 62 [(0, .ref 2), (1, .int p1), (2, .int p2)] [.int (T_142 s p1)] (N, hm_sh L g, s) _ Q
    exact hm_st hR ⟨fun z => absurd z (by decide), hq⟩
  rw [if_neg w1_2] at hq
  by_cases w1_3 : p2 = 3
  · rw [if_pos w1_3] at hq
    refine hm_tsS hR 63 (by rfl) (by rw [w1_3]; rfl) ?_
    show R 54 63 [(0, .ref 2), (1, .int p1), (2, .int p2)] [] (N, hm_sh L g, s) _ Q
    refine hm_st hR (hm_st hR ⟨rfl, hm_le rfl, (hm_ltN hN rfl), hm_st hR (?_)⟩)
    refine hm_st hR ⟨hm_le rfl, rfl, (hm_le rfl), (hm_ltN hN rfl), hm_le rfl, hm_le rfl, (0, 0), Nat.zero_le _, Nat.zero_le _, ?_⟩
    refine sp_143 hR hN ?_
    show R 54 71 [(0, .ref 2), (1, .int p1), (2, .int p2)] [.int (T_143 s p1)] (N, hm_sh L g, s) _ Q
    exact hm_st hR ⟨fun z => absurd z (by decide), hq⟩
  rw [if_neg w1_3] at hq
  by_cases w1_4 : p2 = 4
  · rw [if_pos w1_4] at hq
    refine hm_tsS hR 72 (by rfl) (by rw [w1_4]; rfl) ?_
    show R 54 72 [(0, .ref 2), (1, .int p1), (2, .int p2)] [] (N, hm_sh L g, s) _ Q
    refine hm_st hR (hm_st hR ⟨rfl, hm_le rfl, (hm_ltN hN rfl), hm_st hR (?_)⟩)
    refine hm_st hR ⟨hm_le rfl, rfl, (hm_le rfl), (hm_ltN hN rfl), hm_le rfl, hm_le rfl, (0, 0), Nat.zero_le _, Nat.zero_le _, ?_⟩
    refine sp_144 hR hN ?_
    show R 54 80 [(0, .ref 2), (1, .int p1), (2, .int p2)] [.int (T_144 s p1)] (N, hm_sh L g, s) _ Q
    exact hm_st hR ⟨fun z => absurd z (by decide), hq⟩
  rw [if_neg w1_4] at hq
  refine hm_tsS hR 81 (by rfl) (by exact hm_swD5 w1_0 w1_1 w1_2 w1_3 w1_4) ?_
  show R 54 81 [(0, .ref 2), (1, .int p1), (2, .int p2)] [] (N, hm_sh L g, s) _ Q
  refine hm_st hR (hm_st hR ⟨rfl, hm_le rfl, (hm_ltN hN rfl), hm_st hR (hm_st hR (hm_st hR ⟨rfl, hm_le rfl, (hm_ltN hN rfl), ?_⟩))⟩)
  refine hm_st hR ⟨hm_le rfl, rfl, (hm_le rfl), (hm_ltN hN rfl), hm_le rfl, hm_le rfl, (0, 0), Nat.zero_le _, Nat.zero_le _, ?_⟩
  refine sp_146 hR hN ?_
  show R 54 93 [(0, .ref 2), (1, .int p1), (2, .int p2)] [.int (T_146 s p1 (s 2 9))] (N, hm_sh L g, s) _ Q
  exact hm_st hR ⟨fun z => absurd z (by decide), hq⟩
def T_63_20 (O : hm_St → Int64 → Int64 → Int32 → Int64) : Nat → hm_St → Int64 → Int64 → Int32 → Int32 → Int64
  | 0, s, _, _, _, _ => 0
  | n + 1, s, v1, v3, v5, v6 => (if 6 ≤ v6 then (O s v1 v3 (v5 + 1)) else (T_63_20 O n s v1 (T_60 s v3 (((T_54 s v5 v6)).toInt64)) v5 (v6 + 1)))
def T_63_5 : Nat → hm_St → Int64 → Int64 → Int32 → Int64
  | 0, s, _, _, _ => 0
  | n + 1, s, v1, v3, v5 => (if (T_133 s) ≤ v5 then v3 else (T_63_20 (fun s v1 v3 v5 => T_63_5 n s v1 v3 v5) (hm_df 6 0 + 1) s v1 v3 v5 0))
/-- CurvekeyHouse.mixPages(J)J -/
def T_63 (s : hm_St) (p1 : Int64) : Int64 := (T_63_5 (hm_df (T_133 s) 0 + 1) s p1 p1 0)
set_option maxRecDepth 20000 in
theorem lp_63_20 {R : hm_R} (hR : hm_Cm R) {N L : Nat} {g : Nat → hm_Sh} {b : hm_B} {Q : hm_Q} (hN : 68 ≤ N) {O : hm_St → Int64 → Int64 → Int32 → Int64} {nO : Nat} (hO : ∀ (s : hm_St) (v1 : Int64) (v3 : Int64) (v5 : Int32), hm_df (T_133 s) v5 < nO → (Q (.inr (some (.long (O s v1 v3 v5)))) (N, hm_sh L g, s)) → R 63 5 [(5, .int v5), (3, .long v3), (0, .ref 2), (1, .long v1)] [] (N, hm_sh L g, s) b Q) : ∀ (n : Nat) (s : hm_St) (v1 : Int64) (v3 : Int64) (v5 : Int32) (v6 : Int32), hm_df 6 v6 < n → (hPO : hm_df (T_133 s) (v5 + 1) < nO) → (hq : Q (.inr (some (.long (T_63_20 O n s v1 v3 v5 v6)))) (N, hm_sh L g, s)) → R 63 20 [(6, .int v6), (5, .int v5), (3, .long v3), (0, .ref 2), (1, .long v1)] [] (N, hm_sh L g, s) b Q := by
  intro n
  induction n with
  | zero => intro s v1 v3 v5 v6 hm hPO _; exact absurd hm (Nat.not_lt_zero _)
  | succ n ih =>
    intro s v1 v3 v5 v6 hm hPO hq
    unfold T_63_20 at hq
    refine hm_st hR (hm_st hR (?_))
    show R 63 24 [(6, .int v6), (5, .int v5), (3, .long v3), (0, .ref 2), (1, .long v1)] [.int 6, .int v6] (N, hm_sh L g, s) _ Q
    refine hm_st hR ⟨fun c24 => ?_, fun c24 => ?_⟩
    · rw [if_pos c24] at hq
      show R 63 47 [(6, .int v6), (5, .int v5), (3, .long v3), (0, .ref 2), (1, .long v1)] [] (N, hm_sh L g, s) _ Q
      refine hm_st hR (hm_st hR (?_))
      show R 63 5 [(5, .int (v5 + 1)), (6, .int v6), (3, .long v3), (0, .ref 2), (1, .long v1)] [] (N, hm_sh L g, s) _ Q
      exact hm_lvS hR (by intro q hq; simp only [List.mem_cons, List.not_mem_nil, or_false] at hq ⊢; rcases hq with rfl | rfl | rfl | rfl <;> simp) (hO s v1 v3 (v5 + 1) hPO hq)
    · rw [if_neg c24] at hq
      show R 63 27 [(6, .int v6), (5, .int v5), (3, .long v3), (0, .ref 2), (1, .long v1)] [] (N, hm_sh L g, s) _ Q
      refine hm_st hR (hm_st hR (hm_st hR (hm_st hR (?_))))
      refine hm_st hR ⟨hm_le rfl, rfl, (hm_le rfl), (hm_ltN hN rfl), hm_le rfl, hm_le rfl, (0, 0), Nat.zero_le _, Nat.zero_le _, ?_⟩
      refine sp_54 hR hN ?_
      show R 63 36 [(6, .int v6), (5, .int v5), (3, .long v3), (0, .ref 2), (1, .long v1)] [.int (T_54 s v5 v6), .long v3] (N, hm_sh L g, s) _ Q
      refine hm_st hR (?_)
      refine hm_st hR ⟨hm_le rfl, hm_le rfl, hm_le rfl, (0, 0), Nat.zero_le _, Nat.zero_le _, ?_⟩
      refine sp_60 hR hN ?_
      show R 63 40 [(6, .int v6), (5, .int v5), (3, .long v3), (0, .ref 2), (1, .long v1)] [.long (T_60 s v3 (((T_54 s v5 v6)).toInt64))] (N, hm_sh L g, s) _ Q
      refine hm_st hR (hm_st hR (hm_st hR (?_)))
      show R 63 20 [(6, .int (v6 + 1)), (3, .long (T_60 s v3 (((T_54 s v5 v6)).toInt64))), (5, .int v5), (0, .ref 2), (1, .long v1)] [] (N, hm_sh L g, s) _ Q
      exact hm_lvS hR (by intro q hq; simp only [List.mem_cons, List.not_mem_nil, or_false] at hq ⊢; rcases hq with rfl | rfl | rfl | rfl | rfl <;> simp) (ih s v1 (T_60 s v3 (((T_54 s v5 v6)).toInt64)) v5 (v6 + 1) (hm_dcx c24 hm) hPO hq)
set_option maxRecDepth 20000 in
theorem lp_63_5 {R : hm_R} (hR : hm_Cm R) {N L : Nat} {g : Nat → hm_Sh} {b : hm_B} {Q : hm_Q} (hN : 68 ≤ N) : ∀ (n : Nat) (s : hm_St) (v1 : Int64) (v3 : Int64) (v5 : Int32), hm_df (T_133 s) v5 < n → (hq : Q (.inr (some (.long (T_63_5 n s v1 v3 v5)))) (N, hm_sh L g, s)) → R 63 5 [(5, .int v5), (3, .long v3), (0, .ref 2), (1, .long v1)] [] (N, hm_sh L g, s) b Q := by
  intro n
  induction n with
  | zero => intro s v1 v3 v5 hm _; exact absurd hm (Nat.not_lt_zero _)
  | succ n ih =>
    intro s v1 v3 v5 hm hq
    unfold T_63_5 at hq
    refine hm_st hR (hm_st hR (hm_st hR ⟨rfl, hm_le rfl, (hm_ltN hN rfl), ?_⟩))
    refine hm_st hR ⟨hm_le rfl, rfl, (hm_le rfl), (hm_ltN hN rfl), hm_le rfl, hm_le rfl, (0, 0), Nat.zero_le _, Nat.zero_le _, ?_⟩
    refine sp_133 hR hN ?_
    show R 63 14 [(5, .int v5), (3, .long v3), (0, .ref 2), (1, .long v1)] [.int (T_133 s), .int v5] (N, hm_sh L g, s) _ Q
    show R 63 14 [(5, .int v5), (3, .long v3), (0, .ref 2), (1, .long v1)] [.int (T_133 s), .int v5] (N, hm_sh L g, s) _ Q
    refine hm_st hR ⟨fun c14 => ?_, fun c14 => ?_⟩
    · rw [if_pos c14] at hq
      show R 63 53 [(5, .int v5), (3, .long v3), (0, .ref 2), (1, .long v1)] [] (N, hm_sh L g, s) _ Q
      refine hm_st hR (?_)
      exact hm_st hR hq
    · rw [if_neg c14] at hq
      show R 63 17 [(5, .int v5), (3, .long v3), (0, .ref 2), (1, .long v1)] [] (N, hm_sh L g, s) _ Q
      refine hm_st hR (hm_st hR (?_))
      show R 63 20 [(6, .int 0), (5, .int v5), (3, .long v3), (0, .ref 2), (1, .long v1)] [] (N, hm_sh L g, s) _ Q
      exact lp_63_20 hR hN (O := (fun s v1 v3 v5 => T_63_5 n s v1 v3 v5)) (nO := n) (fun s v1 v3 v5 hm hq => ih s v1 v3 v5 hm hq) _ _ _ _ _ _ (Nat.lt_succ_self _) (hm_dcx c14 hm) hq
set_option maxRecDepth 20000 in
theorem sp_63 {R : hm_R} (hR : hm_Cm R) {N L : Nat} {g : Nat → hm_Sh} {s : hm_St} {b : hm_B} {Q : hm_Q} (hN : 68 ≤ N) {p1 : Int64} (hq : Q (.inr (some (.long (T_63 s p1)))) (N, hm_sh L g, s)) : R 63 0 (lv_args 0 [.ref 2, .long p1]) [] (N, hm_sh L g, s) b Q := by
  unfold T_63 at hq
  show R 63 0 [(0, .ref 2), (1, .long p1)] [] (N, hm_sh L g, s) _ Q
  refine hm_st hR (hm_st hR (hm_st hR (hm_st hR (?_))))
  show R 63 5 [(5, .int 0), (3, .long p1), (0, .ref 2), (1, .long p1)] [] (N, hm_sh L g, s) _ Q
  exact lp_63_5 hR hN _ _ _ _ _ (Nat.lt_succ_self _) hq
/-- CurvekeyHouse$Points.farFrom(III)I -/
def T_172 (s : hm_St) (p1 : Int32) (p2 : Int32) (p3 : Int32) : Int32 := ((((T_161 s p1) - p2) * ((T_161 s p1) - p2)) + (((T_162 s p1) - p3) * ((T_162 s p1) - p3)))
set_option maxRecDepth 20000 in
theorem sp_172 {R : hm_R} (hR : hm_Cm R) {N L : Nat} {g : Nat → hm_Sh} {s : hm_St} {b : hm_B} {Q : hm_Q} (hN : 68 ≤ N) {p1 : Int32} {p2 : Int32} {p3 : Int32} (hq : Q (.inr (some (.int (T_172 s p1 p2 p3)))) (N, hm_sh L g, s)) : R 172 0 (lv_args 0 [.ref 14, .int p1, .int p2, .int p3]) [] (N, hm_sh L g, s) b Q := by
  unfold T_172 at hq
  show R 172 0 [(0, .ref 14), (1, .int p1), (2, .int p2), (3, .int p3)] [] (N, hm_sh L g, s) _ Q
  refine hm_st hR (hm_st hR (?_))
  refine hm_st hR ⟨hm_le rfl, rfl, (hm_le rfl), (hm_ltN hN rfl), hm_le rfl, hm_le rfl, (0, 0), Nat.zero_le _, Nat.zero_le _, ?_⟩
  refine sp_161 hR hN ?_
  show R 172 5 [(0, .ref 14), (1, .int p1), (2, .int p2), (3, .int p3)] [.int (T_161 s p1)] (N, hm_sh L g, s) _ Q
  refine hm_st hR (hm_st hR (hm_st hR (hm_st hR (hm_st hR (?_)))))
  refine hm_st hR ⟨hm_le rfl, rfl, (hm_le rfl), (hm_ltN hN rfl), hm_le rfl, hm_le rfl, (0, 0), Nat.zero_le _, Nat.zero_le _, ?_⟩
  refine sp_162 hR hN ?_
  show R 172 14 [(4, .int ((T_161 s p1) - p2)), (0, .ref 14), (1, .int p1), (2, .int p2), (3, .int p3)] [.int (T_162 s p1)] (N, hm_sh L g, s) _ Q
  refine hm_st hR (hm_st hR (hm_st hR (hm_st hR (hm_st hR (hm_st hR (hm_st hR (hm_st hR (hm_st hR (hm_st hR (?_))))))))))
  exact hm_st hR ⟨fun z => absurd z (by decide), hq⟩
/-- CurvekeyHouse$Points.isPair(II)Z -/
def T_175 (s : hm_St) (p1 : Int32) (p2 : Int32) : Int32 := (if (T_160 s p1) = 0 then 0 else (if (T_160 s p2) = 0 then 0 else 1))
theorem B_175 (s : hm_St) (p1 : Int32) (p2 : Int32) : T_175 s p1 p2 = 0 ∨ T_175 s p1 p2 = 1 := by
  unfold T_175
  repeat' split
  all_goals first | exact Or.inl rfl | exact Or.inr rfl | exact B_160 _ _
set_option maxRecDepth 20000 in
theorem sp_175 {R : hm_R} (hR : hm_Cm R) {N L : Nat} {g : Nat → hm_Sh} {s : hm_St} {b : hm_B} {Q : hm_Q} (hN : 68 ≤ N) {p1 : Int32} {p2 : Int32} (hq : Q (.inr (some (.int (T_175 s p1 p2)))) (N, hm_sh L g, s)) : R 175 0 (lv_args 0 [.ref 14, .int p1, .int p2]) [] (N, hm_sh L g, s) b Q := by
  unfold T_175 at hq
  show R 175 0 [(0, .ref 14), (1, .int p1), (2, .int p2)] [] (N, hm_sh L g, s) _ Q
  refine hm_st hR (hm_st hR (?_))
  refine hm_st hR ⟨hm_le rfl, rfl, (hm_le rfl), (hm_ltN hN rfl), hm_le rfl, hm_le rfl, (0, 0), Nat.zero_le _, Nat.zero_le _, ?_⟩
  refine sp_160 hR hN ?_
  show R 175 5 [(0, .ref 14), (1, .int p1), (2, .int p2)] [.int (T_160 s p1)] (N, hm_sh L g, s) _ Q
  show R 175 5 [(0, .ref 14), (1, .int p1), (2, .int p2)] [.int (T_160 s p1)] (N, hm_sh L g, s) _ Q
  refine hm_st hR ⟨fun c5 => ?_, fun c5 => ?_⟩
  · rw [if_pos c5] at hq
    show R 175 20 [(0, .ref 14), (1, .int p1), (2, .int p2)] [] (N, hm_sh L g, s) _ Q
    refine hm_st hR (?_)
    exact hm_st hR ⟨fun _ => Or.inl rfl, hq⟩
  · rw [if_neg c5] at hq
    show R 175 8 [(0, .ref 14), (1, .int p1), (2, .int p2)] [] (N, hm_sh L g, s) _ Q
    refine hm_st hR (hm_st hR (?_))
    refine hm_st hR ⟨hm_le rfl, rfl, (hm_le rfl), (hm_ltN hN rfl), hm_le rfl, hm_le rfl, (0, 0), Nat.zero_le _, Nat.zero_le _, ?_⟩
    refine sp_160 hR hN ?_
    show R 175 13 [(0, .ref 14), (1, .int p1), (2, .int p2)] [.int (T_160 s p2)] (N, hm_sh L g, s) _ Q
    show R 175 13 [(0, .ref 14), (1, .int p1), (2, .int p2)] [.int (T_160 s p2)] (N, hm_sh L g, s) _ Q
    suffices G : R 175 21 [(0, .ref 14), (1, .int p1), (2, .int p2)] [.int (if (T_160 s p2) = 0 then 0 else 1)] (N, hm_sh L g, s) ((b.1 - 0, b.2 - 0).1 - 0, (b.1 - 0, b.2 - 0).2 - 0) Q by
      show R 175 13 [(0, .ref 14), (1, .int p1), (2, .int p2)] [.int (T_160 s p2)] (N, hm_sh L g, s) _ Q
      refine hm_st hR ⟨fun c => ?_, fun c => ?_⟩
      · rw [if_pos c] at G; exact hm_st hR (G)
      · rw [if_neg c] at G; exact hm_st hR (hm_st hR (G))
    exact hm_st hR ⟨fun _ => (by split <;> first | exact Or.inl rfl | exact Or.inr rfl), hq⟩
def T_176_15 (O : hm_St → Int32 → Int32 → Int32 → Int32) : Nat → hm_St → Int32 → Int32 → Int32 → Int32 → Int32
  | 0, s, _, _, _, _ => 0
  | n + 1, s, v1, v2, v3, v4 => (if v3 ≤ v4 then (O s v1 v2 (v3 + 1)) else (if (T_175 s v3 v4) = 0 then (T_176_15 O n s v1 v2 v3 (v4 + 1)) else (if v2 = (-1) then (T_176_15 O n s v1 (T_172 s v3 (T_161 s v4) (T_162 s v4)) v3 (v4 + 1)) else (if v1 = 0 then (if v2 ≤ (T_172 s v3 (T_161 s v4) (T_162 s v4)) then (T_176_15 O n s v1 v2 v3 (v4 + 1)) else (T_176_15 O n s v1 (T_172 s v3 (T_161 s v4) (T_162 s v4)) v3 (v4 + 1))) else (if (T_172 s v3 (T_161 s v4) (T_162 s v4)) ≤ v2 then (T_176_15 O n s v1 v2 v3 (v4 + 1)) else (T_176_15 O n s v1 (T_172 s v3 (T_161 s v4) (T_162 s v4)) v3 (v4 + 1)))))))
def T_176_4 : Nat → hm_St → Int32 → Int32 → Int32 → Int32
  | 0, s, _, _, _ => 0
  | n + 1, s, v1, v2, v3 => (if (s 14 5) ≤ v3 then v2 else (T_176_15 (fun s v1 v2 v3 => T_176_4 n s v1 v2 v3) (hm_df v3 0 + 1) s v1 v2 v3 0))
/-- CurvekeyHouse$Points.extremeFar(Z)I -/
def T_176 (s : hm_St) (p1 : Int32) : Int32 := (T_176_4 (hm_df (s 14 5) 0 + 1) s p1 (-1) 0)
set_option maxRecDepth 20000 in
theorem lp_176_15 {R : hm_R} (hR : hm_Cm R) {N L : Nat} {g : Nat → hm_Sh} {b : hm_B} {Q : hm_Q} (hN : 68 ≤ N) {O : hm_St → Int32 → Int32 → Int32 → Int32} {nO : Nat} (hO : ∀ (s : hm_St) (v1 : Int32) (v2 : Int32) (v3 : Int32), hm_df (s 14 5) v3 < nO → (Q (.inr (some (.int (O s v1 v2 v3)))) (N, hm_sh L g, s)) → R 176 4 [(3, .int v3), (2, .int v2), (0, .ref 14), (1, .int v1)] [] (N, hm_sh L g, s) b Q) : ∀ (n : Nat) (s : hm_St) (v1 : Int32) (v2 : Int32) (v3 : Int32) (v4 : Int32), hm_df v3 v4 < n → (hPO : hm_df (s 14 5) (v3 + 1) < nO) → (hq : Q (.inr (some (.int (T_176_15 O n s v1 v2 v3 v4)))) (N, hm_sh L g, s)) → R 176 15 [(4, .int v4), (3, .int v3), (2, .int v2), (0, .ref 14), (1, .int v1)] [] (N, hm_sh L g, s) b Q := by
  intro n
  induction n with
  | zero => intro s v1 v2 v3 v4 hm hPO _; exact absurd hm (Nat.not_lt_zero _)
  | succ n ih =>
    intro s v1 v2 v3 v4 hm hPO hq
    unfold T_176_15 at hq
    refine hm_st hR (hm_st hR (?_))
    show R 176 18 [(4, .int v4), (3, .int v3), (2, .int v2), (0, .ref 14), (1, .int v1)] [.int v3, .int v4] (N, hm_sh L g, s) _ Q
    refine hm_st hR ⟨fun c18 => ?_, fun c18 => ?_⟩
    · rw [if_pos c18] at hq
      show R 176 83 [(4, .int v4), (3, .int v3), (2, .int v2), (0, .ref 14), (1, .int v1)] [] (N, hm_sh L g, s) _ Q
      refine hm_st hR (hm_st hR (?_))
      show R 176 4 [(3, .int (v3 + 1)), (4, .int v4), (2, .int v2), (0, .ref 14), (1, .int v1)] [] (N, hm_sh L g, s) _ Q
      exact hm_lvS hR (by intro q hq; simp only [List.mem_cons, List.not_mem_nil, or_false] at hq ⊢; rcases hq with rfl | rfl | rfl | rfl <;> simp) (hO s v1 v2 (v3 + 1) hPO hq)
    · rw [if_neg c18] at hq
      show R 176 21 [(4, .int v4), (3, .int v3), (2, .int v2), (0, .ref 14), (1, .int v1)] [] (N, hm_sh L g, s) _ Q
      refine hm_st hR (hm_st hR (hm_st hR (hm_st hR (?_))))
      refine hm_st hR ⟨hm_le rfl, rfl, (hm_le rfl), (hm_ltN hN rfl), hm_le rfl, hm_le rfl, (0, 0), Nat.zero_le _, Nat.zero_le _, ?_⟩
      refine sp_161 hR hN ?_
      show R 176 29 [(4, .int v4), (3, .int v3), (2, .int v2), (0, .ref 14), (1, .int v1)] [.int (T_161 s v4), .int v3, .ref 14] (N, hm_sh L g, s) _ Q
      refine hm_st hR (hm_st hR (?_))
      refine hm_st hR ⟨hm_le rfl, rfl, (hm_le rfl), (hm_ltN hN rfl), hm_le rfl, hm_le rfl, (0, 0), Nat.zero_le _, Nat.zero_le _, ?_⟩
      refine sp_162 hR hN ?_
      show R 176 35 [(4, .int v4), (3, .int v3), (2, .int v2), (0, .ref 14), (1, .int v1)] [.int (T_162 s v4), .int (T_161 s v4), .int v3, .ref 14] (N, hm_sh L g, s) _ Q
      refine hm_st hR ⟨hm_le rfl, rfl, (hm_le rfl), (hm_ltN hN rfl), hm_le rfl, hm_le rfl, (0, 0), Nat.zero_le _, Nat.zero_le _, ?_⟩
      refine sp_172 hR hN ?_
      show R 176 38 [(4, .int v4), (3, .int v3), (2, .int v2), (0, .ref 14), (1, .int v1)] [.int (T_172 s v3 (T_161 s v4) (T_162 s v4))] (N, hm_sh L g, s) _ Q
      refine hm_st hR (hm_st hR (hm_st hR (hm_st hR (?_))))
      refine hm_st hR ⟨hm_le rfl, rfl, (hm_le rfl), (hm_ltN hN rfl), hm_le rfl, hm_le rfl, (0, 0), Nat.zero_le _, Nat.zero_le _, ?_⟩
      refine sp_175 hR hN ?_
      show R 176 47 [(5, .int (T_172 s v3 (T_161 s v4) (T_162 s v4))), (4, .int v4), (3, .int v3), (2, .int v2), (0, .ref 14), (1, .int v1)] [.int (T_175 s v3 v4)] (N, hm_sh L g, s) _ Q
      show R 176 47 [(5, .int (T_172 s v3 (T_161 s v4) (T_162 s v4))), (4, .int v4), (3, .int v3), (2, .int v2), (0, .ref 14), (1, .int v1)] [.int (T_175 s v3 v4)] (N, hm_sh L g, s) _ Q
      refine hm_st hR ⟨fun c47 => ?_, fun c47 => ?_⟩
      · rw [if_pos c47] at hq
        show R 176 77 [(5, .int (T_172 s v3 (T_161 s v4) (T_162 s v4))), (4, .int v4), (3, .int v3), (2, .int v2), (0, .ref 14), (1, .int v1)] [] (N, hm_sh L g, s) _ Q
        refine hm_st hR (hm_st hR (?_))
        show R 176 15 [(4, .int (v4 + 1)), (5, .int (T_172 s v3 (T_161 s v4) (T_162 s v4))), (3, .int v3), (2, .int v2), (0, .ref 14), (1, .int v1)] [] (N, hm_sh L g, s) _ Q
        exact hm_lvS hR (by intro q hq; simp only [List.mem_cons, List.not_mem_nil, or_false] at hq ⊢; rcases hq with rfl | rfl | rfl | rfl | rfl <;> simp) (ih s v1 v2 v3 (v4 + 1) (hm_dcx c18 hm) hPO hq)
      · rw [if_neg c47] at hq
        show R 176 50 [(5, .int (T_172 s v3 (T_161 s v4) (T_162 s v4))), (4, .int v4), (3, .int v3), (2, .int v2), (0, .ref 14), (1, .int v1)] [] (N, hm_sh L g, s) _ Q
        refine hm_st hR (hm_st hR (?_))
        show R 176 52 [(5, .int (T_172 s v3 (T_161 s v4) (T_162 s v4))), (4, .int v4), (3, .int v3), (2, .int v2), (0, .ref 14), (1, .int v1)] [.int (-1), .int v2] (N, hm_sh L g, s) _ Q
        refine hm_st hR ⟨fun c52 => ?_, fun c52 => ?_⟩
        · rw [if_pos c52] at hq
          show R 176 74 [(5, .int (T_172 s v3 (T_161 s v4) (T_162 s v4))), (4, .int v4), (3, .int v3), (2, .int v2), (0, .ref 14), (1, .int v1)] [] (N, hm_sh L g, s) _ Q
          refine hm_st hR (hm_st hR (hm_st hR (hm_st hR (?_))))
          show R 176 15 [(4, .int (v4 + 1)), (2, .int (T_172 s v3 (T_161 s v4) (T_162 s v4))), (5, .int (T_172 s v3 (T_161 s v4) (T_162 s v4))), (3, .int v3), (0, .ref 14), (1, .int v1)] [] (N, hm_sh L g, s) _ Q
          exact hm_lvS hR (by intro q hq; simp only [List.mem_cons, List.not_mem_nil, or_false] at hq ⊢; rcases hq with rfl | rfl | rfl | rfl | rfl <;> simp) (ih s v1 (T_172 s v3 (T_161 s v4) (T_162 s v4)) v3 (v4 + 1) (hm_dcx c18 hm) hPO hq)
        · rw [if_neg c52] at hq
          show R 176 55 [(5, .int (T_172 s v3 (T_161 s v4) (T_162 s v4))), (4, .int v4), (3, .int v3), (2, .int v2), (0, .ref 14), (1, .int v1)] [] (N, hm_sh L g, s) _ Q
          refine hm_st hR (?_)
          show R 176 56 [(5, .int (T_172 s v3 (T_161 s v4) (T_162 s v4))), (4, .int v4), (3, .int v3), (2, .int v2), (0, .ref 14), (1, .int v1)] [.int v1] (N, hm_sh L g, s) _ Q
          refine hm_st hR ⟨fun c56 => ?_, fun c56 => ?_⟩
          · rw [if_pos c56] at hq
            show R 176 68 [(5, .int (T_172 s v3 (T_161 s v4) (T_162 s v4))), (4, .int v4), (3, .int v3), (2, .int v2), (0, .ref 14), (1, .int v1)] [] (N, hm_sh L g, s) _ Q
            refine hm_st hR (hm_st hR (?_))
            show R 176 71 [(5, .int (T_172 s v3 (T_161 s v4) (T_162 s v4))), (4, .int v4), (3, .int v3), (2, .int v2), (0, .ref 14), (1, .int v1)] [.int v2, .int (T_172 s v3 (T_161 s v4) (T_162 s v4))] (N, hm_sh L g, s) _ Q
            refine hm_st hR ⟨fun c71 => ?_, fun c71 => ?_⟩
            · rw [if_pos c71] at hq
              show R 176 77 [(5, .int (T_172 s v3 (T_161 s v4) (T_162 s v4))), (4, .int v4), (3, .int v3), (2, .int v2), (0, .ref 14), (1, .int v1)] [] (N, hm_sh L g, s) _ Q
              refine hm_st hR (hm_st hR (?_))
              show R 176 15 [(4, .int (v4 + 1)), (5, .int (T_172 s v3 (T_161 s v4) (T_162 s v4))), (3, .int v3), (2, .int v2), (0, .ref 14), (1, .int v1)] [] (N, hm_sh L g, s) _ Q
              exact hm_lvS hR (by intro q hq; simp only [List.mem_cons, List.not_mem_nil, or_false] at hq ⊢; rcases hq with rfl | rfl | rfl | rfl | rfl <;> simp) (ih s v1 v2 v3 (v4 + 1) (hm_dcx c18 hm) hPO hq)
            · rw [if_neg c71] at hq
              show R 176 74 [(5, .int (T_172 s v3 (T_161 s v4) (T_162 s v4))), (4, .int v4), (3, .int v3), (2, .int v2), (0, .ref 14), (1, .int v1)] [] (N, hm_sh L g, s) _ Q
              refine hm_st hR (hm_st hR (hm_st hR (hm_st hR (?_))))
              show R 176 15 [(4, .int (v4 + 1)), (2, .int (T_172 s v3 (T_161 s v4) (T_162 s v4))), (5, .int (T_172 s v3 (T_161 s v4) (T_162 s v4))), (3, .int v3), (0, .ref 14), (1, .int v1)] [] (N, hm_sh L g, s) _ Q
              exact hm_lvS hR (by intro q hq; simp only [List.mem_cons, List.not_mem_nil, or_false] at hq ⊢; rcases hq with rfl | rfl | rfl | rfl | rfl <;> simp) (ih s v1 (T_172 s v3 (T_161 s v4) (T_162 s v4)) v3 (v4 + 1) (hm_dcx c18 hm) hPO hq)
          · rw [if_neg c56] at hq
            show R 176 59 [(5, .int (T_172 s v3 (T_161 s v4) (T_162 s v4))), (4, .int v4), (3, .int v3), (2, .int v2), (0, .ref 14), (1, .int v1)] [] (N, hm_sh L g, s) _ Q
            refine hm_st hR (hm_st hR (?_))
            show R 176 62 [(5, .int (T_172 s v3 (T_161 s v4) (T_162 s v4))), (4, .int v4), (3, .int v3), (2, .int v2), (0, .ref 14), (1, .int v1)] [.int v2, .int (T_172 s v3 (T_161 s v4) (T_162 s v4))] (N, hm_sh L g, s) _ Q
            refine hm_st hR ⟨fun c62 => ?_, fun c62 => ?_⟩
            · rw [if_pos c62] at hq
              show R 176 77 [(5, .int (T_172 s v3 (T_161 s v4) (T_162 s v4))), (4, .int v4), (3, .int v3), (2, .int v2), (0, .ref 14), (1, .int v1)] [] (N, hm_sh L g, s) _ Q
              refine hm_st hR (hm_st hR (?_))
              show R 176 15 [(4, .int (v4 + 1)), (5, .int (T_172 s v3 (T_161 s v4) (T_162 s v4))), (3, .int v3), (2, .int v2), (0, .ref 14), (1, .int v1)] [] (N, hm_sh L g, s) _ Q
              exact hm_lvS hR (by intro q hq; simp only [List.mem_cons, List.not_mem_nil, or_false] at hq ⊢; rcases hq with rfl | rfl | rfl | rfl | rfl <;> simp) (ih s v1 v2 v3 (v4 + 1) (hm_dcx c18 hm) hPO hq)
            · rw [if_neg c62] at hq
              show R 176 65 [(5, .int (T_172 s v3 (T_161 s v4) (T_162 s v4))), (4, .int v4), (3, .int v3), (2, .int v2), (0, .ref 14), (1, .int v1)] [] (N, hm_sh L g, s) _ Q
              refine hm_st hR (hm_st hR (hm_st hR (hm_st hR (hm_st hR (?_)))))
              show R 176 15 [(4, .int (v4 + 1)), (2, .int (T_172 s v3 (T_161 s v4) (T_162 s v4))), (5, .int (T_172 s v3 (T_161 s v4) (T_162 s v4))), (3, .int v3), (0, .ref 14), (1, .int v1)] [] (N, hm_sh L g, s) _ Q
              exact hm_lvS hR (by intro q hq; simp only [List.mem_cons, List.not_mem_nil, or_false] at hq ⊢; rcases hq with rfl | rfl | rfl | rfl | rfl <;> simp) (ih s v1 (T_172 s v3 (T_161 s v4) (T_162 s v4)) v3 (v4 + 1) (hm_dcx c18 hm) hPO hq)
set_option maxRecDepth 20000 in
theorem lp_176_4 {R : hm_R} (hR : hm_Cm R) {N L : Nat} {g : Nat → hm_Sh} {b : hm_B} {Q : hm_Q} (hN : 68 ≤ N) : ∀ (n : Nat) (s : hm_St) (v1 : Int32) (v2 : Int32) (v3 : Int32), hm_df (s 14 5) v3 < n → (hq : Q (.inr (some (.int (T_176_4 n s v1 v2 v3)))) (N, hm_sh L g, s)) → R 176 4 [(3, .int v3), (2, .int v2), (0, .ref 14), (1, .int v1)] [] (N, hm_sh L g, s) b Q := by
  intro n
  induction n with
  | zero => intro s v1 v2 v3 hm _; exact absurd hm (Nat.not_lt_zero _)
  | succ n ih =>
    intro s v1 v2 v3 hm hq
    unfold T_176_4 at hq
    refine hm_st hR (hm_st hR (hm_st hR ⟨rfl, hm_le rfl, (hm_ltN hN rfl), ?_⟩))
    show R 176 9 [(3, .int v3), (2, .int v2), (0, .ref 14), (1, .int v1)] [.int (s 14 5), .int v3] (N, hm_sh L g, s) _ Q
    refine hm_st hR ⟨fun c9 => ?_, fun c9 => ?_⟩
    · rw [if_pos c9] at hq
      show R 176 89 [(3, .int v3), (2, .int v2), (0, .ref 14), (1, .int v1)] [] (N, hm_sh L g, s) _ Q
      refine hm_st hR (?_)
      exact hm_st hR ⟨fun z => absurd z (by decide), hq⟩
    · rw [if_neg c9] at hq
      show R 176 12 [(3, .int v3), (2, .int v2), (0, .ref 14), (1, .int v1)] [] (N, hm_sh L g, s) _ Q
      refine hm_st hR (hm_st hR (?_))
      show R 176 15 [(4, .int 0), (3, .int v3), (2, .int v2), (0, .ref 14), (1, .int v1)] [] (N, hm_sh L g, s) _ Q
      exact lp_176_15 hR hN (O := (fun s v1 v2 v3 => T_176_4 n s v1 v2 v3)) (nO := n) (fun s v1 v2 v3 hm hq => ih s v1 v2 v3 hm hq) _ _ _ _ _ _ (Nat.lt_succ_self _) (hm_dcx c9 hm) hq
set_option maxRecDepth 20000 in
theorem sp_176 {R : hm_R} (hR : hm_Cm R) {N L : Nat} {g : Nat → hm_Sh} {s : hm_St} {b : hm_B} {Q : hm_Q} (hN : 68 ≤ N) {p1 : Int32} (hq : Q (.inr (some (.int (T_176 s p1)))) (N, hm_sh L g, s)) : R 176 0 (lv_args 0 [.ref 14, .int p1]) [] (N, hm_sh L g, s) b Q := by
  unfold T_176 at hq
  show R 176 0 [(0, .ref 14), (1, .int p1)] [] (N, hm_sh L g, s) _ Q
  refine hm_st hR (hm_st hR (hm_st hR (hm_st hR (?_))))
  show R 176 4 [(3, .int 0), (2, .int (-1)), (0, .ref 14), (1, .int p1)] [] (N, hm_sh L g, s) _ Q
  exact lp_176_4 hR hN _ _ _ _ _ (Nat.lt_succ_self _) hq
/-- CurvekeyHouse$Pages.keyCount()I -/
def T_137 (s : hm_St) : Int32 := (s 42 2)
set_option maxRecDepth 20000 in
theorem sp_137 {R : hm_R} (hR : hm_Cm R) {N L : Nat} {g : Nat → hm_Sh} {s : hm_St} {b : hm_B} {Q : hm_Q} (hN : 68 ≤ N) (hq : Q (.inr (some (.int (T_137 s)))) (N, hm_sh L g, s)) : R 137 0 (lv_args 0 [.ref 42]) [] (N, hm_sh L g, s) b Q := by
  unfold T_137 at hq
  show R 137 0 [(0, .ref 42)] [] (N, hm_sh L g, s) _ Q
  refine hm_st hR (hm_st hR ⟨rfl, hm_le rfl, (hm_ltN hN rfl), ?_⟩)
  exact hm_st hR ⟨fun z => absurd z (by decide), hq⟩
def T_124_7 : Nat → hm_St → Int32 → hm_St
  | 0, s, _ => s
  | n + 1, s, v2 => (if (T_137 s) ≤ v2 then s else (if (T_140 s v2) = (-1) then (T_124_7 n s (v2 + 1)) else (T_124_7 n (hm_w1 (T_179 s 66 80 (s 64 1) v2) 64 1 (((T_179 s 66 80 (s 64 1) v2) 64 1) + 1)) (v2 + 1))))
/-- CurvekeyHouse$Line.take(LCurvekeyHouse$Pages;)V -/
def T_124 (s : hm_St) : hm_St := (T_124_7 (hm_df (T_137 (hm_w1 s 64 1 0)) 0 + 1) (hm_w1 s 64 1 0) 0)
theorem N_124_7 {c j : Nat} (h64 : c ≠ 64) (h66 : c ≠ 66) : ∀ (n : Nat) (s : hm_St) (v0 : Int32), (T_124_7  n s v0) c j = s c j := by
  intro n
  induction n with
  | zero => intros; rfl
  | succ n ih =>
    intros
    unfold T_124_7
    repeat' split
    all_goals first | rfl | simp only [ih, hm_w1n h64, hm_w1n h66, N_179 h64, N_179 h66]
theorem N_124 {c j : Nat} (h64 : c ≠ 64) (h66 : c ≠ 66) {s : hm_St} : (T_124 s) c j = s c j := by
  unfold T_124
  repeat' split
  all_goals first | rfl | simp only [hm_w1n h64, hm_w1n h66, N_179 h64, N_179 h66, N_124_7 h64 h66]
set_option maxRecDepth 20000 in
theorem lp_124_7 {R : hm_R} (hR : hm_Cm R) {N L : Nat} {g : Nat → hm_Sh} {b : hm_B} {Q : hm_Q} (hN : 68 ≤ N) : ∀ (n : Nat) (s : hm_St) (v2 : Int32), hm_df (T_137 s) v2 < n → (hq : Q (.inr none) (N, hm_sh L g, (T_124_7 n s v2))) → R 124 7 [(2, .int v2), (0, .ref 64), (1, .ref 42)] [] (N, hm_sh L g, s) b Q := by
  intro n
  induction n with
  | zero => intro s v2 hm _; exact absurd hm (Nat.not_lt_zero _)
  | succ n ih =>
    intro s v2 hm hq
    unfold T_124_7 at hq
    refine hm_st hR (hm_st hR (?_))
    refine hm_st hR ⟨hm_le rfl, rfl, (hm_le rfl), (hm_ltN hN rfl), hm_le rfl, hm_le rfl, (0, 0), Nat.zero_le _, Nat.zero_le _, ?_⟩
    refine sp_137 hR hN ?_
    show R 124 12 [(2, .int v2), (0, .ref 64), (1, .ref 42)] [.int (T_137 s), .int v2] (N, hm_sh L g, s) _ Q
    show R 124 12 [(2, .int v2), (0, .ref 64), (1, .ref 42)] [.int (T_137 s), .int v2] (N, hm_sh L g, s) _ Q
    refine hm_st hR ⟨fun c12 => ?_, fun c12 => ?_⟩
    · rw [if_pos c12] at hq
      show R 124 52 [(2, .int v2), (0, .ref 64), (1, .ref 42)] [] (N, hm_sh L g, s) _ Q
      exact hm_st hR hq
    · rw [if_neg c12] at hq
      show R 124 15 [(2, .int v2), (0, .ref 64), (1, .ref 42)] [] (N, hm_sh L g, s) _ Q
      refine hm_st hR (hm_st hR (?_))
      refine hm_st hR ⟨hm_le rfl, rfl, (hm_le rfl), (hm_ltN hN rfl), hm_le rfl, hm_le rfl, (0, 0), Nat.zero_le _, Nat.zero_le _, ?_⟩
      refine sp_140 hR hN ?_
      show R 124 20 [(2, .int v2), (0, .ref 64), (1, .ref 42)] [.int (T_140 s v2)] (N, hm_sh L g, s) _ Q
      refine hm_st hR (?_)
      show R 124 21 [(2, .int v2), (0, .ref 64), (1, .ref 42)] [.int (-1), .int (T_140 s v2)] (N, hm_sh L g, s) _ Q
      refine hm_st hR ⟨fun c21 => ?_, fun c21 => ?_⟩
      · rw [if_pos c21] at hq
        show R 124 46 [(2, .int v2), (0, .ref 64), (1, .ref 42)] [] (N, hm_sh L g, s) _ Q
        refine hm_st hR (hm_st hR (?_))
        show R 124 7 [(2, .int (v2 + 1)), (0, .ref 64), (1, .ref 42)] [] (N, hm_sh L g, s) _ Q
        exact hm_lvS hR (by intro q hq; simp only [List.mem_cons, List.not_mem_nil, or_false] at hq ⊢; rcases hq with rfl | rfl | rfl <;> simp) (ih s (v2 + 1) (by first | exact hm_dcx c12 hm | exact hm_dcE (by simp only [T_137, hm_w1n (show (42 : Nat) ≠ 64 by decide), N_179 (show (42 : Nat) ≠ 64 by decide), hm_w1n (show (42 : Nat) ≠ 66 by decide), N_179 (show (42 : Nat) ≠ 66 by decide)]) (hm_dcx c12 hm)) hq)
      · rw [if_neg c21] at hq
        show R 124 24 [(2, .int v2), (0, .ref 64), (1, .ref 42)] [] (N, hm_sh L g, s) _ Q
        refine hm_st hR (hm_st hR ⟨rfl, hm_le rfl, (hm_ltN hN rfl), hm_st hR (hm_st hR ⟨rfl, hm_le rfl, (hm_ltN hN rfl), hm_st hR (?_)⟩)⟩)
        refine hm_st hR ⟨hm_le rfl, rfl, (hm_le rfl), (hm_ltN hN rfl), hm_le rfl, hm_le rfl, (0, 0), Nat.zero_le _, Nat.zero_le _, ?_⟩
        refine sp_179 hR hN (rr := 65) (aa := 66) (nn := 80) rfl rfl (hm_le rfl) (hm_ltN hN rfl) rfl rfl (hm_le rfl) (hm_ltN hN rfl) (by decide) ?_
        show R 124 36 [(2, .int v2), (0, .ref 64), (1, .ref 42)] [] (N, hm_sh L g, (T_179 s 66 80 (s 64 1) v2)) _ Q
        refine hm_st hR (hm_st hR ⟨rfl, hm_st hR ⟨rfl, hm_le rfl, (hm_ltN hN rfl), hm_st hR (hm_st hR (hm_st hR ⟨rfl, rfl, hm_le rfl, (hm_ltN hN rfl), ?_⟩))⟩⟩)
        show R 124 46 [(2, .int v2), (0, .ref 64), (1, .ref 42)] [] (N, hm_sh L g, (hm_w1 (T_179 s 66 80 (s 64 1) v2) 64 1 (((T_179 s 66 80 (s 64 1) v2) 64 1) + 1))) _ Q
        refine hm_st hR (hm_st hR (?_))
        show R 124 7 [(2, .int (v2 + 1)), (0, .ref 64), (1, .ref 42)] [] (N, hm_sh L g, (hm_w1 (T_179 s 66 80 (s 64 1) v2) 64 1 (((T_179 s 66 80 (s 64 1) v2) 64 1) + 1))) _ Q
        exact hm_lvS hR (by intro q hq; simp only [List.mem_cons, List.not_mem_nil, or_false] at hq ⊢; rcases hq with rfl | rfl | rfl <;> simp) (ih (hm_w1 (T_179 s 66 80 (s 64 1) v2) 64 1 (((T_179 s 66 80 (s 64 1) v2) 64 1) + 1)) (v2 + 1) (by first | exact hm_dcx c12 hm | exact hm_dcE (by simp only [T_137, hm_w1n (show (42 : Nat) ≠ 64 by decide), N_179 (show (42 : Nat) ≠ 64 by decide), hm_w1n (show (42 : Nat) ≠ 66 by decide), N_179 (show (42 : Nat) ≠ 66 by decide)]) (hm_dcx c12 hm)) hq)
set_option maxRecDepth 20000 in
theorem sp_124 {R : hm_R} (hR : hm_Cm R) {N L : Nat} {g : Nat → hm_Sh} {s : hm_St} {b : hm_B} {Q : hm_Q} (hN : 68 ≤ N) (hq : Q (.inr none) (N, hm_sh L g, (T_124 s))) : R 124 0 (lv_args 0 [.ref 64, .ref 42]) [] (N, hm_sh L g, s) b Q := by
  unfold T_124 at hq
  show R 124 0 [(0, .ref 64), (1, .ref 42)] [] (N, hm_sh L g, s) _ Q
  refine hm_st hR (hm_st hR (hm_st hR ⟨rfl, rfl, hm_le rfl, (hm_ltN hN rfl), ?_⟩))
  show R 124 5 [(0, .ref 64), (1, .ref 42)] [] (N, hm_sh L g, (hm_w1 s 64 1 0)) _ Q
  refine hm_st hR (hm_st hR (?_))
  show R 124 7 [(2, .int 0), (0, .ref 64), (1, .ref 42)] [] (N, hm_sh L g, (hm_w1 s 64 1 0)) _ Q
  exact lp_124_7 hR hN _ _ _ (Nat.lt_succ_self _) hq
/-- CurvekeyHouse$Line.guessOn(III)I -/
def T_129 (s : hm_St) (p1 : Int32) (p2 : Int32) (p3 : Int32) : Int32 := (if 0 < ((T_178 s 66 80 p2) - (T_178 s 66 80 p1)) then (p1 + (((p3 - (T_178 s 66 80 p1)) * (p2 - p1)) / ((T_178 s 66 80 p2) - (T_178 s 66 80 p1)))) else p1)
set_option maxRecDepth 20000 in
theorem sp_129 {R : hm_R} (hR : hm_Cm R) {N L : Nat} {g : Nat → hm_Sh} {s : hm_St} {b : hm_B} {Q : hm_Q} (hN : 68 ≤ N) {p1 : Int32} {p2 : Int32} {p3 : Int32} (hq : Q (.inr (some (.int (T_129 s p1 p2 p3)))) (N, hm_sh L g, s)) : R 129 0 (lv_args 0 [.ref 64, .int p1, .int p2, .int p3]) [] (N, hm_sh L g, s) b Q := by
  unfold T_129 at hq
  show R 129 0 [(0, .ref 64), (1, .int p1), (2, .int p2), (3, .int p3)] [] (N, hm_sh L g, s) _ Q
  refine hm_st hR (hm_st hR ⟨rfl, hm_le rfl, (hm_ltN hN rfl), hm_st hR (?_)⟩)
  refine hm_st hR ⟨hm_le rfl, rfl, (hm_le rfl), (hm_ltN hN rfl), hm_le rfl, hm_le rfl, (0, 0), Nat.zero_le _, Nat.zero_le _, ?_⟩
  refine sp_178 hR hN (rr := 65) (aa := 66) (nn := 80) rfl rfl (hm_le rfl) (hm_ltN hN rfl) rfl rfl (hm_le rfl) (hm_ltN hN rfl) (by decide) ?_
  show R 129 8 [(0, .ref 64), (1, .int p1), (2, .int p2), (3, .int p3)] [.int (T_178 s 66 80 p1)] (N, hm_sh L g, s) _ Q
  refine hm_st hR (hm_st hR (hm_st hR ⟨rfl, hm_le rfl, (hm_ltN hN rfl), hm_st hR (?_)⟩))
  refine hm_st hR ⟨hm_le rfl, rfl, (hm_le rfl), (hm_ltN hN rfl), hm_le rfl, hm_le rfl, (0, 0), Nat.zero_le _, Nat.zero_le _, ?_⟩
  refine sp_178 hR hN (rr := 65) (aa := 66) (nn := 80) rfl rfl (hm_le rfl) (hm_ltN hN rfl) rfl rfl (hm_le rfl) (hm_ltN hN rfl) (by decide) ?_
  show R 129 18 [(4, .int (T_178 s 66 80 p1)), (0, .ref 64), (1, .int p1), (2, .int p2), (3, .int p3)] [.int (T_178 s 66 80 p2)] (N, hm_sh L g, s) _ Q
  refine hm_st hR (hm_st hR (hm_st hR (hm_st hR (?_))))
  show R 129 25 [(5, .int ((T_178 s 66 80 p2) - (T_178 s 66 80 p1))), (4, .int (T_178 s 66 80 p1)), (0, .ref 64), (1, .int p1), (2, .int p2), (3, .int p3)] [.int ((T_178 s 66 80 p2) - (T_178 s 66 80 p1))] (N, hm_sh L g, s) _ Q
  refine hm_st hR ⟨fun c25 => ?_, fun c25 => ?_⟩
  · rw [if_pos c25] at hq
    show R 129 32 [(5, .int ((T_178 s 66 80 p2) - (T_178 s 66 80 p1))), (4, .int (T_178 s 66 80 p1)), (0, .ref 64), (1, .int p1), (2, .int p2), (3, .int p3)] [] (N, hm_sh L g, s) _ Q
    refine hm_st hR (hm_st hR (hm_st hR (hm_st hR (hm_st hR (hm_st hR (hm_st hR (hm_st hR (hm_st hR (hm_st hR ⟨(hm_nz2 c25), hm_st hR (?_)⟩)))))))))
    exact hm_st hR ⟨fun z => absurd z (by decide), hq⟩
  · rw [if_neg c25] at hq
    show R 129 28 [(5, .int ((T_178 s 66 80 p2) - (T_178 s 66 80 p1))), (4, .int (T_178 s 66 80 p1)), (0, .ref 64), (1, .int p1), (2, .int p2), (3, .int p3)] [] (N, hm_sh L g, s) _ Q
    refine hm_st hR (hm_st hR (?_))
    exact hm_st hR ⟨fun z => absurd z (by decide), hq⟩
def T_130_5 : Nat → hm_St → Int32 → Int32 → Int32 → Int32 → Int32
  | 0, s, _, _, _, _ => 0
  | n + 1, s, v1, v2, v3, v4 => (if v2 < v4 then v3 else (T_130_5 n s v1 v2 (hm_max v3 (hm_abs ((T_129 s v1 v2 (T_178 s 66 80 v4)) - v4))) (v4 + 1)))
/-- CurvekeyHouse$Line.errorOn(II)I -/
def T_130 (s : hm_St) (p1 : Int32) (p2 : Int32) : Int32 := (T_130_5 (hm_df1 p2 p1 + 1) s p1 p2 0 p1)
set_option maxRecDepth 20000 in
theorem lp_130_5 {R : hm_R} (hR : hm_Cm R) {N L : Nat} {g : Nat → hm_Sh} {b : hm_B} {Q : hm_Q} (hN : 68 ≤ N) : ∀ (n : Nat) (s : hm_St) (v1 : Int32) (v2 : Int32) (v3 : Int32) (v4 : Int32), hm_df1 v2 v4 < n → (hinv : v2 < 100000) → (hq : Q (.inr (some (.int (T_130_5 n s v1 v2 v3 v4)))) (N, hm_sh L g, s)) → R 130 5 [(4, .int v4), (3, .int v3), (0, .ref 64), (1, .int v1), (2, .int v2)] [] (N, hm_sh L g, s) b Q := by
  intro n
  induction n with
  | zero => intro s v1 v2 v3 v4 hm hinv _; exact absurd hm (Nat.not_lt_zero _)
  | succ n ih =>
    intro s v1 v2 v3 v4 hm hinv hq
    unfold T_130_5 at hq
    refine hm_st hR (hm_st hR (?_))
    show R 130 8 [(4, .int v4), (3, .int v3), (0, .ref 64), (1, .int v1), (2, .int v2)] [.int v2, .int v4] (N, hm_sh L g, s) _ Q
    refine hm_st hR ⟨fun c8 => ?_, fun c8 => ?_⟩
    · rw [if_pos c8] at hq
      show R 130 43 [(4, .int v4), (3, .int v3), (0, .ref 64), (1, .int v1), (2, .int v2)] [] (N, hm_sh L g, s) _ Q
      refine hm_st hR (?_)
      exact hm_st hR ⟨fun z => absurd z (by decide), hq⟩
    · rw [if_neg c8] at hq
      show R 130 11 [(4, .int v4), (3, .int v3), (0, .ref 64), (1, .int v1), (2, .int v2)] [] (N, hm_sh L g, s) _ Q
      refine hm_st hR (hm_st hR (hm_st hR (hm_st hR (hm_st hR (hm_st hR ⟨rfl, hm_le rfl, (hm_ltN hN rfl), hm_st hR (?_)⟩)))))
      refine hm_st hR ⟨hm_le rfl, rfl, (hm_le rfl), (hm_ltN hN rfl), hm_le rfl, hm_le rfl, (0, 0), Nat.zero_le _, Nat.zero_le _, ?_⟩
      refine sp_178 hR hN (rr := 65) (aa := 66) (nn := 80) rfl rfl (hm_le rfl) (hm_ltN hN rfl) rfl rfl (hm_le rfl) (hm_ltN hN rfl) (by decide) ?_
      show R 130 24 [(4, .int v4), (3, .int v3), (0, .ref 64), (1, .int v1), (2, .int v2)] [.int (T_178 s 66 80 v4), .int v2, .int v1, .ref 64, .int v3] (N, hm_sh L g, s) _ Q
      refine hm_st hR ⟨hm_le rfl, rfl, (hm_le rfl), (hm_ltN hN rfl), hm_le rfl, hm_le rfl, (0, 0), Nat.zero_le _, Nat.zero_le _, ?_⟩
      refine sp_129 hR hN ?_
      show R 130 27 [(4, .int v4), (3, .int v3), (0, .ref 64), (1, .int v1), (2, .int v2)] [.int (T_129 s v1 v2 (T_178 s 66 80 v4)), .int v3] (N, hm_sh L g, s) _ Q
      refine hm_st hR (hm_st hR (hm_st hR ⟨hm_le rfl, ?_⟩))
      show R 130 33 [(4, .int v4), (3, .int v3), (0, .ref 64), (1, .int v1), (2, .int v2)] [.int (hm_abs ((T_129 s v1 v2 (T_178 s 66 80 v4)) - v4)), .int v3] (N, hm_sh L g, s) _ Q
      refine hm_st hR ⟨hm_le rfl, ?_⟩
      show R 130 36 [(4, .int v4), (3, .int v3), (0, .ref 64), (1, .int v1), (2, .int v2)] [.int (hm_max v3 (hm_abs ((T_129 s v1 v2 (T_178 s 66 80 v4)) - v4)))] (N, hm_sh L g, s) _ Q
      refine hm_st hR (hm_st hR (hm_st hR (?_)))
      show R 130 5 [(4, .int (v4 + 1)), (3, .int (hm_max v3 (hm_abs ((T_129 s v1 v2 (T_178 s 66 80 v4)) - v4)))), (0, .ref 64), (1, .int v1), (2, .int v2)] [] (N, hm_sh L g, s) _ Q
      exact hm_lvS hR (by intro q hq; simp only [List.mem_cons, List.not_mem_nil, or_false] at hq ⊢; rcases hq with rfl | rfl | rfl | rfl | rfl <;> simp) (ih s v1 v2 (hm_max v3 (hm_abs ((T_129 s v1 v2 (T_178 s 66 80 v4)) - v4))) (v4 + 1) (hm_dcy c8 hinv hm) hinv hq)
set_option maxRecDepth 20000 in
theorem sp_130 {R : hm_R} (hR : hm_Cm R) {N L : Nat} {g : Nat → hm_Sh} {s : hm_St} {b : hm_B} {Q : hm_Q} (hN : 68 ≤ N) {p1 : Int32} {p2 : Int32} (hE : p2 < 100000) (hq : Q (.inr (some (.int (T_130 s p1 p2)))) (N, hm_sh L g, s)) : R 130 0 (lv_args 0 [.ref 64, .int p1, .int p2]) [] (N, hm_sh L g, s) b Q := by
  unfold T_130 at hq
  show R 130 0 [(0, .ref 64), (1, .int p1), (2, .int p2)] [] (N, hm_sh L g, s) _ Q
  refine hm_st hR (hm_st hR (hm_st hR (hm_st hR (?_))))
  show R 130 5 [(4, .int p1), (3, .int 0), (0, .ref 64), (1, .int p1), (2, .int p2)] [] (N, hm_sh L g, s) _ Q
  exact lp_130_5 hR hN _ _ _ _ _ _ (Nat.lt_succ_self _) hE hq
/-- CurvekeyHouse$Line.errorWhole()I -/
def T_127 (s : hm_St) : Int32 := (if (s 64 1) = 0 then (-1) else (T_130 s 0 ((s 64 1) - 1)))
set_option maxRecDepth 20000 in
theorem sp_127 {R : hm_R} (hR : hm_Cm R) {N L : Nat} {g : Nat → hm_Sh} {s : hm_St} {b : hm_B} {Q : hm_Q} (hN : 68 ≤ N) (hE : (s 64 1 - 1) < 100000) (hq : Q (.inr (some (.int (T_127 s)))) (N, hm_sh L g, s)) : R 127 0 (lv_args 0 [.ref 64]) [] (N, hm_sh L g, s) b Q := by
  unfold T_127 at hq
  show R 127 0 [(0, .ref 64)] [] (N, hm_sh L g, s) _ Q
  refine hm_st hR (hm_st hR ⟨rfl, hm_le rfl, (hm_ltN hN rfl), ?_⟩)
  show R 127 4 [(0, .ref 64)] [.int (s 64 1)] (N, hm_sh L g, s) _ Q
  refine hm_st hR ⟨fun c4 => ?_, fun c4 => ?_⟩
  · rw [if_neg c4] at hq
    show R 127 11 [(0, .ref 64)] [] (N, hm_sh L g, s) _ Q
    refine hm_st hR (hm_st hR (hm_st hR (hm_st hR ⟨rfl, hm_le rfl, (hm_ltN hN rfl), hm_st hR (hm_st hR (?_))⟩)))
    refine hm_st hR ⟨hm_le rfl, rfl, (hm_le rfl), (hm_ltN hN rfl), hm_le rfl, hm_le rfl, (0, 0), Nat.zero_le _, Nat.zero_le _, ?_⟩
    refine sp_130 hR hN hE ?_
    show R 127 22 [(0, .ref 64)] [.int (T_130 s 0 ((s 64 1) - 1))] (N, hm_sh L g, s) _ Q
    exact hm_st hR ⟨fun z => absurd z (by decide), hq⟩
  · rw [if_pos c4] at hq
    show R 127 7 [(0, .ref 64)] [] (N, hm_sh L g, s) _ Q
    refine hm_st hR (hm_st hR (?_))
    exact hm_st hR ⟨fun z => absurd z (by decide), hq⟩
def T_128_7 : Nat → hm_St → Int32 → Int32 → Int32 → Int32 → Int32
  | 0, s, _, _, _, _ => 0
  | n + 1, s, v1, v2, v3, v4 => (if (s 64 1) ≤ v4 then v2 else (if v4 = 0 then (T_128_7 n s v1 (v2 + 1) v4 (v4 + 1)) else (if (T_130 s v3 v4) ≤ v1 then (T_128_7 n s v1 v2 v3 (v4 + 1)) else (T_128_7 n s v1 (v2 + 1) v4 (v4 + 1)))))
/-- CurvekeyHouse$Line.piecesFor(I)I -/
def T_128 (s : hm_St) (p1 : Int32) : Int32 := (T_128_7 (hm_df (s 64 1) 0 + 1) s p1 0 0 0)
set_option maxRecDepth 20000 in
theorem lp_128_7 {R : hm_R} (hR : hm_Cm R) {N L : Nat} {g : Nat → hm_Sh} {b : hm_B} {Q : hm_Q} (hN : 68 ≤ N) : ∀ (n : Nat) (s : hm_St) (v1 : Int32) (v2 : Int32) (v3 : Int32) (v4 : Int32), hm_df (s 64 1) v4 < n → (hinv : s 64 1 ≤ 100000) → (hq : Q (.inr (some (.int (T_128_7 n s v1 v2 v3 v4)))) (N, hm_sh L g, s)) → R 128 7 [(4, .int v4), (3, .int v3), (2, .int v2), (0, .ref 64), (1, .int v1)] [] (N, hm_sh L g, s) b Q := by
  intro n
  induction n with
  | zero => intro s v1 v2 v3 v4 hm hinv _; exact absurd hm (Nat.not_lt_zero _)
  | succ n ih =>
    intro s v1 v2 v3 v4 hm hinv hq
    unfold T_128_7 at hq
    refine hm_st hR (hm_st hR (hm_st hR ⟨rfl, hm_le rfl, (hm_ltN hN rfl), ?_⟩))
    show R 128 13 [(4, .int v4), (3, .int v3), (2, .int v2), (0, .ref 64), (1, .int v1)] [.int (s 64 1), .int v4] (N, hm_sh L g, s) _ Q
    refine hm_st hR ⟨fun c13 => ?_, fun c13 => ?_⟩
    · rw [if_pos c13] at hq
      show R 128 44 [(4, .int v4), (3, .int v3), (2, .int v2), (0, .ref 64), (1, .int v1)] [] (N, hm_sh L g, s) _ Q
      refine hm_st hR (?_)
      exact hm_st hR ⟨fun z => absurd z (by decide), hq⟩
    · rw [if_neg c13] at hq
      show R 128 16 [(4, .int v4), (3, .int v3), (2, .int v2), (0, .ref 64), (1, .int v1)] [] (N, hm_sh L g, s) _ Q
      refine hm_st hR (?_)
      show R 128 18 [(4, .int v4), (3, .int v3), (2, .int v2), (0, .ref 64), (1, .int v1)] [.int v4] (N, hm_sh L g, s) _ Q
      refine hm_st hR ⟨fun c18 => ?_, fun c18 => ?_⟩
      · rw [if_pos c18] at hq
        show R 128 32 [(4, .int v4), (3, .int v3), (2, .int v2), (0, .ref 64), (1, .int v1)] [] (N, hm_sh L g, s) _ Q
        refine hm_st hR (hm_st hR (hm_st hR (hm_st hR (hm_st hR (?_)))))
        show R 128 7 [(4, .int (v4 + 1)), (3, .int v4), (2, .int (v2 + 1)), (0, .ref 64), (1, .int v1)] [] (N, hm_sh L g, s) _ Q
        exact hm_lvS hR (by intro q hq; simp only [List.mem_cons, List.not_mem_nil, or_false] at hq ⊢; rcases hq with rfl | rfl | rfl | rfl | rfl <;> simp) (ih s v1 (v2 + 1) v4 (v4 + 1) (hm_dcx c13 hm) hinv hq)
      · rw [if_neg c18] at hq
        show R 128 21 [(4, .int v4), (3, .int v3), (2, .int v2), (0, .ref 64), (1, .int v1)] [] (N, hm_sh L g, s) _ Q
        refine hm_st hR (hm_st hR (hm_st hR (?_)))
        refine hm_st hR ⟨hm_le rfl, rfl, (hm_le rfl), (hm_ltN hN rfl), hm_le rfl, hm_le rfl, (0, 0), Nat.zero_le _, Nat.zero_le _, ?_⟩
        refine sp_130 hR hN (hm_ltT c13 hinv) ?_
        show R 128 28 [(4, .int v4), (3, .int v3), (2, .int v2), (0, .ref 64), (1, .int v1)] [.int (T_130 s v3 v4)] (N, hm_sh L g, s) _ Q
        refine hm_st hR (?_)
        show R 128 29 [(4, .int v4), (3, .int v3), (2, .int v2), (0, .ref 64), (1, .int v1)] [.int v1, .int (T_130 s v3 v4)] (N, hm_sh L g, s) _ Q
        refine hm_st hR ⟨fun c29 => ?_, fun c29 => ?_⟩
        · rw [if_pos c29] at hq
          show R 128 38 [(4, .int v4), (3, .int v3), (2, .int v2), (0, .ref 64), (1, .int v1)] [] (N, hm_sh L g, s) _ Q
          refine hm_st hR (hm_st hR (?_))
          show R 128 7 [(4, .int (v4 + 1)), (3, .int v3), (2, .int v2), (0, .ref 64), (1, .int v1)] [] (N, hm_sh L g, s) _ Q
          exact hm_lvS hR (by intro q hq; simp only [List.mem_cons, List.not_mem_nil, or_false] at hq ⊢; rcases hq with rfl | rfl | rfl | rfl | rfl <;> simp) (ih s v1 v2 v3 (v4 + 1) (hm_dcx c13 hm) hinv hq)
        · rw [if_neg c29] at hq
          show R 128 32 [(4, .int v4), (3, .int v3), (2, .int v2), (0, .ref 64), (1, .int v1)] [] (N, hm_sh L g, s) _ Q
          refine hm_st hR (hm_st hR (hm_st hR (hm_st hR (hm_st hR (?_)))))
          show R 128 7 [(4, .int (v4 + 1)), (3, .int v4), (2, .int (v2 + 1)), (0, .ref 64), (1, .int v1)] [] (N, hm_sh L g, s) _ Q
          exact hm_lvS hR (by intro q hq; simp only [List.mem_cons, List.not_mem_nil, or_false] at hq ⊢; rcases hq with rfl | rfl | rfl | rfl | rfl <;> simp) (ih s v1 (v2 + 1) v4 (v4 + 1) (hm_dcx c13 hm) hinv hq)
set_option maxRecDepth 20000 in
theorem sp_128 {R : hm_R} (hR : hm_Cm R) {N L : Nat} {g : Nat → hm_Sh} {s : hm_St} {b : hm_B} {Q : hm_Q} (hN : 68 ≤ N) {p1 : Int32} (hE : s 64 1 ≤ 100000) (hq : Q (.inr (some (.int (T_128 s p1)))) (N, hm_sh L g, s)) : R 128 0 (lv_args 0 [.ref 64, .int p1]) [] (N, hm_sh L g, s) b Q := by
  unfold T_128 at hq
  show R 128 0 [(0, .ref 64), (1, .int p1)] [] (N, hm_sh L g, s) _ Q
  refine hm_st hR (hm_st hR (hm_st hR (hm_st hR (hm_st hR (hm_st hR (?_))))))
  show R 128 7 [(4, .int 0), (3, .int 0), (2, .int 0), (0, .ref 64), (1, .int p1)] [] (N, hm_sh L g, s) _ Q
  exact lp_128_7 hR hN _ _ _ _ _ _ (Nat.lt_succ_self _) hE hq
def T_148_5 : Nat → hm_St → Int32 → Int32 → Int32 → Int32 → Int32
  | 0, s, _, _, _, _ => 0
  | n + 1, s, v1, v2, v3, v4 => (if (s 42 4) ≤ v4 then v3 else (if (T_146 s v4 v2) = v1 then (T_148_5 n s v1 v2 (v3 + 1) (v4 + 1)) else (T_148_5 n s v1 v2 v3 (v4 + 1))))
/-- CurvekeyHouse$Pages.ownedBy(II)I -/
def T_148 (s : hm_St) (p1 : Int32) (p2 : Int32) : Int32 := (T_148_5 (hm_df (s 42 4) 0 + 1) s p1 p2 0 0)
set_option maxRecDepth 20000 in
theorem lp_148_5 {R : hm_R} (hR : hm_Cm R) {N L : Nat} {g : Nat → hm_Sh} {b : hm_B} {Q : hm_Q} (hN : 68 ≤ N) : ∀ (n : Nat) (s : hm_St) (v1 : Int32) (v2 : Int32) (v3 : Int32) (v4 : Int32), hm_df (s 42 4) v4 < n → (hq : Q (.inr (some (.int (T_148_5 n s v1 v2 v3 v4)))) (N, hm_sh L g, s)) → R 148 5 [(4, .int v4), (3, .int v3), (0, .ref 42), (1, .int v1), (2, .int v2)] [] (N, hm_sh L g, s) b Q := by
  intro n
  induction n with
  | zero => intro s v1 v2 v3 v4 hm _; exact absurd hm (Nat.not_lt_zero _)
  | succ n ih =>
    intro s v1 v2 v3 v4 hm hq
    unfold T_148_5 at hq
    refine hm_st hR (hm_st hR (hm_st hR ⟨rfl, hm_le rfl, (hm_ltN hN rfl), ?_⟩))
    show R 148 11 [(4, .int v4), (3, .int v3), (0, .ref 42), (1, .int v1), (2, .int v2)] [.int (s 42 4), .int v4] (N, hm_sh L g, s) _ Q
    refine hm_st hR ⟨fun c11 => ?_, fun c11 => ?_⟩
    · rw [if_pos c11] at hq
      show R 148 34 [(4, .int v4), (3, .int v3), (0, .ref 42), (1, .int v1), (2, .int v2)] [] (N, hm_sh L g, s) _ Q
      refine hm_st hR (?_)
      exact hm_st hR ⟨fun z => absurd z (by decide), hq⟩
    · rw [if_neg c11] at hq
      show R 148 14 [(4, .int v4), (3, .int v3), (0, .ref 42), (1, .int v1), (2, .int v2)] [] (N, hm_sh L g, s) _ Q
      refine hm_st hR (hm_st hR (hm_st hR (?_)))
      refine hm_st hR ⟨hm_le rfl, rfl, (hm_le rfl), (hm_ltN hN rfl), hm_le rfl, hm_le rfl, (0, 0), Nat.zero_le _, Nat.zero_le _, ?_⟩
      refine sp_146 hR hN ?_
      show R 148 21 [(4, .int v4), (3, .int v3), (0, .ref 42), (1, .int v1), (2, .int v2)] [.int (T_146 s v4 v2)] (N, hm_sh L g, s) _ Q
      refine hm_st hR (?_)
      show R 148 22 [(4, .int v4), (3, .int v3), (0, .ref 42), (1, .int v1), (2, .int v2)] [.int v1, .int (T_146 s v4 v2)] (N, hm_sh L g, s) _ Q
      refine hm_st hR ⟨fun c22 => ?_, fun c22 => ?_⟩
      · rw [if_neg c22] at hq
        show R 148 28 [(4, .int v4), (3, .int v3), (0, .ref 42), (1, .int v1), (2, .int v2)] [] (N, hm_sh L g, s) _ Q
        refine hm_st hR (hm_st hR (?_))
        show R 148 5 [(4, .int (v4 + 1)), (3, .int v3), (0, .ref 42), (1, .int v1), (2, .int v2)] [] (N, hm_sh L g, s) _ Q
        exact hm_lvS hR (by intro q hq; simp only [List.mem_cons, List.not_mem_nil, or_false] at hq ⊢; rcases hq with rfl | rfl | rfl | rfl | rfl <;> simp) (ih s v1 v2 v3 (v4 + 1) (hm_dcx c11 hm) hq)
      · rw [if_pos c22] at hq
        show R 148 25 [(4, .int v4), (3, .int v3), (0, .ref 42), (1, .int v1), (2, .int v2)] [] (N, hm_sh L g, s) _ Q
        refine hm_st hR (hm_st hR (hm_st hR (?_)))
        show R 148 5 [(4, .int (v4 + 1)), (3, .int (v3 + 1)), (0, .ref 42), (1, .int v1), (2, .int v2)] [] (N, hm_sh L g, s) _ Q
        exact hm_lvS hR (by intro q hq; simp only [List.mem_cons, List.not_mem_nil, or_false] at hq ⊢; rcases hq with rfl | rfl | rfl | rfl | rfl <;> simp) (ih s v1 v2 (v3 + 1) (v4 + 1) (hm_dcx c11 hm) hq)
set_option maxRecDepth 20000 in
theorem sp_148 {R : hm_R} (hR : hm_Cm R) {N L : Nat} {g : Nat → hm_Sh} {s : hm_St} {b : hm_B} {Q : hm_Q} (hN : 68 ≤ N) {p1 : Int32} {p2 : Int32} (hq : Q (.inr (some (.int (T_148 s p1 p2)))) (N, hm_sh L g, s)) : R 148 0 (lv_args 0 [.ref 42, .int p1, .int p2]) [] (N, hm_sh L g, s) b Q := by
  unfold T_148 at hq
  show R 148 0 [(0, .ref 42), (1, .int p1), (2, .int p2)] [] (N, hm_sh L g, s) _ Q
  refine hm_st hR (hm_st hR (hm_st hR (hm_st hR (?_))))
  show R 148 5 [(4, .int 0), (3, .int 0), (0, .ref 42), (1, .int p1), (2, .int p2)] [] (N, hm_sh L g, s) _ Q
  exact lp_148_5 hR hN _ _ _ _ _ _ (Nat.lt_succ_self _) hq
def T_149_2 : Nat → hm_St → Int32 → Int32 → Int32 → Int32
  | 0, s, _, _, _ => 0
  | n + 1, s, v1, v2, v3 => (if (s 42 4) ≤ v3 then (-1) else (if (T_146 s v3 v2) = v1 then (T_178 s 46 1025 v3) else (T_149_2 n s v1 v2 (v3 + 1))))
/-- CurvekeyHouse$Pages.firstFloorOf(II)I -/
def T_149 (s : hm_St) (p1 : Int32) (p2 : Int32) : Int32 := (T_149_2 (hm_df (s 42 4) 0 + 1) s p1 p2 0)
set_option maxRecDepth 20000 in
theorem lp_149_2 {R : hm_R} (hR : hm_Cm R) {N L : Nat} {g : Nat → hm_Sh} {b : hm_B} {Q : hm_Q} (hN : 68 ≤ N) : ∀ (n : Nat) (s : hm_St) (v1 : Int32) (v2 : Int32) (v3 : Int32), hm_df (s 42 4) v3 < n → (hq : Q (.inr (some (.int (T_149_2 n s v1 v2 v3)))) (N, hm_sh L g, s)) → R 149 2 [(3, .int v3), (0, .ref 42), (1, .int v1), (2, .int v2)] [] (N, hm_sh L g, s) b Q := by
  intro n
  induction n with
  | zero => intro s v1 v2 v3 hm _; exact absurd hm (Nat.not_lt_zero _)
  | succ n ih =>
    intro s v1 v2 v3 hm hq
    unfold T_149_2 at hq
    refine hm_st hR (hm_st hR (hm_st hR ⟨rfl, hm_le rfl, (hm_ltN hN rfl), ?_⟩))
    show R 149 7 [(3, .int v3), (0, .ref 42), (1, .int v1), (2, .int v2)] [.int (s 42 4), .int v3] (N, hm_sh L g, s) _ Q
    refine hm_st hR ⟨fun c7 => ?_, fun c7 => ?_⟩
    · rw [if_pos c7] at hq
      show R 149 35 [(3, .int v3), (0, .ref 42), (1, .int v1), (2, .int v2)] [] (N, hm_sh L g, s) _ Q
      refine hm_st hR (?_)
      exact hm_st hR ⟨fun z => absurd z (by decide), hq⟩
    · rw [if_neg c7] at hq
      show R 149 10 [(3, .int v3), (0, .ref 42), (1, .int v1), (2, .int v2)] [] (N, hm_sh L g, s) _ Q
      refine hm_st hR (hm_st hR (hm_st hR (?_)))
      refine hm_st hR ⟨hm_le rfl, rfl, (hm_le rfl), (hm_ltN hN rfl), hm_le rfl, hm_le rfl, (0, 0), Nat.zero_le _, Nat.zero_le _, ?_⟩
      refine sp_146 hR hN ?_
      show R 149 16 [(3, .int v3), (0, .ref 42), (1, .int v1), (2, .int v2)] [.int (T_146 s v3 v2)] (N, hm_sh L g, s) _ Q
      refine hm_st hR (?_)
      show R 149 17 [(3, .int v3), (0, .ref 42), (1, .int v1), (2, .int v2)] [.int v1, .int (T_146 s v3 v2)] (N, hm_sh L g, s) _ Q
      refine hm_st hR ⟨fun c17 => ?_, fun c17 => ?_⟩
      · rw [if_neg c17] at hq
        show R 149 29 [(3, .int v3), (0, .ref 42), (1, .int v1), (2, .int v2)] [] (N, hm_sh L g, s) _ Q
        refine hm_st hR (hm_st hR (?_))
        show R 149 2 [(3, .int (v3 + 1)), (0, .ref 42), (1, .int v1), (2, .int v2)] [] (N, hm_sh L g, s) _ Q
        exact hm_lvS hR (by intro q hq; simp only [List.mem_cons, List.not_mem_nil, or_false] at hq ⊢; rcases hq with rfl | rfl | rfl | rfl <;> simp) (ih s v1 v2 (v3 + 1) (hm_dcx c7 hm) hq)
      · rw [if_pos c17] at hq
        show R 149 20 [(3, .int v3), (0, .ref 42), (1, .int v1), (2, .int v2)] [] (N, hm_sh L g, s) _ Q
        refine hm_st hR (hm_st hR ⟨rfl, hm_le rfl, (hm_ltN hN rfl), hm_st hR (?_)⟩)
        refine hm_st hR ⟨hm_le rfl, rfl, (hm_le rfl), (hm_ltN hN rfl), hm_le rfl, hm_le rfl, (0, 0), Nat.zero_le _, Nat.zero_le _, ?_⟩
        refine sp_178 hR hN (rr := 45) (aa := 46) (nn := 1025) rfl rfl (hm_le rfl) (hm_ltN hN rfl) rfl rfl (hm_le rfl) (hm_ltN hN rfl) (by decide) ?_
        show R 149 28 [(3, .int v3), (0, .ref 42), (1, .int v1), (2, .int v2)] [.int (T_178 s 46 1025 v3)] (N, hm_sh L g, s) _ Q
        exact hm_st hR ⟨fun z => absurd z (by decide), hq⟩
set_option maxRecDepth 20000 in
theorem sp_149 {R : hm_R} (hR : hm_Cm R) {N L : Nat} {g : Nat → hm_Sh} {s : hm_St} {b : hm_B} {Q : hm_Q} (hN : 68 ≤ N) {p1 : Int32} {p2 : Int32} (hq : Q (.inr (some (.int (T_149 s p1 p2)))) (N, hm_sh L g, s)) : R 149 0 (lv_args 0 [.ref 42, .int p1, .int p2]) [] (N, hm_sh L g, s) b Q := by
  unfold T_149 at hq
  show R 149 0 [(0, .ref 42), (1, .int p1), (2, .int p2)] [] (N, hm_sh L g, s) _ Q
  refine hm_st hR (hm_st hR (?_))
  show R 149 2 [(3, .int 0), (0, .ref 42), (1, .int p1), (2, .int p2)] [] (N, hm_sh L g, s) _ Q
  exact lp_149_2 hR hN _ _ _ _ _ (Nat.lt_succ_self _) hq
/-- CurvekeyHouse.machineFact(II)I -/
def T_57 (s : hm_St) (p1 : Int32) (p2 : Int32) : Int32 := (if p2 = 0 then (T_147 s p1 (s 2 9)) else (if p2 = 1 then (T_148 s p1 (s 2 9)) else (T_149 s p1 (s 2 9))))
set_option maxRecDepth 20000 in
theorem sp_57 {R : hm_R} (hR : hm_Cm R) {N L : Nat} {g : Nat → hm_Sh} {s : hm_St} {b : hm_B} {Q : hm_Q} (hN : 68 ≤ N) {p1 : Int32} {p2 : Int32} (hq : Q (.inr (some (.int (T_57 s p1 p2)))) (N, hm_sh L g, s)) : R 57 0 (lv_args 0 [.ref 2, .int p1, .int p2]) [] (N, hm_sh L g, s) b Q := by
  unfold T_57 at hq
  show R 57 0 [(0, .ref 2), (1, .int p1), (2, .int p2)] [] (N, hm_sh L g, s) _ Q
  refine hm_st hR (?_)
  show R 57 1 [(0, .ref 2), (1, .int p1), (2, .int p2)] [.int p2] (N, hm_sh L g, s) _ Q
  by_cases w1_0 : p2 = 0
  · rw [if_pos w1_0] at hq
    refine hm_lkS hR 28 (by rfl) (by rw [w1_0]; rfl) ?_
    show R 57 28 [(0, .ref 2), (1, .int p1), (2, .int p2)] [] (N, hm_sh L g, s) _ Q
    refine hm_st hR (hm_st hR ⟨rfl, hm_le rfl, (hm_ltN hN rfl), hm_st hR (hm_st hR (hm_st hR ⟨rfl, hm_le rfl, (hm_ltN hN rfl), ?_⟩))⟩)
    refine hm_st hR ⟨hm_le rfl, rfl, (hm_le rfl), (hm_ltN hN rfl), hm_le rfl, hm_le rfl, (0, 0), Nat.zero_le _, Nat.zero_le _, ?_⟩
    refine sp_147 hR hN ?_
    show R 57 40 [(0, .ref 2), (1, .int p1), (2, .int p2)] [.int (T_147 s p1 (s 2 9))] (N, hm_sh L g, s) _ Q
    exact hm_st hR ⟨fun z => absurd z (by decide), hq⟩
  rw [if_neg w1_0] at hq
  by_cases w1_1 : p2 = 1
  · rw [if_pos w1_1] at hq
    refine hm_lkS hR 41 (by rfl) (by rw [w1_1]; rfl) ?_
    show R 57 41 [(0, .ref 2), (1, .int p1), (2, .int p2)] [] (N, hm_sh L g, s) _ Q
    refine hm_st hR (hm_st hR ⟨rfl, hm_le rfl, (hm_ltN hN rfl), hm_st hR (hm_st hR (hm_st hR ⟨rfl, hm_le rfl, (hm_ltN hN rfl), ?_⟩))⟩)
    refine hm_st hR ⟨hm_le rfl, rfl, (hm_le rfl), (hm_ltN hN rfl), hm_le rfl, hm_le rfl, (0, 0), Nat.zero_le _, Nat.zero_le _, ?_⟩
    refine sp_148 hR hN ?_
    show R 57 53 [(0, .ref 2), (1, .int p1), (2, .int p2)] [.int (T_148 s p1 (s 2 9))] (N, hm_sh L g, s) _ Q
    exact hm_st hR ⟨fun z => absurd z (by decide), hq⟩
  rw [if_neg w1_1] at hq
  refine hm_lkS hR 54 (by rfl) (by exact hm_lkD2 w1_0 w1_1) ?_
  show R 57 54 [(0, .ref 2), (1, .int p1), (2, .int p2)] [] (N, hm_sh L g, s) _ Q
  refine hm_st hR (hm_st hR ⟨rfl, hm_le rfl, (hm_ltN hN rfl), hm_st hR (hm_st hR (hm_st hR ⟨rfl, hm_le rfl, (hm_ltN hN rfl), ?_⟩))⟩)
  refine hm_st hR ⟨hm_le rfl, rfl, (hm_le rfl), (hm_ltN hN rfl), hm_le rfl, hm_le rfl, (0, 0), Nat.zero_le _, Nat.zero_le _, ?_⟩
  refine sp_149 hR hN ?_
  show R 57 66 [(0, .ref 2), (1, .int p1), (2, .int p2)] [.int (T_149 s p1 (s 2 9))] (N, hm_sh L g, s) _ Q
  exact hm_st hR ⟨fun z => absurd z (by decide), hq⟩
def T_64_17 (O : hm_St → Int64 → Int64 → Int32 → Int64) : Nat → hm_St → Int64 → Int64 → Int32 → Int32 → Int64
  | 0, s, _, _, _, _ => 0
  | n + 1, s, v1, v3, v5, v6 => (if 3 ≤ v6 then (O s v1 v3 (v5 + 1)) else (T_64_17 O n s v1 (T_60 s v3 (((T_57 s v5 v6)).toInt64)) v5 (v6 + 1)))
def T_64_5 : Nat → hm_St → Int64 → Int64 → Int32 → Int64
  | 0, s, _, _, _ => 0
  | n + 1, s, v1, v3, v5 => (if (s 2 9) ≤ v5 then (T_60 s v3 (((T_23 s)).toInt64)) else (T_64_17 (fun s v1 v3 v5 => T_64_5 n s v1 v3 v5) (hm_df 3 0 + 1) s v1 v3 v5 0))
/-- CurvekeyHouse.mixMachines(J)J -/
def T_64 (s : hm_St) (p1 : Int64) : Int64 := (T_64_5 (hm_df (s 2 9) 0 + 1) s p1 p1 0)
set_option maxRecDepth 20000 in
theorem lp_64_17 {R : hm_R} (hR : hm_Cm R) {N L : Nat} {g : Nat → hm_Sh} {b : hm_B} {Q : hm_Q} (hN : 68 ≤ N) {O : hm_St → Int64 → Int64 → Int32 → Int64} {nO : Nat} (hO : ∀ (s : hm_St) (v1 : Int64) (v3 : Int64) (v5 : Int32), hm_df (s 2 9) v5 < nO → (Q (.inr (some (.long (O s v1 v3 v5)))) (N, hm_sh L g, s)) → R 64 5 [(5, .int v5), (3, .long v3), (0, .ref 2), (1, .long v1)] [] (N, hm_sh L g, s) b Q) : ∀ (n : Nat) (s : hm_St) (v1 : Int64) (v3 : Int64) (v5 : Int32) (v6 : Int32), hm_df 3 v6 < n → (hPO : hm_df (s 2 9) (v5 + 1) < nO) → (hq : Q (.inr (some (.long (T_64_17 O n s v1 v3 v5 v6)))) (N, hm_sh L g, s)) → R 64 17 [(6, .int v6), (5, .int v5), (3, .long v3), (0, .ref 2), (1, .long v1)] [] (N, hm_sh L g, s) b Q := by
  intro n
  induction n with
  | zero => intro s v1 v3 v5 v6 hm hPO _; exact absurd hm (Nat.not_lt_zero _)
  | succ n ih =>
    intro s v1 v3 v5 v6 hm hPO hq
    unfold T_64_17 at hq
    refine hm_st hR (hm_st hR (?_))
    show R 64 20 [(6, .int v6), (5, .int v5), (3, .long v3), (0, .ref 2), (1, .long v1)] [.int 3, .int v6] (N, hm_sh L g, s) _ Q
    refine hm_st hR ⟨fun c20 => ?_, fun c20 => ?_⟩
    · rw [if_pos c20] at hq
      show R 64 43 [(6, .int v6), (5, .int v5), (3, .long v3), (0, .ref 2), (1, .long v1)] [] (N, hm_sh L g, s) _ Q
      refine hm_st hR (hm_st hR (?_))
      show R 64 5 [(5, .int (v5 + 1)), (6, .int v6), (3, .long v3), (0, .ref 2), (1, .long v1)] [] (N, hm_sh L g, s) _ Q
      exact hm_lvS hR (by intro q hq; simp only [List.mem_cons, List.not_mem_nil, or_false] at hq ⊢; rcases hq with rfl | rfl | rfl | rfl <;> simp) (hO s v1 v3 (v5 + 1) hPO hq)
    · rw [if_neg c20] at hq
      show R 64 23 [(6, .int v6), (5, .int v5), (3, .long v3), (0, .ref 2), (1, .long v1)] [] (N, hm_sh L g, s) _ Q
      refine hm_st hR (hm_st hR (hm_st hR (hm_st hR (?_))))
      refine hm_st hR ⟨hm_le rfl, rfl, (hm_le rfl), (hm_ltN hN rfl), hm_le rfl, hm_le rfl, (0, 0), Nat.zero_le _, Nat.zero_le _, ?_⟩
      refine sp_57 hR hN ?_
      show R 64 32 [(6, .int v6), (5, .int v5), (3, .long v3), (0, .ref 2), (1, .long v1)] [.int (T_57 s v5 v6), .long v3] (N, hm_sh L g, s) _ Q
      refine hm_st hR (?_)
      refine hm_st hR ⟨hm_le rfl, hm_le rfl, hm_le rfl, (0, 0), Nat.zero_le _, Nat.zero_le _, ?_⟩
      refine sp_60 hR hN ?_
      show R 64 36 [(6, .int v6), (5, .int v5), (3, .long v3), (0, .ref 2), (1, .long v1)] [.long (T_60 s v3 (((T_57 s v5 v6)).toInt64))] (N, hm_sh L g, s) _ Q
      refine hm_st hR (hm_st hR (hm_st hR (?_)))
      show R 64 17 [(6, .int (v6 + 1)), (3, .long (T_60 s v3 (((T_57 s v5 v6)).toInt64))), (5, .int v5), (0, .ref 2), (1, .long v1)] [] (N, hm_sh L g, s) _ Q
      exact hm_lvS hR (by intro q hq; simp only [List.mem_cons, List.not_mem_nil, or_false] at hq ⊢; rcases hq with rfl | rfl | rfl | rfl | rfl <;> simp) (ih s v1 (T_60 s v3 (((T_57 s v5 v6)).toInt64)) v5 (v6 + 1) (hm_dcx c20 hm) hPO hq)
set_option maxRecDepth 20000 in
theorem lp_64_5 {R : hm_R} (hR : hm_Cm R) {N L : Nat} {g : Nat → hm_Sh} {b : hm_B} {Q : hm_Q} (hN : 68 ≤ N) : ∀ (n : Nat) (s : hm_St) (v1 : Int64) (v3 : Int64) (v5 : Int32), hm_df (s 2 9) v5 < n → (hq : Q (.inr (some (.long (T_64_5 n s v1 v3 v5)))) (N, hm_sh L g, s)) → R 64 5 [(5, .int v5), (3, .long v3), (0, .ref 2), (1, .long v1)] [] (N, hm_sh L g, s) b Q := by
  intro n
  induction n with
  | zero => intro s v1 v3 v5 hm _; exact absurd hm (Nat.not_lt_zero _)
  | succ n ih =>
    intro s v1 v3 v5 hm hq
    unfold T_64_5 at hq
    refine hm_st hR (hm_st hR (hm_st hR ⟨rfl, hm_le rfl, (hm_ltN hN rfl), ?_⟩))
    show R 64 11 [(5, .int v5), (3, .long v3), (0, .ref 2), (1, .long v1)] [.int (s 2 9), .int v5] (N, hm_sh L g, s) _ Q
    refine hm_st hR ⟨fun c11 => ?_, fun c11 => ?_⟩
    · rw [if_pos c11] at hq
      show R 64 49 [(5, .int v5), (3, .long v3), (0, .ref 2), (1, .long v1)] [] (N, hm_sh L g, s) _ Q
      refine hm_st hR (hm_st hR (?_))
      refine hm_st hR ⟨hm_le rfl, rfl, (hm_le rfl), (hm_ltN hN rfl), hm_le rfl, hm_le rfl, (0, 0), Nat.zero_le _, Nat.zero_le _, ?_⟩
      refine sp_23 hR hN ?_
      show R 64 54 [(5, .int v5), (3, .long v3), (0, .ref 2), (1, .long v1)] [.int (T_23 s), .long v3] (N, hm_sh L g, s) _ Q
      refine hm_st hR (?_)
      refine hm_st hR ⟨hm_le rfl, hm_le rfl, hm_le rfl, (0, 0), Nat.zero_le _, Nat.zero_le _, ?_⟩
      refine sp_60 hR hN ?_
      show R 64 58 [(5, .int v5), (3, .long v3), (0, .ref 2), (1, .long v1)] [.long (T_60 s v3 (((T_23 s)).toInt64))] (N, hm_sh L g, s) _ Q
      exact hm_st hR hq
    · rw [if_neg c11] at hq
      show R 64 14 [(5, .int v5), (3, .long v3), (0, .ref 2), (1, .long v1)] [] (N, hm_sh L g, s) _ Q
      refine hm_st hR (hm_st hR (?_))
      show R 64 17 [(6, .int 0), (5, .int v5), (3, .long v3), (0, .ref 2), (1, .long v1)] [] (N, hm_sh L g, s) _ Q
      exact lp_64_17 hR hN (O := (fun s v1 v3 v5 => T_64_5 n s v1 v3 v5)) (nO := n) (fun s v1 v3 v5 hm hq => ih s v1 v3 v5 hm hq) _ _ _ _ _ _ (Nat.lt_succ_self _) (hm_dcx c11 hm) hq
set_option maxRecDepth 20000 in
theorem sp_64 {R : hm_R} (hR : hm_Cm R) {N L : Nat} {g : Nat → hm_Sh} {s : hm_St} {b : hm_B} {Q : hm_Q} (hN : 68 ≤ N) {p1 : Int64} (hq : Q (.inr (some (.long (T_64 s p1)))) (N, hm_sh L g, s)) : R 64 0 (lv_args 0 [.ref 2, .long p1]) [] (N, hm_sh L g, s) b Q := by
  unfold T_64 at hq
  show R 64 0 [(0, .ref 2), (1, .long p1)] [] (N, hm_sh L g, s) _ Q
  refine hm_st hR (hm_st hR (hm_st hR (hm_st hR (?_))))
  show R 64 5 [(5, .int 0), (3, .long p1), (0, .ref 2), (1, .long p1)] [] (N, hm_sh L g, s) _ Q
  exact lp_64_5 hR hN _ _ _ _ _ (Nat.lt_succ_self _) hq
/-- CurvekeyHouse.holderAt(II)I -/
def T_41 (s : hm_St) (p1 : Int32) (p2 : Int32) : Int32 := (T_140 s (T_39 s p1 p2))
set_option maxRecDepth 20000 in
theorem sp_41 {R : hm_R} (hR : hm_Cm R) {N L : Nat} {g : Nat → hm_Sh} {s : hm_St} {b : hm_B} {Q : hm_Q} (hN : 68 ≤ N) {p1 : Int32} {p2 : Int32} (hq : Q (.inr (some (.int (T_41 s p1 p2)))) (N, hm_sh L g, s)) : R 41 0 (lv_args 0 [.ref 2, .int p1, .int p2]) [] (N, hm_sh L g, s) b Q := by
  unfold T_41 at hq
  show R 41 0 [(0, .ref 2), (1, .int p1), (2, .int p2)] [] (N, hm_sh L g, s) _ Q
  refine hm_st hR (hm_st hR ⟨rfl, hm_le rfl, (hm_ltN hN rfl), hm_st hR (hm_st hR (hm_st hR (?_)))⟩)
  refine hm_st hR ⟨hm_le rfl, rfl, (hm_le rfl), (hm_ltN hN rfl), hm_le rfl, hm_le rfl, (0, 0), Nat.zero_le _, Nat.zero_le _, ?_⟩
  refine sp_39 hR hN ?_
  show R 41 10 [(0, .ref 2), (1, .int p1), (2, .int p2)] [.int (T_39 s p1 p2), .ref 42] (N, hm_sh L g, s) _ Q
  refine hm_st hR ⟨hm_le rfl, rfl, (hm_le rfl), (hm_ltN hN rfl), hm_le rfl, hm_le rfl, (0, 0), Nat.zero_le _, Nat.zero_le _, ?_⟩
  refine sp_140 hR hN ?_
  show R 41 13 [(0, .ref 2), (1, .int p1), (2, .int p2)] [.int (T_140 s (T_39 s p1 p2))] (N, hm_sh L g, s) _ Q
  exact hm_st hR ⟨fun z => absurd z (by decide), hq⟩
end
