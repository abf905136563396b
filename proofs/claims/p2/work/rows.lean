section
theorem zz_wide : True := by
  have h := @Jvm.Stand.thenCaughtThrough
  trivial
/-! ===== BEGIN exceptions that leave a method, and their catching by the caller (launches without stack traces) ===== -/
section VXA
/-! The laws vx_back, vx_callV, vx_callS, vx_callSW, vx_throw0, vx_throwS follow proofs of the library, with one case more: JvmDerived/Free/Laws.lean (Back.of_free), Shelf42/LK1.lean (callV, callS), Shelf/KitTraced.lean (throwNew0V, throwNewS). -/
/-- where a method has thrown q: the class by its name, the cell, what was written, the world -/
def vx_T (XC : String → State → State → Prop) (st : State) (q : Addr) (t : State) (mc ms : Nat) (free : Addr → Prop) : Prop :=
  ∃ (E : String) (ce : Cell) (L : List Loc), XC E st t ∧ t.heap[q]? = some ce ∧ ce.vm = .none ∧ st.vm.findClass E = some ce.cls ∧ st.WarmedH t.vm ∧ st.sameButNew ({ t with vm := st.vm } : State) L mc ms ∧ ∀ z ∈ L, free z.base
def vx_Q (Qc : Array Value → State → Outcome → State → Prop) (XC : String → State → State → Prop) (mc ms : Nat) (free : Addr → Prop) : Array Value → State → Outcome → State → Prop := fun a st o t =>
  (Qc a st o t ∧ ∃ L, FrameEnd st o t L mc ms ∧ ∀ q ∈ L, free q.base) ∨ ∃ q, o = .threw q ∧ vx_T XC st q t mc ms free
/-- a callee that returns or throws -/
def vx_Met (l : Launch) (y : MethodName) (ws : List Cond) (rm : Room) (Pc : Array Value → State → Prop) (Qc : Array Value → State → Outcome → State → Prop) (XC : String → State → State → Prop) (mc ms : Nat) (free : Addr → Prop) : Prop :=
  MetFree l y (headSpec ws rm) Pc (fun _ _ _ _ _ => True) (vx_Q Qc XC mc ms free)
def vx_Post (XC : String → State → State → Prop) (mc ms : Nat) (free : Addr → Prop) : Pt → Array Value → Addr → Pt → Prop := fun A a q B =>
  ∃ (g : JFrame) (mk : MethodId) (t : State) (L : List Loc) (E : String) (ce : Cell), B.U.heap = t.heap ∧ B.U.vm = t.vm ∧ XC E (A.U.calling g mk a) t ∧ t.heap[q]? = some ce ∧ ce.vm = .none ∧ A.U.vm.findClass E = some ce.cls ∧ B.locs = A.locs ++ L ∧ (∀ z ∈ L, free z.base) ∧ B.cells = A.cells + mc ∧ B.slots = A.slots + ms
def vx_Back (l : Launch) (R : Room) (p : Program) (e : Env) (below : List Frame) (s : State) (sargs : Array Value) (y : MethodName) (len W9 : Nat)
    (Pre : Pt → Array Value → Prop) (Post : Pt → Array Value → Option Value → Pt → Prop) (PostX : Pt → Array Value → Addr → Pt → Prop) : Prop :=
  ∀ (m : MethodId) (meth : Method) (c : Code) (A : Pt) (g : JFrame) (ig : Instr) (mk : MethodId) (a : Array Value),
    Stand p l e R s m sargs below meth c A.U A.locs A.cells A.slots → g.method = m → g.locals.size = c.maxLocals → decode c.code g.pc = .ok (ig, len) →
    2 * g.monitorRoom + (g.stack.map fun v => v.category).sum ≤ W9 → A.U.methodNamed? y = some mk → Pre A a →
    (∃ (v : Option Value) (B : Pt), Stand p l e R s m sargs below meth c B.U B.locs B.cells B.slots ∧ Post A a v B ∧
      Steps p.tables e below (doInvoke e (A.U.setTop g) [] mk a).1 (B.U.setTop { g with pc := g.pc + len, stack := v.toList ++ g.stack })) ∨
    (∃ (q : Addr) (B : Pt), Stand p l e R s m sargs below meth c B.U B.locs B.cells B.slots ∧ PostX A a q B ∧
      Steps p.tables e below (doInvoke e (A.U.setTop g) [] mk a).1 ((B.U.setTop g).pushFrame (.throwing q)))
section Payer
variable {l : Launch} {R : Room} {p : Program} {e : Env} {below : List Frame} {s : State} {sargs : Array Value} {y : MethodName} {len W9 : Nat}
theorem vx_back {ws : List Cond} {rm : Room} {Pc : Array Value → State → Prop} {Qc : Array Value → State → Outcome → State → Prop} {XC : String → State → State → Prop} {mc ms : Nat} {free : Addr → Prop} {bytes : ByteArray} {maxL : Nat} {ret : Option FieldType}
    (hM : vx_Met l y ws rm Pc Qc XC mc ms free) (hblind : FrameBlind Pc) (hrc : rm.cells = mc) (hrs : rm.slots = ms)
    (hframes : rm.frames + 1 ≤ R.frames) (hlocals : W9 + (maxL + 11) + rm.locals ≤ R.locals)
    (hws : ∀ w ∈ ws, ∀ a' U, s.WarmedH U.vm → w.before a' U = true) (hcode : Cond.code y bytes maxL ret ∈ ws) (hinit : ∀ a' U, s.WarmedH U.vm → (Cond.initialized y.cls).before a' U = true) :
    vx_Back l R p e below s sargs y len W9 (PreOf R mc ms Pc) (PostOf Qc mc ms free) (vx_Post XC mc ms free) := by
  intro m meth c A g ig mk a X hg hsize hdg hW hn hp
  have h1 : (headSpec ws rm).pre.before a A.U = true := atoms_intro fun w hw => hws w hw _ _ X.warmed
  have h2 : (Cond.code y bytes maxL ret).before a A.U = true := hws _ hcode _ _ X.warmed
  have h3 : (Cond.initialized y.cls).before a A.U = true := hinit _ _ X.warmed
  have h4 : A.cells + (headSpec ws rm).room.cells ≤ R.cells := by rw [show (headSpec ws rm).room.cells = mc from hrc]; exact hp.1
  have h5 : A.slots + (headSpec ws rm).room.slots ≤ R.slots := by rw [show (headSpec ws rm).room.slots = ms from hrs]; exact hp.2.1
  have hPc : Pc a (A.U.calling g mk a) := hblind _ _ _ _ hp.2.2
  obtain ⟨U, Ls, c0, s0⟩ := A
  dsimp only [Pt.U, Pt.locs, Pt.cells, Pt.slots] at h1 h2 h3 h4 h5 X hn hPc ⊢
  obtain ⟨methY, cY, hmY, hcY, -, hlY, -, -, -, -⟩ := Cond.code_spec hn h2
  obtain ⟨kY, hkY, -⟩ := className_of_methodNamed hn
  have hinitY : kY.init = .initialized := Cond.initialized_spec (findClass_of_methodNamed hn) hkY h3
  have h : At U g.method c below := by rw [hg]; exact X.here
  have hlocals9 : W9 + (maxL + 11) + (headSpec ws rm).room.locals ≤ R.locals := hlocals
  have happ : (headSpec ws rm).appliesLoose y e.platform (U.calling g mk a) = true :=
    Spec.appliesLoose_calling (g := g) h hdg hn hkY hinitY
      (X.room_calling (g := g) (R' := (headSpec ws rm).room) hsize hmY hcY hframes (by rw [hlY]; omega) h4 h5) h1
  obtain ⟨mid, hmid⟩ := h.above
  have hfr : (U.setTop g).frames = (.java g :: mid) ++ below := by rw [State.frames_setTop' g h.top, hmid]; rfl
  obtain ⟨o, s₂, hsteps, -, hend, hq⟩ := Steps.callFree hM p X.admits X.cas X.clock (acts := []) hfr happ hPc trivial
  have hq' : vx_Q Qc XC mc ms free a (U.calling g mk a) o s₂ := hq
  rw [State.frames_setTop' g h.top] at hend
  obtain ⟨g₀, hg0⟩ := Option.isSome_iff_exists.mp h.top
  obtain ⟨r, hr⟩ := State.topJava?_eq_some.mp hg0
  have hr' : (({ U with heap := s₂.heap, slotsUsed := s₂.slotsUsed } : State).setVm s₂.vm).frames = .java g₀ :: r := hr
  rcases hq' with ⟨hqc, L, hfe, hL⟩ | ⟨q, rfl, E, ce, L, hx, hce, hcv, hcl, hW₂, hsm, hL⟩
  · obtain ⟨⟨v, rfl⟩, hW₂, e2, q2, q3, q4, q5, q6⟩ := id hfe
    have e3 : s₂ = ({ (U.calling g mk a).setFrames s₂.frames with heap := s₂.heap, slotsUsed := s₂.slotsUsed } : State).setVm s₂.vm := by
      have : s₂ = ({ s₂ with vm := (U.calling g mk a).vm } : State).setVm s₂.vm := rfl
      rw [e2] at this
      exact this
    obtain ⟨c₂, i₂, len₂, hc₂, hd₂, hf₂⟩ := hend
    have hW' : U.WarmedH s₂.vm := hW₂
    have hcc : c₂ = c := by
      have h1 : s₂.code? g.method = U.code? g.method := by
        rw [State.code?_eq, State.code?_eq, hW'.alike.method?]
      exact Option.some.inj (hc₂.symm.trans (h1.trans h.code))
    subst hcc
    have hlen : len₂ = len := by rw [hdg] at hd₂; cases hd₂; rfl
    subst hlen
    have hs₂ : s₂ = (({ U with heap := s₂.heap, slotsUsed := s₂.slotsUsed } : State).setVm s₂.vm).setTop { g with pc := g.pc + len₂, stack := v.toList ++ g.stack } := by
      refine e3.trans ?_
      rw [hf₂, State.calling_eq h.top, State.setFrames_setFrames, State.setTop_of_frames _ hr', hr]
      rfl
    have hsame : U.sameButNew ({ U with heap := s₂.heap, slotsUsed := s₂.slotsUsed } : State) L mc ms := by
      refine ⟨?_, q2, q3, q4, q5, q6⟩
      obtain ⟨t, ht, -⟩ := State.frames_cons hr
      show ({ U with heap := s₂.heap, slotsUsed := s₂.slotsUsed } : State) = { U.setFrames U.frames with heap := s₂.heap, slotsUsed := s₂.slotsUsed }
      rw [State.setFrames_self ht]
    subst hg
    refine Or.inl ⟨v, ⟨(({ U with heap := s₂.heap, slotsUsed := s₂.slotsUsed } : State).setVm s₂.vm), Ls ++ L, c0 + mc, s0 + ms⟩,
      ⟨X.admits, X.cas, X.clock, X.frames, X.room, X.hears, X.method, X.code, (X.here.setHeapUsed s₂.heap s₂.slotsUsed).setVm hW'.alike, X.tail, State.WarmedH.trans X.warmed hW', X.limits, X.bytes, X.same.trans (hsame.setVm s.vm)⟩,
      ⟨g, mk, s₂, L, rfl, rfl, hqc, rfl, hL, rfl, rfl⟩, ?_⟩
    show Steps p.tables e below _ ((({ U with heap := s₂.heap, slotsUsed := s₂.slotsUsed } : State).setVm s₂.vm).setTop { g with pc := g.pc + len₂, stack := v.toList ++ g.stack })
    rw [← hs₂]
    exact hsteps
  · obtain ⟨e2, q2, q3, q4, q5, q6⟩ := id hsm
    have e3 : s₂ = ({ (U.calling g mk a).setFrames s₂.frames with heap := s₂.heap, slotsUsed := s₂.slotsUsed } : State).setVm s₂.vm := by
      have : s₂ = ({ s₂ with vm := (U.calling g mk a).vm } : State).setVm s₂.vm := rfl
      rw [e2] at this
      exact this
    have hf₂ : s₂.frames = .throwing q :: .java g :: U.frames.tail := hend
    have hW' : U.WarmedH s₂.vm := hW₂
    have hs₂ : s₂ = ((({ U with heap := s₂.heap, slotsUsed := s₂.slotsUsed } : State).setVm s₂.vm).setTop g).pushFrame (.throwing q) := by
      refine e3.trans ?_
      rw [hf₂, State.calling_eq h.top, State.setFrames_setFrames, State.pushFrame, State.frames_setTop _ hr', State.setTop_of_frames _ hr', State.setFrames_setFrames, hr]
      rfl
    have hsame : U.sameButNew ({ U with heap := s₂.heap, slotsUsed := s₂.slotsUsed } : State) L mc ms := by
      refine ⟨?_, q2, q3, q4, q5, q6⟩
      obtain ⟨t, ht, -⟩ := State.frames_cons hr
      show ({ U with heap := s₂.heap, slotsUsed := s₂.slotsUsed } : State) = { U.setFrames U.frames with heap := s₂.heap, slotsUsed := s₂.slotsUsed }
      rw [State.setFrames_self ht]
    subst hg
    refine Or.inr ⟨q, ⟨(({ U with heap := s₂.heap, slotsUsed := s₂.slotsUsed } : State).setVm s₂.vm), Ls ++ L, c0 + mc, s0 + ms⟩,
      ⟨X.admits, X.cas, X.clock, X.frames, X.room, X.hears, X.method, X.code, (X.here.setHeapUsed s₂.heap s₂.slotsUsed).setVm hW'.alike, X.tail, State.WarmedH.trans X.warmed hW', X.limits, X.bytes, X.same.trans (hsame.setVm s.vm)⟩,
      ⟨g, mk, s₂, L, E, ce, rfl, rfl, hx, hce, hcv, hcl, rfl, hL, rfl, rfl⟩, ?_⟩
    show Steps p.tables e below _ (((({ U with heap := s₂.heap, slotsUsed := s₂.slotsUsed } : State).setVm s₂.vm).setTop g).pushFrame (.throwing q))
    rw [← hs₂]
    exact hsteps
end Payer
section Calls
variable {p : Program} {l : Launch} {e : Env} {R : Room} {s : State} {m : MethodId} {args : Array Value} {below : List Frame} {meth : Method} {c : Code} {T : State} {locs : List Loc} {cells slots : Nat}
theorem vx_callV (X : Stand p l e R s m args below meth c T locs cells slots) (hexec : p.tables.exec = Jvm.exec) {own C : String} {index : Nat} {y : MethodName} {bytes : ByteArray} {maxL : Nat} {ret : Option FieldType}
    (hown : s.vm.findClass own = some m.cls) (hlink : (Cond.methodLink own index y).before args s = true) (hinst : (Cond.instanceMethod y).before args s = true) (hsel : (Cond.selects C y y).before args s = true)
    (hcode : (Cond.code y bytes maxL ret).before args s = true) (hy : y.cls ≠ "java/lang/invoke/MethodHandle" ∧ y.cls ≠ "java/lang/invoke/VarHandle")
    {W9 : Nat} {Pre : Pt → Array Value → Prop} {Post : Pt → Array Value → Option Value → Pt → Prop} {PostX : Pt → Array Value → Addr → Pt → Prop} (hK : vx_Back l R p e below s args y 3 W9 Pre Post PostX)
    {b : Addr} {cellB : Cell} (hcell : T.heap[b]? = some cellB) (hobj : cellB.vm.isStatics = false) (hcls : s.vm.findClass C = some cellB.cls)
    {g : JFrame} (hg : g.method = m) (hsize : g.locals.size = c.maxLocals) {argsL rest : List Value} (hlen : ∀ sig, parseMethodDescriptor y.desc = some sig → argsL.length = sig.parameters.length)
    (hstack : g.stack = argsL.reverse ++ .ref b :: rest) (hW : 2 * g.monitorRoom + (rest.map fun v => v.category).sum ≤ W9) (hdg : decode c.code g.pc = .ok (.invokevirtual index, 3))
    (hpre : ∀ vm₁, s.WarmedH vm₁ → Pre ⟨T.setVm vm₁, locs, cells, slots⟩ (Value.ref b :: argsL).toArray) :
    (∃ (v : Option Value) (vm₁ : Vm) (B : Pt), s.WarmedH vm₁ ∧ Stand p l e R s m args below meth c B.U B.locs B.cells B.slots ∧ Post ⟨T.setVm vm₁, locs, cells, slots⟩ (Value.ref b :: argsL).toArray v B ∧
      ∀ target, Steps p.tables e below (B.U.setTop { g with pc := g.pc + 3, stack := v.toList ++ rest }) target → Steps p.tables e below (T.setTop g) target) ∨
    (∃ (q : Addr) (vm₁ : Vm) (B : Pt), s.WarmedH vm₁ ∧ Stand p l e R s m args below meth c B.U B.locs B.cells B.slots ∧ PostX ⟨T.setVm vm₁, locs, cells, slots⟩ (Value.ref b :: argsL).toArray q B ∧
      Steps p.tables e below (T.setTop g) ((B.U.setTop { g with stack := rest }).pushFrame (.throwing q))) := by
  obtain ⟨mk, methM, hnamed, hmethM, hstM, habM⟩ := Cond.instanceMethod_spec hinst
  obtain ⟨methM', cM, hmethM', -, -, -, -, -, -, hsigM⟩ := Cond.code_spec hnamed hcode
  cases hmethM.symm.trans hmethM'
  obtain ⟨c2, r2, m2, q1, q2, q3, q4, kP, hkP, hkPi⟩ := Cond.selects_spec hsel
  cases hcls.symm.trans q1
  cases (State.methodFound?_of_named hnamed hy).symm.trans q2
  cases hnamed.symm.trans q3
  have hselP : selectMethod e.platform s.vm cellB.cls mk = .method mk := by rw [Launch.admits_selectMethod X.admits]; exact q4
  obtain ⟨vm₁, X₁, hstep₁⟩ := X.invokevirtual hexec hown hlink hnamed hmethM hstM hkP hkPi hy (a := b) (cell := cellB) hcell
    (fun z h => by rw [h] at hobj; cases hobj) hselP hmethM habM hkP hkPi (g := g) hg (argsL := argsL) (rest := rest) (hlen _ hsigM) hstack hdg
  rcases hK m meth c ⟨T.setVm vm₁, locs, cells, slots⟩ { g with stack := rest } (.invokevirtual index) mk (Value.ref b :: argsL).toArray X₁ hg hsize hdg hW (X₁.named hnamed) (hpre vm₁ X₁.warmed) with ⟨v, B, X', hpost, hsteps⟩ | ⟨q, B, X', hpost, hsteps⟩
  · exact Or.inl ⟨v, vm₁, B, X₁.warmed, X', hpost, fun target h => hstep₁ _ fun acts => by rw [doInvoke_state]; exact hsteps.trans h⟩
  · exact Or.inr ⟨q, vm₁, B, X₁.warmed, X', hpost, hstep₁ _ fun acts => by rw [doInvoke_state]; exact hsteps⟩
theorem vx_callS (X : Stand p l e R s m args below meth c T locs cells slots) (hexec : p.tables.exec = Jvm.exec) {own : String} {index : Nat} {y : MethodName} {bytes : ByteArray} {maxL : Nat} {ret : Option FieldType}
    (hown : s.vm.findClass own = some m.cls) (hlink : (Cond.methodLink own index y).before args s = true) (hstat : (Cond.static y).before args s = true) (hinit : (Cond.initialized y.cls).before args s = true)
    (hcode : (Cond.code y bytes maxL ret).before args s = true) (hy : y.cls ≠ "java/lang/invoke/MethodHandle" ∧ y.cls ≠ "java/lang/invoke/VarHandle")
    {W9 : Nat} {Pre : Pt → Array Value → Prop} {Post : Pt → Array Value → Option Value → Pt → Prop} {PostX : Pt → Array Value → Addr → Pt → Prop} (hK : vx_Back l R p e below s args y 3 W9 Pre Post PostX)
    {g : JFrame} (hg : g.method = m) (hsize : g.locals.size = c.maxLocals) {argsL rest : List Value} (hlen : ∀ sig, parseMethodDescriptor y.desc = some sig → argsL.length = sig.parameters.length)
    (hstack : g.stack = argsL.reverse ++ rest) (hW : 2 * g.monitorRoom + (rest.map fun v => v.category).sum ≤ W9) (hdg : decode c.code g.pc = .ok (.invokestatic index, 3))
    (hpre : ∀ vm₁, s.WarmedH vm₁ → Pre ⟨T.setVm vm₁, locs, cells, slots⟩ argsL.toArray) :
    (∃ (v : Option Value) (vm₁ : Vm) (B : Pt), s.WarmedH vm₁ ∧ Stand p l e R s m args below meth c B.U B.locs B.cells B.slots ∧ Post ⟨T.setVm vm₁, locs, cells, slots⟩ argsL.toArray v B ∧
      ∀ target, Steps p.tables e below (B.U.setTop { g with pc := g.pc + 3, stack := v.toList ++ rest }) target → Steps p.tables e below (T.setTop g) target) ∨
    (∃ (q : Addr) (vm₁ : Vm) (B : Pt), s.WarmedH vm₁ ∧ Stand p l e R s m args below meth c B.U B.locs B.cells B.slots ∧ PostX ⟨T.setVm vm₁, locs, cells, slots⟩ argsL.toArray q B ∧
      Steps p.tables e below (T.setTop g) ((B.U.setTop { g with stack := rest }).pushFrame (.throwing q))) := by
  obtain ⟨mk, hnamed⟩ := Cond.code_named hcode
  obtain ⟨methM, cM, hmethM, -, -, -, -, -, -, hsigM⟩ := Cond.code_spec hnamed hcode
  have hstatic : methM.isStatic = true := Cond.static_spec hnamed hmethM hstat
  obtain ⟨kP, hkP, -⟩ := className_of_methodNamed hnamed
  have hinitP : kP.init = .initialized := Cond.initialized_spec (findClass_of_methodNamed hnamed) hkP hinit
  obtain ⟨vm₁, X₁, hstep₁⟩ := X.invokestatic hexec hown hlink hnamed hmethM hstatic hkP hinitP hy (g := g) hg (argsL := argsL) (rest := rest) (hlen _ hsigM) hstack hdg
  rcases hK m meth c ⟨T.setVm vm₁, locs, cells, slots⟩ { g with stack := rest } (.invokestatic index) mk argsL.toArray X₁ hg hsize hdg hW (X₁.named hnamed) (hpre vm₁ X₁.warmed) with ⟨v, B, X', hpost, hsteps⟩ | ⟨q, B, X', hpost, hsteps⟩
  · exact Or.inl ⟨v, vm₁, B, X₁.warmed, X', hpost, fun target h => hstep₁ _ fun acts => by rw [doInvoke_state]; exact hsteps.trans h⟩
  · exact Or.inr ⟨q, vm₁, B, X₁.warmed, X', hpost, hstep₁ _ fun acts => by rw [doInvoke_state]; exact hsteps⟩
end Calls
theorem vx_cls {s : State} {T : State} {vm₁ : Vm} {E : String} {k : ClassId} (hW : s.WarmedH vm₁) (h : (T.setVm vm₁).vm.findClass E = some k) : s.vm.findClass E = some k := by
  have h1 : vm₁.findClass E = some k := h
  rw [hW.alike.findClass] at h1
  exact h1
/-- the method's frame g, with q thrown over it -/
def vx_W (p : Program) (l : Launch) (e : Env) (R : Room) (s : State) (m : MethodId) (args : Array Value) (below : List Frame) (meth : Method) (c : Code) (H : Heap) (locs : List Loc) (cells slots : Nat) (Q : State → Prop) (g : JFrame) (q : Addr) : Prop :=
  ∀ T : State, T.heap = H → Stand p l e R s m args below meth c T locs cells slots → ∃ t, Steps p.tables e below ((T.setTop g).pushFrame (.throwing q)) t ∧ Q t
def vx_Run (p : Program) (l : Launch) (e : Env) (R : Room) (s : State) (m : MethodId) (args : Array Value) (below : List Frame) (meth : Method) (c : Code) (H : Heap) (locs : List Loc) (cells slots mc ms : Nat) (g : JFrame) (rest : List Value) (Qa : State → Outcome → State → Prop) (XC : String → State → State → Prop) (free : Addr → Prop) : Prop :=
  ∀ T : State, T.heap = H → Stand p l e R s m args below meth c T locs cells slots →
    (∃ (v : Option Value) (st₀ t T' : State) (L : List Loc), st₀.heap = H ∧ Stand p l e R s m args below meth c T' (locs ++ L) (cells + mc) (slots + ms) ∧ (∀ q ∈ L, free q.base) ∧ T'.heap = t.heap ∧ T'.vm = t.vm ∧ Qa st₀ (.returned v) t ∧
      Goes p e below T g T' { g with pc := g.pc + 3, stack := v.toList ++ rest }) ∨
    (∃ (q : Addr) (st₀ t T' : State) (L : List Loc) (E : String) (ce : Cell), st₀.heap = H ∧ Stand p l e R s m args below meth c T' (locs ++ L) (cells + mc) (slots + ms) ∧ (∀ z ∈ L, free z.base) ∧ T'.heap = t.heap ∧ T'.vm = t.vm ∧ XC E st₀ t ∧ t.heap[q]? = some ce ∧ ce.vm = .none ∧ s.vm.findClass E = some ce.cls ∧
      Steps p.tables e below (T.setTop g) ((T'.setTop { g with stack := rest }).pushFrame (.throwing q)))
def vx_X {S : Type} (px : S → Prop) (B : String → S → State → Prop) (A : Nat → Prop) : String → State → State → Prop := fun E st t => ∃ u : S, px u ∧ B E u t ∧ va_F A st t
section Runs
variable {p : Program} {l : Launch} {e : Env} {R : Room} {s : State} {m : MethodId} {args : Array Value} {below : List Frame} {meth : Method} {c : Code} {H : Heap} {locs : List Loc} {cells slots : Nat}
variable {y : MethodName} {bytes cc : ByteArray} {maxL nL mc ms n index : Nat} {ret : Option FieldType} {ws : List Cond} {rm : Room} {Pc : Array Value → State → Prop} {Qc : Array Value → State → Outcome → State → Prop} {XC : String → State → State → Prop} {free : Addr → Prop} {Ts : List Cond} {own C : String} {b : Addr} {As rest : List Value} {g : JFrame}
theorem vx_callBack (cb : CallB R s args own index y bytes maxL ret ws rm mc ms n) (hM : vx_Met l y ws rm Pc Qc XC mc ms free) (hbl : FrameBlind Pc) : vx_Back l R p e below s args y 3 8 (PreOf R mc ms Pc) (PostOf Qc mc ms free) (vx_Post XC mc ms free) := by
  obtain ⟨hrc, hrs, hfr, hlo, hws, hcw, -, hini, -⟩ := cb
  exact vx_back (bytes := bytes) (maxL := maxL) (ret := ret) hM hbl hrc hrs hfr hlo hws hcw (fun a' U hW => word_at hW (Or.inl (by first | rfl | simp [Cond.onTables, Cond.keeps, Cond.steady])) hini)
theorem vx_runV (S : CallFix p m c cc nL s args Ts own) (hM : vx_Met l y ws rm Pc Qc XC mc ms free) (cw : CallW R s args own C index y bytes maxL ret ws rm mc ms n) (hp : PreV s H C b Pc As)
    (hg : g.method = m) (hn : As.length = n) (hsize : g.locals.size = nL) (hstack : g.stack = As.reverse ++ .ref b :: rest) (hW : 2 * g.monitorRoom + (rest.map fun v => v.category).sum ≤ 8) (hdg : decode cc g.pc = .ok (.invokevirtual index, 3)) (hf : cells + mc ≤ R.cells ∧ slots + ms ≤ R.slots) :
    vx_Run p l e R s m args below meth c H locs cells slots mc ms g rest (Qc (Value.ref b :: As).toArray) XC free := by
  have hK : vx_Back l R p e below s args y 3 8 (PreOf R mc ms Pc) (PostOf Qc mc ms free) (vx_Post XC mc ms free) := vx_callBack cw.1 hM hp.1
  obtain ⟨⟨-, -, -, -, -, -, hcode, -, hy, hlen, hl⟩, hin, hse⟩ := cw
  obtain ⟨hx, hb, hml, ho, -⟩ := S
  obtain ⟨-, ⟨cellB, hcB, hoB, hclB⟩, hPc⟩ := hp
  intro T hT X
  rcases vx_callV X hx (C := C) (bytes := bytes) (maxL := maxL) (ret := ret) ho hl hin hse hcode hy hK (by rw [hT]; exact hcB) hoB hclB hg (hsize.trans hml.symm) (argsL := As) (rest := rest) (fun sig h => hn.trans (hlen sig h)) hstack hW (by rw [hb]; exact hdg)
    (fun vm₁ hW₁ => ⟨hf.1, hf.2, hPc (T.setVm vm₁) hT hW₁⟩) with ⟨v, vm₁, ⟨U', l2, c2, s2⟩, hW₁, X', ⟨g', mk, t, L, e1, e2, hq, h1, hL, h2, h3⟩, st⟩ | ⟨q, vm₁, ⟨U', l2, c2, s2⟩, hW₁, X', ⟨g', mk, t, L, E, ce, e1, e2, hq, hce, hcv, hcl, h1, hL, h2, h3⟩, st⟩
  · dsimp only [Pt.U, Pt.locs, Pt.cells, Pt.slots] at X' e1 e2 h1 h2 h3 st
    subst h1; subst h2; subst h3
    exact Or.inl ⟨v, (T.setVm vm₁).calling g' mk (Value.ref b :: As).toArray, t, U', L, hT, X', hL, e1, e2, hq, st⟩
  · dsimp only [Pt.U, Pt.locs, Pt.cells, Pt.slots] at X' e1 e2 h1 h2 h3 st hcl
    subst h1; subst h2; subst h3
    exact Or.inr ⟨q, (T.setVm vm₁).calling g' mk (Value.ref b :: As).toArray, t, U', L, E, ce, hT, X', hL, e1, e2, hq, hce, hcv, vx_cls hW₁ hcl, st⟩
theorem vx_runS (S : CallFix p m c cc nL s args Ts own) (hM : vx_Met l y ws rm Pc Qc XC mc ms free) (cw : CallB R s args own index y bytes maxL ret ws rm mc ms n ∧ (Cond.static y).before args s = true) (hp : PreS s H Pc As)
    (hg : g.method = m) (hn : As.length = n) (hsize : g.locals.size = nL) (hstack : g.stack = As.reverse ++ rest) (hW : 2 * g.monitorRoom + (rest.map fun v => v.category).sum ≤ 8) (hdg : decode cc g.pc = .ok (.invokestatic index, 3)) (hf : cells + mc ≤ R.cells ∧ slots + ms ≤ R.slots) :
    vx_Run p l e R s m args below meth c H locs cells slots mc ms g rest (Qc As.toArray) XC free := by
  have hK : vx_Back l R p e below s args y 3 8 (PreOf R mc ms Pc) (PostOf Qc mc ms free) (vx_Post XC mc ms free) := vx_callBack cw.1 hM hp.1
  obtain ⟨⟨-, -, -, -, -, -, hcode, hini, hy, hlen, hl⟩, hstt⟩ := cw
  obtain ⟨hx, hb, hml, ho, -⟩ := S
  intro T hT X
  rcases vx_callS X hx (bytes := bytes) (maxL := maxL) (ret := ret) ho hl hstt hini hcode hy hK hg (hsize.trans hml.symm) (argsL := As) (rest := rest) (fun sig h => hn.trans (hlen sig h)) hstack hW (by rw [hb]; exact hdg)
    (fun vm₁ hW₁ => ⟨hf.1, hf.2, hp.2 (T.setVm vm₁) hT hW₁⟩) with ⟨v, vm₁, ⟨U', l2, c2, s2⟩, hW₁, X', ⟨g', mk, t, L, e1, e2, hq, h1, hL, h2, h3⟩, st⟩ | ⟨q, vm₁, ⟨U', l2, c2, s2⟩, hW₁, X', ⟨g', mk, t, L, E, ce, e1, e2, hq, hce, hcv, hcl, h1, hL, h2, h3⟩, st⟩
  · dsimp only [Pt.U, Pt.locs, Pt.cells, Pt.slots] at X' e1 e2 h1 h2 h3 st
    subst h1; subst h2; subst h3
    exact Or.inl ⟨v, (T.setVm vm₁).calling g' mk As.toArray, t, U', L, hT, X', hL, e1, e2, hq, st⟩
  · dsimp only [Pt.U, Pt.locs, Pt.cells, Pt.slots] at X' e1 e2 h1 h2 h3 st hcl
    subst h1; subst h2; subst h3
    exact Or.inr ⟨q, (T.setVm vm₁).calling g' mk As.toArray, t, U', L, E, ce, hT, X', hL, e1, e2, hq, hce, hcv, vx_cls hW₁ hcl, st⟩
end Runs
section Rows
variable {p : Program} {l : Launch} {e : Env} {R : Room} {s : State} {m : MethodId} {args : Array Value} {below : List Frame} {meth : Method} {c : Code} {H : Heap} {locs : List Loc} {cells slots : Nat} {Q : State → Prop}
variable {mc ms : Nat} {free : Addr → Prop} {A0 A1 : Nat → Prop} {H0 : Heap} {a : Array Value} {pc : Nat} {ls : Array Slot} {st0 rest : List Value}
theorem vx_keep {st₀ t T' : State} {L : List Loc} (h0 : st₀.heap = H) (e1 : T'.heap = t.heap) (hS : va_S A0 H0 H locs) (hA : ∀ q, q < H.size → A1 q → A0 q) (hf : ∀ q, free q → A0 q) (hL : ∀ q ∈ L, free q.base) (hF : va_F A1 st₀ t) :
    H.size ≤ T'.heap.size ∧ (∀ q : Nat, q < H.size → ¬ A1 q → T'.heap[q]? = H[q]?) ∧ va_S A0 H0 T'.heap (locs ++ L) := by
  obtain ⟨hz, hk⟩ := hF
  rw [h0] at hz hk
  exact ⟨by rw [e1]; exact hz, fun q h1 h2 => by rw [e1]; exact hk q h1 h2,
    ⟨Nat.le_trans hS.1 (by rw [e1]; exact hz), fun q h1 h2 => by rw [e1, hk q (Nat.lt_of_lt_of_le h1 hS.1) (fun z => h2 (hA q (Nat.lt_of_lt_of_le h1 hS.1) z))]; exact hS.2.1 q h1 h2, fun q hq => by
      rcases List.mem_append.mp hq with h | h
      · exact hS.2.2 q h
      · exact hf _ (hL q h)⟩⟩
theorem vx_calli {S SX : Type} {post : Int32 → S → Prop} {px : SX → Prop} {B : S → State → Prop} {BX : String → SX → State → Prop} {AX : Nat → Prop} (hr : vx_Run p l e R s m args below meth c H locs cells slots mc ms (F0 m pc ls st0) rest (va_Qi post B A1 a) (vx_X px BX AX) free) (hS : va_S A0 H0 H locs) (hA : ∀ q, q < H.size → A1 q → A0 q) (hf : ∀ q, free q → A0 q) (hAX : ∀ q, q < H.size → AX q → A0 q)
    (kx : ∀ (E : String) (ce : Cell) (q9 : Addr) (u : SX) (t : State) (H1 : Heap) (locs1 : List Loc), t.heap = H1 → s.vm.Alike t.vm → px u → BX E u t → H.size ≤ H1.size → (∀ q : Nat, q < H.size → ¬ AX q → H1[q]? = H[q]?) → va_S A0 H0 H1 locs1 → H1[q9]? = some ce → ce.vm = .none → s.vm.findClass E = some ce.cls → vx_W p l e R s m args below meth c H1 locs1 (cells + mc) (slots + ms) Q (F0 m pc ls rest) q9)
    (kk : ∀ (r : Int32) (u : S) (t : State) (H1 : Heap) (locs1 : List Loc), t.heap = H1 → s.vm.Alike t.vm → post r u → B u t → H.size ≤ H1.size → (∀ q : Nat, q < H.size → ¬ A1 q → H1[q]? = H[q]?) → va_S A0 H0 H1 locs1 → W p l e R s m args below meth c H1 locs1 (cells + mc) (slots + ms) Q (F0 m (pc + 3) ls (.int r :: rest))) : W p l e R s m args below meth c H locs cells slots Q (F0 m pc ls st0) := by
  intro T hT X
  rcases hr T hT X with ⟨v, st₀, t, T', L, h0, X', hL, e1, e2, ⟨⟨r, u, hv, hp, hb⟩, hF⟩, st⟩ | ⟨q, st₀, t, T', L, E, ce, h0, X', hL, e1, e2, ⟨u, hp, hb, hF⟩, hce, hcv, hcl, st⟩
  · cases hv
    obtain ⟨k1, k2, k3⟩ := vx_keep h0 e1 hS hA hf hL hF
    obtain ⟨t2, a1, b1⟩ := kk r u t T'.heap (locs ++ L) e1.symm (by rw [← e2]; exact X'.warmed.alike) hp hb k1 k2 k3 T' rfl X'
    exact ⟨t2, st t2 a1, b1⟩
  · obtain ⟨k1, k2, k3⟩ := vx_keep h0 e1 hS hAX hf hL hF
    obtain ⟨t2, a1, b1⟩ := kx E ce q u t T'.heap (locs ++ L) e1.symm (by rw [← e2]; exact X'.warmed.alike) hp hb k1 k2 k3 (by rw [e1]; exact hce) hcv hcl T' rfl X'
    exact ⟨t2, st.trans a1, b1⟩
theorem vx_calll {S SX : Type} {post : Int64 → S → Prop} {px : SX → Prop} {B : S → State → Prop} {BX : String → SX → State → Prop} {AX : Nat → Prop} (hr : vx_Run p l e R s m args below meth c H locs cells slots mc ms (F0 m pc ls st0) rest (va_Ql post B A1 a) (vx_X px BX AX) free) (hS : va_S A0 H0 H locs) (hA : ∀ q, q < H.size → A1 q → A0 q) (hf : ∀ q, free q → A0 q) (hAX : ∀ q, q < H.size → AX q → A0 q)
    (kx : ∀ (E : String) (ce : Cell) (q9 : Addr) (u : SX) (t : State) (H1 : Heap) (locs1 : List Loc), t.heap = H1 → s.vm.Alike t.vm → px u → BX E u t → H.size ≤ H1.size → (∀ q : Nat, q < H.size → ¬ AX q → H1[q]? = H[q]?) → va_S A0 H0 H1 locs1 → H1[q9]? = some ce → ce.vm = .none → s.vm.findClass E = some ce.cls → vx_W p l e R s m args below meth c H1 locs1 (cells + mc) (slots + ms) Q (F0 m pc ls rest) q9)
    (kk : ∀ (r : Int64) (u : S) (t : State) (H1 : Heap) (locs1 : List Loc), t.heap = H1 → s.vm.Alike t.vm → post r u → B u t → H.size ≤ H1.size → (∀ q : Nat, q < H.size → ¬ A1 q → H1[q]? = H[q]?) → va_S A0 H0 H1 locs1 → W p l e R s m args below meth c H1 locs1 (cells + mc) (slots + ms) Q (F0 m (pc + 3) ls (.long r :: rest))) : W p l e R s m args below meth c H locs cells slots Q (F0 m pc ls st0) := by
  intro T hT X
  rcases hr T hT X with ⟨v, st₀, t, T', L, h0, X', hL, e1, e2, ⟨⟨r, u, hv, hp, hb⟩, hF⟩, st⟩ | ⟨q, st₀, t, T', L, E, ce, h0, X', hL, e1, e2, ⟨u, hp, hb, hF⟩, hce, hcv, hcl, st⟩
  · cases hv
    obtain ⟨k1, k2, k3⟩ := vx_keep h0 e1 hS hA hf hL hF
    obtain ⟨t2, a1, b1⟩ := kk r u t T'.heap (locs ++ L) e1.symm (by rw [← e2]; exact X'.warmed.alike) hp hb k1 k2 k3 T' rfl X'
    exact ⟨t2, st t2 a1, b1⟩
  · obtain ⟨k1, k2, k3⟩ := vx_keep h0 e1 hS hAX hf hL hF
    obtain ⟨t2, a1, b1⟩ := kx E ce q u t T'.heap (locs ++ L) e1.symm (by rw [← e2]; exact X'.warmed.alike) hp hb k1 k2 k3 (by rw [e1]; exact hce) hcv hcl T' rfl X'
    exact ⟨t2, st.trans a1, b1⟩
theorem vx_callf {S SX : Type} {post : UInt32 → S → Prop} {px : SX → Prop} {B : S → State → Prop} {BX : String → SX → State → Prop} {AX : Nat → Prop} (hr : vx_Run p l e R s m args below meth c H locs cells slots mc ms (F0 m pc ls st0) rest (va_Qf post B A1 a) (vx_X px BX AX) free) (hS : va_S A0 H0 H locs) (hA : ∀ q, q < H.size → A1 q → A0 q) (hf : ∀ q, free q → A0 q) (hAX : ∀ q, q < H.size → AX q → A0 q)
    (kx : ∀ (E : String) (ce : Cell) (q9 : Addr) (u : SX) (t : State) (H1 : Heap) (locs1 : List Loc), t.heap = H1 → s.vm.Alike t.vm → px u → BX E u t → H.size ≤ H1.size → (∀ q : Nat, q < H.size → ¬ AX q → H1[q]? = H[q]?) → va_S A0 H0 H1 locs1 → H1[q9]? = some ce → ce.vm = .none → s.vm.findClass E = some ce.cls → vx_W p l e R s m args below meth c H1 locs1 (cells + mc) (slots + ms) Q (F0 m pc ls rest) q9)
    (kk : ∀ (r : UInt32) (u : S) (t : State) (H1 : Heap) (locs1 : List Loc), t.heap = H1 → s.vm.Alike t.vm → post r u → B u t → H.size ≤ H1.size → (∀ q : Nat, q < H.size → ¬ A1 q → H1[q]? = H[q]?) → va_S A0 H0 H1 locs1 → W p l e R s m args below meth c H1 locs1 (cells + mc) (slots + ms) Q (F0 m (pc + 3) ls (.float r :: rest))) : W p l e R s m args below meth c H locs cells slots Q (F0 m pc ls st0) := by
  intro T hT X
  rcases hr T hT X with ⟨v, st₀, t, T', L, h0, X', hL, e1, e2, ⟨⟨r, u, hv, hp, hb⟩, hF⟩, st⟩ | ⟨q, st₀, t, T', L, E, ce, h0, X', hL, e1, e2, ⟨u, hp, hb, hF⟩, hce, hcv, hcl, st⟩
  · cases hv
    obtain ⟨k1, k2, k3⟩ := vx_keep h0 e1 hS hA hf hL hF
    obtain ⟨t2, a1, b1⟩ := kk r u t T'.heap (locs ++ L) e1.symm (by rw [← e2]; exact X'.warmed.alike) hp hb k1 k2 k3 T' rfl X'
    exact ⟨t2, st t2 a1, b1⟩
  · obtain ⟨k1, k2, k3⟩ := vx_keep h0 e1 hS hAX hf hL hF
    obtain ⟨t2, a1, b1⟩ := kx E ce q u t T'.heap (locs ++ L) e1.symm (by rw [← e2]; exact X'.warmed.alike) hp hb k1 k2 k3 (by rw [e1]; exact hce) hcv hcl T' rfl X'
    exact ⟨t2, st.trans a1, b1⟩
theorem vx_calld {S SX : Type} {post : UInt64 → S → Prop} {px : SX → Prop} {B : S → State → Prop} {BX : String → SX → State → Prop} {AX : Nat → Prop} (hr : vx_Run p l e R s m args below meth c H locs cells slots mc ms (F0 m pc ls st0) rest (va_Qd post B A1 a) (vx_X px BX AX) free) (hS : va_S A0 H0 H locs) (hA : ∀ q, q < H.size → A1 q → A0 q) (hf : ∀ q, free q → A0 q) (hAX : ∀ q, q < H.size → AX q → A0 q)
    (kx : ∀ (E : String) (ce : Cell) (q9 : Addr) (u : SX) (t : State) (H1 : Heap) (locs1 : List Loc), t.heap = H1 → s.vm.Alike t.vm → px u → BX E u t → H.size ≤ H1.size → (∀ q : Nat, q < H.size → ¬ AX q → H1[q]? = H[q]?) → va_S A0 H0 H1 locs1 → H1[q9]? = some ce → ce.vm = .none → s.vm.findClass E = some ce.cls → vx_W p l e R s m args below meth c H1 locs1 (cells + mc) (slots + ms) Q (F0 m pc ls rest) q9)
    (kk : ∀ (r : UInt64) (u : S) (t : State) (H1 : Heap) (locs1 : List Loc), t.heap = H1 → s.vm.Alike t.vm → post r u → B u t → H.size ≤ H1.size → (∀ q : Nat, q < H.size → ¬ A1 q → H1[q]? = H[q]?) → va_S A0 H0 H1 locs1 → W p l e R s m args below meth c H1 locs1 (cells + mc) (slots + ms) Q (F0 m (pc + 3) ls (.double r :: rest))) : W p l e R s m args below meth c H locs cells slots Q (F0 m pc ls st0) := by
  intro T hT X
  rcases hr T hT X with ⟨v, st₀, t, T', L, h0, X', hL, e1, e2, ⟨⟨r, u, hv, hp, hb⟩, hF⟩, st⟩ | ⟨q, st₀, t, T', L, E, ce, h0, X', hL, e1, e2, ⟨u, hp, hb, hF⟩, hce, hcv, hcl, st⟩
  · cases hv
    obtain ⟨k1, k2, k3⟩ := vx_keep h0 e1 hS hA hf hL hF
    obtain ⟨t2, a1, b1⟩ := kk r u t T'.heap (locs ++ L) e1.symm (by rw [← e2]; exact X'.warmed.alike) hp hb k1 k2 k3 T' rfl X'
    exact ⟨t2, st t2 a1, b1⟩
  · obtain ⟨k1, k2, k3⟩ := vx_keep h0 e1 hS hAX hf hL hF
    obtain ⟨t2, a1, b1⟩ := kx E ce q u t T'.heap (locs ++ L) e1.symm (by rw [← e2]; exact X'.warmed.alike) hp hb k1 k2 k3 (by rw [e1]; exact hce) hcv hcl T' rfl X'
    exact ⟨t2, st.trans a1, b1⟩
theorem vx_callv {S SX : Type} {post : S → Prop} {px : SX → Prop} {B : S → State → Prop} {BX : String → SX → State → Prop} {AX : Nat → Prop} (hr : vx_Run p l e R s m args below meth c H locs cells slots mc ms (F0 m pc ls st0) rest (va_Qv post B A1 a) (vx_X px BX AX) free) (hS : va_S A0 H0 H locs) (hA : ∀ q, q < H.size → A1 q → A0 q) (hf : ∀ q, free q → A0 q) (hAX : ∀ q, q < H.size → AX q → A0 q)
    (kx : ∀ (E : String) (ce : Cell) (q9 : Addr) (u : SX) (t : State) (H1 : Heap) (locs1 : List Loc), t.heap = H1 → s.vm.Alike t.vm → px u → BX E u t → H.size ≤ H1.size → (∀ q : Nat, q < H.size → ¬ AX q → H1[q]? = H[q]?) → va_S A0 H0 H1 locs1 → H1[q9]? = some ce → ce.vm = .none → s.vm.findClass E = some ce.cls → vx_W p l e R s m args below meth c H1 locs1 (cells + mc) (slots + ms) Q (F0 m pc ls rest) q9)
    (kk : ∀ (u : S) (t : State) (H1 : Heap) (locs1 : List Loc), t.heap = H1 → s.vm.Alike t.vm → post u → B u t → H.size ≤ H1.size → (∀ q : Nat, q < H.size → ¬ A1 q → H1[q]? = H[q]?) → va_S A0 H0 H1 locs1 → W p l e R s m args below meth c H1 locs1 (cells + mc) (slots + ms) Q (F0 m (pc + 3) ls (rest))) : W p l e R s m args below meth c H locs cells slots Q (F0 m pc ls st0) := by
  intro T hT X
  rcases hr T hT X with ⟨v, st₀, t, T', L, h0, X', hL, e1, e2, ⟨⟨u, hv, hp, hb⟩, hF⟩, st⟩ | ⟨q, st₀, t, T', L, E, ce, h0, X', hL, e1, e2, ⟨u, hp, hb, hF⟩, hce, hcv, hcl, st⟩
  · cases hv
    obtain ⟨k1, k2, k3⟩ := vx_keep h0 e1 hS hA hf hL hF
    obtain ⟨t2, a1, b1⟩ := kk u t T'.heap (locs ++ L) e1.symm (by rw [← e2]; exact X'.warmed.alike) hp hb k1 k2 k3 T' rfl X'
    exact ⟨t2, st t2 a1, b1⟩
  · obtain ⟨k1, k2, k3⟩ := vx_keep h0 e1 hS hAX hf hL hF
    obtain ⟨t2, a1, b1⟩ := kx E ce q u t T'.heap (locs ++ L) e1.symm (by rw [← e2]; exact X'.warmed.alike) hp hb k1 k2 k3 (by rw [e1]; exact hce) hcv hcl T' rfl X'
    exact ⟨t2, st.trans a1, b1⟩
/-- caught by the row x of this method's table; the rows ahead don't take it -/
theorem vx_catch {own name : String} {E : String} {ce : Cell} {q : Addr} (hown : s.vm.findClass own = some m.cls) (pre : List ExceptionTableEntry) (x : ExceptionTableEntry) (suf : List ExceptionTableEntry) (hsplit : c.exceptionTable.toList = pre ++ x :: suf)
    (hpass : ∀ z ∈ pre, covers z pc = false ∨ (z.catchType ≠ 0 ∧ ∃ nm : String, (Cond.classLink own z.catchType nm).before args s = true ∧ va_Nc E nm s)) (hx : covers x pc = true) (h0 : x.catchType ≠ 0)
    (hlink : (Cond.classLink own x.catchType name).before args s = true) (hcast : (Cond.castable E name).before args s = true) (hcell : H[q]? = some ce) (hv : ce.vm = .none) (hcl : s.vm.findClass E = some ce.cls)
    (kk : W p l e R s m args below meth c H locs cells slots Q (F0 m x.handlerPc ls [.ref q])) : vx_W p l e R s m args below meth c H locs cells slots Q (F0 m pc ls rest) q := by
  intro T hT X
  have hpl : e.platform.magicAccessors = ({} : Platform).magicAccessors := by rw [X.admits.platform]
  obtain ⟨c3, c4, hc3, hc4, hasg⟩ := Cond.castable_spec hcast
  cases Option.some.inj (hc3.symm.trans hcl)
  obtain ⟨c5, hc5, hcl5⟩ := Cond.classLink_spec hown hlink e.platform hpl
  cases Option.some.inj (hc4.symm.trans hc5)
  obtain ⟨vm', X', st⟩ := X.thenCaughtThrough q (g := F0 m pc ls rest) rfl (Steps.refl _) (by rw [hT]; exact hcell) (by rw [hv]; rfl) (by obtain ⟨k9, h9, -⟩ := Vm.findClass_spec hcl; exact ⟨k9, h9⟩) pre x suf hsplit
    (fun z hz => by
      rcases hpass z hz with h | ⟨hz0, nm, hl1, hn1⟩
      · exact Or.inl h
      · obtain ⟨c6, hc6, hcl6⟩ := Cond.classLink_spec hown hl1 e.platform hpl
        obtain ⟨a8, b8, h1, h2, h3⟩ := hn1
        cases Option.some.inj (h1.symm.trans hcl)
        cases Option.some.inj (h2.symm.trans hc6)
        exact Or.inr ⟨hz0, _, hcl6, h3⟩) hx (Or.inr ⟨h0, c4, hcl5, hasg⟩)
  obtain ⟨t, a1, b1⟩ := kk (T.setVm vm') hT X'
  exact ⟨t, st.trans a1, b1⟩
end Rows
section Ends
variable {p : Program} {l : Launch} {e : Env} {R : Room} {s : State} {m : MethodId} {args : Array Value} {below : List Frame} {meth : Method} {c : Code} {H : Heap} {locs : List Loc} {cells slots : Nat} {Q : State → Prop}
variable {mc ms : Nat} {free : Addr → Prop} {A0 A1 : Nat → Prop} {H0 : Heap} {a : Array Value} {ls : Array Slot} {st0 rest : List Value}
variable {Qc : Array Value → State → Outcome → State → Prop} {XC : String → State → State → Prop}
/-- what a body that may throw owes at its end -/
def vx_MQ (below : List Frame) (Qc : Array Value → State → Outcome → State → Prop) (XC : String → State → State → Prop) (a : Array Value) (s : State) (mc ms : Nat) (free : Addr → Prop) : State → Prop := fun t =>
  ∃ o, t.status = .running ∧ Ended t below o ∧ vx_Q Qc XC mc ms free a s o t
theorem vx_ret {g : JFrame} {mc ms : Nat} (k : W p l e R s m args below meth c H locs cells slots (MQ below Qc args s mc ms free) g) : W p l e R s m args below meth c H locs cells slots (vx_MQ below Qc XC args s mc ms free) g := by
  intro T hT X
  obtain ⟨t, a1, o, b1, b2, b3, b4⟩ := k T hT X
  exact ⟨t, a1, o, b1, b2, Or.inl ⟨b3, b4⟩⟩
/-- not caught here: it goes on to the caller -/
theorem vx_widen {g : JFrame} {q : Addr} {k n : Nat} (h1 : cells ≤ k) (h2 : slots ≤ n) (kk : vx_W p l e R s m args below meth c H locs k n Q g q) : vx_W p l e R s m args below meth c H locs cells slots Q g q := fun T hT X => kk T hT (stand_widen X h1 h2)
theorem vx_out {pc : Nat} {E : String} {ce : Cell} {q : Addr} {mc ms : Nat} (hout : ∀ x ∈ c.exceptionTable.toList, covers x pc = false) (hlocks : meth.locks = false) (hcell : H[q]? = some ce) (hv : ce.vm = .none) (hcl : s.vm.findClass E = some ce.cls)
    (hx : ∀ t : State, t.heap = H → s.vm.Alike t.vm → XC E s t) (hf : ∀ z ∈ locs, free z.base) (hc : cells ≤ mc) (hs : slots ≤ ms) :
    vx_W p l e R s m args below meth c H locs cells slots (vx_MQ below Qc XC args s mc ms free) (F0 m pc ls rest) q := by
  intro T hT X
  obtain ⟨st1, hrun, hend, hW, hsm⟩ := X.leaveThrown q (g := F0 m pc ls rest) rfl rfl rfl hout hlocks
  have hcell9 : (T.setFrames (.throwing q :: below)).heap[q]? = some ce := by
    show T.heap[q]? = some ce
    rw [hT]; exact hcell
  exact ⟨_, st1, .threw q, hrun, hend, Or.inr ⟨q, rfl, E, ce, locs, hx _ hT hW.alike, hcell9, hv, hcl, hW, hsm.mono hc hs, hf⟩⟩
theorem vx_frame {U : State} {k n : Nat} (h : s.sameButNew ({ U with vm := s.vm } : State) locs k n) : s.heap.size ≤ U.heap.size ∧ ∀ q : Nat, q < s.heap.size → (∀ z ∈ locs, z.base ≠ q) → U.heap[q]? = s.heap[q]? := by
  obtain ⟨-, h2, -, -, -, h6⟩ := h
  refine ⟨h2, fun q hq hz => ?_⟩
  obtain ⟨c9, e1, e2, e3, e4⟩ := h6 q _ (Array.getElem?_eq_getElem hq)
  have hs : c9.slots = (s.heap[q]).slots := Array.ext_getElem? fun i => e4 i fun hm => hz _ hm rfl
  have h9 : c9 = s.heap[q] := by
    rw [hs] at e2
    exact e2
  have e5 : U.heap[q]? = some c9 := e1
  rw [e5, h9, Array.getElem?_eq_getElem hq]
/-- the words of a throw but the four that speak of the heap -/
def vx_no (w : Cond) : Bool := decide (w ≠ .isRef (.static Bundle.tN "UNASSIGNED_STACK" Bundle.steD)) && decide (w ≠ .isRef (.static Bundle.tN "SUPPRESSED_SENTINEL" Bundle.listD)) && decide (w ≠ .laysStatic Bundle.tN "UNASSIGNED_STACK" Bundle.steD) && decide (w ≠ .laysStatic Bundle.tN "SUPPRESSED_SENTINEL" Bundle.listD)
def vx_at0 (own : String) (ic : Nat) (X : String) (names : List String) : List Cond := (Bundle.ownAtoms0 own ic X names).filter vx_no
def vx_atS (own : String) (ic : Nat) (X : String) (names : List String) : List Cond := (Bundle.ownAtoms own ic X names).filter vx_no
/-- a word that the tables alone decide, or a good one -/
def vx_ot (w : Cond) : Bool := w.onTables || goodWord w
theorem vx_ot_at {args a' : Array Value} {s U : State} {w : Cond} (hW : s.WarmedH U.vm) (hvm : s.vm = U.vm) (hg : vx_ot w = true) (h : w.before args s = true) : w.before a' U = true := by
  simp only [vx_ot, Bool.or_eq_true] at hg
  rcases hg with hg | hg
  · exact va_tabs hg hvm h
  · exact word_at hW (good_of_word hg) h
/-- a list's words: the good ones out of the method's own list, the others by premises of their own -/
theorem vx_hat {args : Array Value} {s : State} {L B : List Cond} (h1 : ∀ w ∈ L.filter goodWord, w.before args s = true) (h2 : ∀ w ∈ L.filter (fun w => !goodWord w), w ∈ B) (h3 : ∀ w ∈ B, w.before args s = true) : ∀ w ∈ L, w.before args s = true := by
  intro w hw
  by_cases g : goodWord w = true
  · exact h1 w (List.mem_filter.mpr ⟨hw, g⟩)
  · refine h3 w (h2 w (List.mem_filter.mpr ⟨hw, ?_⟩))
    show (!goodWord w) = true
    cases hgw : goodWord w
    · rfl
    · exact absurd hgw g
theorem vx_c {args : Array Value} {s : State} {w : Cond} {B : List Cond} (h : w.before args s = true) (t : ∀ w ∈ B, w.before args s = true) : ∀ w' ∈ w :: B, w'.before args s = true := fun w' h' => (List.mem_cons.mp h').elim (fun e => by rw [e]; exact h) (t w')
theorem vx_n {args : Array Value} {s : State} : ∀ w ∈ ([] : List Cond), w.before args s = true := fun _ h => nomatch h
theorem vx_own {args : Array Value} {s : State} {L : List Cond} (h1 : ∀ w ∈ L.filter vx_no, w.before args s = true)
    (hU : (Cond.isRef (.static Bundle.tN "UNASSIGNED_STACK" Bundle.steD)).before args s = true) (hN : (Cond.isRef (.static Bundle.tN "SUPPRESSED_SENTINEL" Bundle.listD)).before args s = true)
    (lU : (Cond.laysStatic Bundle.tN "UNASSIGNED_STACK" Bundle.steD).before args s = true) (lN : (Cond.laysStatic Bundle.tN "SUPPRESSED_SENTINEL" Bundle.listD).before args s = true) : ∀ w ∈ L, w.before args s = true := by
  intro w hw
  by_cases e1 : w = .isRef (.static Bundle.tN "UNASSIGNED_STACK" Bundle.steD)
  · rw [e1]; exact hU
  · by_cases e2 : w = .isRef (.static Bundle.tN "SUPPRESSED_SENTINEL" Bundle.listD)
    · rw [e2]; exact hN
    · by_cases e3 : w = .laysStatic Bundle.tN "UNASSIGNED_STACK" Bundle.steD
      · rw [e3]; exact lU
      · by_cases e4 : w = .laysStatic Bundle.tN "SUPPRESSED_SENTINEL" Bundle.listD
        · rw [e4]; exact lN
        · exact h1 w (List.mem_filter.mpr ⟨hw, by unfold vx_no; rw [decide_eq_true e1, decide_eq_true e2, decide_eq_true e3, decide_eq_true e4]; rfl⟩)
/-- where a static field lies, its class's statics cell in H -/
def vx_L (C n d : String) (A : Nat → Prop) (U : State) (H : Heap) : Prop := ∃ (c : ClassId) (k : Class) (i : Nat) (f : Field) (a : Nat) (cell : Cell), U.vm.findClass C = some c ∧ U.fieldFound? C n d = some (c, k, i, f) ∧ f.isStatic = true ∧ k.statics = some a ∧ H[a]? = some cell ∧ cell.vm.isStatics = true ∧ cell.cls = c ∧ f.slot < cell.slots.size ∧ k.staticTypes[f.slot]? = some f.type ∧ ¬ A a
theorem vx_L.moved {C n d : String} {A : Nat → Prop} {u U : State} {H : Heap} (hvm : u.vm.Alike U.vm) (h : vx_L C n d A u H) : vx_L C n d A U H := by
  obtain ⟨c, k, i, f, a, cell, h1, h2, h3, h4, h5, h6, h7, h8, h9, h10⟩ := h
  obtain ⟨k', hi', he⟩ := State.fieldFound?_setVm hvm h2
  exact ⟨c, k', i, f, a, cell, by rw [hvm.findClass]; exact h1, hi', h3, by rw [he]; exact h4, h5, h6, h7, h8, by rw [he]; exact h9, h10⟩
theorem vx_L.kept {C n d : String} {A : Nat → Prop} {U : State} {H H1 : Heap} (h : vx_L C n d A U H) (hq : ∀ a : Nat, a < H.size → ¬ A a → H1[a]? = H[a]?) : vx_L C n d A U H1 := by
  obtain ⟨c, k, i, f, a, cell, h1, h2, h3, h4, h5, h6, h7, h8, h9, h10⟩ := h
  exact ⟨c, k, i, f, a, cell, h1, h2, h3, h4, by rw [hq a (Array.getElem?_eq_some_iff.mp h5).1 h10]; exact h5, h6, h7, h8, h9, h10⟩
theorem vx_L.narrow {C n d : String} {A B : Nat → Prop} {U : State} {H : Heap} (h : vx_L C n d A U H) (hAB : ∀ q, B q → A q) : vx_L C n d B U H := by
  obtain ⟨c, k, i, f, a, cell, h1, h2, h3, h4, h5, h6, h7, h8, h9, h10⟩ := h
  exact ⟨c, k, i, f, a, cell, h1, h2, h3, h4, h5, h6, h7, h8, h9, fun z => h10 (hAB _ z)⟩
theorem vx_L.word {C n d : String} {A : Nat → Prop} {s : State} {args : Array Value} (h : vx_L C n d A s s.heap) : (Cond.laysStatic C n d).before args s = true := by
  obtain ⟨c, k, i, f, a, cell, h1, h2, h3, h4, h5, h6, h7, h8, h9, -⟩ := h
  show (Cond.laysStatic C n d).holds args s none s [] = true
  exact Cond.laysStatic_of h1 h2 h3 h4 h5 h6 h7 h8 h9
/-- .. and what it holds: null or some reference -/
def vx_Zq (C n d : String) (A : Nat → Prop) (U : State) (H : Heap) : Prop := va_Zq C n d A U H ∧ vx_L C n d A U H
theorem vx_Zq.moved {C n d : String} {A : Nat → Prop} {u U : State} {H : Heap} (hvm : u.vm.Alike U.vm) (h : vx_Zq C n d A u H) : vx_Zq C n d A U H := ⟨va_Zq.moved hvm h.1, vx_L.moved hvm h.2⟩
theorem vx_Zq.kept {C n d : String} {A : Nat → Prop} {U : State} {H H1 : Heap} (h : vx_Zq C n d A U H) (hq : ∀ a : Nat, a < H.size → ¬ A a → H1[a]? = H[a]?) : vx_Zq C n d A U H1 := ⟨va_Zq.kept h.1 hq, vx_L.kept h.2 hq⟩
theorem vx_Zq.narrow {C n d : String} {A B : Nat → Prop} {U : State} {H : Heap} (h : vx_Zq C n d A U H) (hAB : ∀ q, B q → A q) : vx_Zq C n d B U H := ⟨va_Zq.narrow h.1 hAB, vx_L.narrow h.2 hAB⟩
theorem vx_Zqof {args : Array Value} {s : State} {C n d : String} {A : Nat → Prop} (hl : (Cond.laysStatic C n d).before args s = true) (hini : (Cond.initialized C).before args s = true) (h : (Cond.isRef (.static C n d)).before args s = true) (hA : ∀ a : Nat, a < s.heap.size → ¬ A a) : vx_Zq C n d A s s.heap := by
  refine ⟨va_Zqof hl hini h hA, ?_⟩
  obtain ⟨c, k, i, f, a, cell, h1, h2, h3, h4, h5, h6, h7, h8, h9⟩ := Cond.laysStatic_spec hl
  exact ⟨c, k, i, f, a, cell, h1, h2, h3, h4, h5, h6, h7, h8, h9, hA a (Array.getElem?_eq_some_iff.mp h5).1⟩
theorem vx_isRef {C n d : String} {v : Value} {A : Nat → Prop} {s : State} {args : Array Value} (h : va_Z C n d v A s s.heap) (hv : v.isRef = true) : (Cond.isRef (.static C n d)).before args s = true := by
  obtain ⟨cf, kf, fi, f, a, cell, h1, h2, h3, h4, h5, h6, h7, -⟩ := h
  have he : (Term.static C n d).eval args s none [] s = some v := by
    simp [Term.eval, State.fieldNamed?, h1, h2, h4, h5, h6, h7]
  simp only [Cond.before, Cond.holds, Cond.value, he]
  cases v <;> simp_all [Value.isRef]
theorem vx_isRefq {C n d : String} {A : Nat → Prop} {s : State} {args : Array Value} (h : va_Zq C n d A s s.heap) : (Cond.isRef (.static C n d)).before args s = true := by
  rcases h with h | ⟨t, h⟩
  · exact vx_isRef h rfl
  · exact vx_isRef h rfl
/-- the same frame, seen from here: as if the method were called anew in this heap -/
theorem vx_rebase {T : State} (X : Stand p l e R s m args below meth c T locs cells slots) {R' : Room} (hf : R'.frames ≤ R.frames) (hl : R'.locals ≤ R.locals) (hc : cells + R'.cells ≤ R.cells) (hs : slots + R'.slots ≤ R.slots) :
    Stand p l e R' ((T.setVm s.vm).setFrames (.invoking m args :: below)) m args below meth c T [] 0 0 := by
  have htop : (T.setVm s.vm).topJava?.isSome := X.here.top
  have hF : ((T.setVm s.vm).setFrames (.invoking m args :: below)).frames = .invoking m args :: below := State.frames_setFrames _ (State.cur_lt_of_top htop)
  obtain ⟨g₀, hg0⟩ := Option.isSome_iff_exists.mp htop
  obtain ⟨r, hr⟩ := State.topJava?_eq_some.mp hg0
  have hl9 : e.platform.stackLimits (T.setVm s.vm).me = e.platform.stackLimits s.me := X.limits
  have hb9 : (T.setVm s.vm).me.stackBytes = s.me.stackBytes := X.bytes
  refine ⟨X.admits, X.cas, X.clock, hF, ?_, X.hears, X.method, X.code, X.here, X.tail, X.warmed, ?_, ?_, ?_⟩
  · have h := X.room
    have hU : ((T.setVm s.vm).setFrames (.invoking m args :: below)).localsInUse = s.localsInUse := by
      rw [State.localsInUse_invoking hF (meth := meth) (c := c) X.method X.code, State.localsInUse_invoking X.frames X.method X.code]
    simp only [State.hasRoom, Bool.and_eq_true, decide_eq_true_eq] at h ⊢
    obtain ⟨⟨⟨⟨h1, h2, h3, h4, h5, h6⟩, h7⟩, h8⟩, h9⟩ := h
    rw [X.frames, List.length_cons] at h2 h3
    have q1 := X.heapSize
    have q2 := X.used
    simp only [hF, hU, List.length_cons, State.stackLimits_setFrames, State.stackBytes_setFrames, hl9, hb9]
    refine ⟨⟨⟨⟨by omega, by omega, by omega, by omega, by omega, h6⟩, ?_⟩, ?_⟩, X.book⟩
    · show T.heap.size + R'.cells ≤ e.platform.maxCells
      omega
    · show T.slotsUsed + R'.slots ≤ e.platform.maxSlots
      omega
  · rw [State.stackLimits_setFrames]; rfl
  · rw [State.stackBytes_setFrames]; rfl
  · refine ⟨?_, Nat.le_refl _, Nat.le_refl _, ?_, ?_, fun a c9 h9 => ⟨c9, h9, rfl, rfl, fun _ _ => rfl⟩⟩
    · obtain ⟨t, ht, -⟩ := State.frames_cons hr
      show T.setVm s.vm = { ((T.setVm s.vm).setFrames (.invoking m args :: below)).setFrames (T.setVm s.vm).frames with heap := T.heap, slotsUsed := T.slotsUsed }
      rw [State.setFrames_setFrames, State.setFrames_self ht]
      rfl
    · show T.slotsUsed = T.slotsUsed + ((T.heap.toList.drop T.heap.size).map (·.slots.size)).sum
      rw [List.drop_eq_nil_of_le (Nat.le_of_eq Array.length_toList)]
      rfl
    · show ((T.heap.toList.drop T.heap.size).map (·.slots.size)).sum ≤ 0
      rw [List.drop_eq_nil_of_le (Nat.le_of_eq Array.length_toList)]
      exact Nat.le_refl _
/-- 'throw new E()': new; dup; invokespecial; athrow -/
theorem vx_throw0 {cc : ByteArray} {pc : Nat} (hexec : p.tables.exec = Jvm.exec) (hb : c.code = cc) (hl : l.stackTraces = false) {own cls : String} {names : List String} {ik ic mc ms : Nat} {A : Nat → Prop}
    (hown : s.vm.findClass own = some m.cls) (hcls : Bundle.fit cls = true) (hnames : ∀ n ∈ names, Bundle.fit n = true)
    (hk : (Cond.classLink own ik cls).before args s = true) (hini : (Cond.initialized cls).before args s = true) (hat : ∀ w ∈ vx_at0 own ic cls names, w.before args s = true)
    (hgood : ∀ w ∈ Cond.classLink own ik cls :: Cond.initialized cls :: vx_at0 own ic cls names, vx_ot w = true)
    (hU : vx_Zq Bundle.tN "UNASSIGNED_STACK" Bundle.steD A s s.heap) (hN : vx_Zq Bundle.tN "SUPPRESSED_SENTINEL" Bundle.listD A s s.heap) (hS : va_S A s.heap H locs) (hsize : ls.size = c.maxLocals)
    (d0 : decode cc pc = .ok (.new ik, 3)) (d3 : decode cc (pc + 3) = .ok (.dup, 1)) (d4 : decode cc (pc + 4) = .ok (.invokespecial ic, 3)) (d7 : decode cc (pc + 7) = .ok (.athrow, 1))
    (hout : ∀ x ∈ c.exceptionTable.toList, covers x (pc + 7) = false)
    (hRframes : names.length + 3 < R.frames) (hRlocals : (rest.map fun v => v.category).sum + (13 * (names.length + 1) + 42) ≤ R.locals) (hRcells : cells + 1 ≤ R.cells) (hRslots : slots + 6 ≤ R.slots) (hlocks : meth.locks = false)
    (hx : ∀ t : State, s.vm.Alike t.vm → H.size ≤ t.heap.size → (∀ q : Nat, q < H.size → t.heap[q]? = H[q]?) → XC cls s t)
    (hf : ∀ z ∈ locs, free z.base) (hc : cells + 1 ≤ mc) (hs : slots + 6 ≤ ms) :
    W p l e R s m args below meth c H locs cells slots (vx_MQ below Qc XC args s mc ms free) (F0 m pc ls rest) := by
  intro T hT X
  have htr : e.platform.stackTraces = false := (show e.platform.stackTraces = l.stackTraces by rw [X.admits.platform]).trans hl
  have Y := vx_rebase X (R' := { frames := R.frames, locals := R.locals, cells := 1, slots := 6 }) (Nat.le_refl _) (Nat.le_refl _) hRcells hRslots
  obtain ⟨s', hA⟩ : ∃ z, z = (T.setVm s.vm).setFrames (.invoking m args :: below) := ⟨_, rfl⟩
  rw [← hA] at Y
  have hvm : s'.vm = s.vm := by rw [hA]; rfl
  have hhp : s'.heap = H := by rw [hA]; exact hT
  have hW0 : s.WarmedH s'.vm := by rw [hvm]; exact State.WarmedH.refl s
  have hat' : ∀ w ∈ vx_at0 own ic cls names, w.before args s' = true := fun w hw => vx_ot_at hW0 hvm.symm (hgood w (List.mem_cons_of_mem _ (List.mem_cons_of_mem _ hw))) (hat w hw)
  have hk' : (Cond.classLink own ik cls).before args s' = true := vx_ot_at hW0 hvm.symm (hgood _ List.mem_cons_self) hk
  have hini' : (Cond.initialized cls).before args s' = true := vx_ot_at hW0 hvm.symm (hgood _ (List.mem_cons_of_mem _ List.mem_cons_self)) hini
  have hU' : vx_Zq Bundle.tN "UNASSIGNED_STACK" Bundle.steD A s' s'.heap := by rw [hhp]; exact vx_Zq.moved hW0.alike (hU.kept hS.2.1)
  have hN' : vx_Zq Bundle.tN "SUPPRESSED_SENTINEL" Bundle.listD A s' s'.heap := by rw [hhp]; exact vx_Zq.moved hW0.alike (hN.kept hS.2.1)
  have h : ∀ w ∈ Bundle.ownAtoms0 own ic cls names, w.before args s' = true := vx_own hat' (vx_isRefq hU'.1) (vx_isRefq hN'.1) hU'.2.word hN'.2.word
  have hown' : s'.vm.findClass own = some m.cls := by rw [hvm]; exact hown
  have hins : (Cond.instantiable cls 6).before args s' = true := h _ (by simp [Bundle.ownAtoms0])
  obtain ⟨vm₁, cX, kX, hfX, hkX, -, -, X₁, st1⟩ := Y.newCold hexec (own := own) (C := cls) (index := ik) (n := 6) hown' hk' hins hini'
    (g := F0 m pc ls rest) rfl (by rw [hb]; exact d0) (Nat.le_refl _) (Nat.le_refl _)
  generalize hT1 : (T.setVm vm₁).pushCell { cls := cX, slots := kX.instanceTypes.map defaultValue, vm := .none } = T1 at X₁ st1
  have hcat : (Value.ref T.heap.size).category = 1 := rfl
  have hcellA : T1.heap[T.heap.size]? = some (freshCell cX kX) := by rw [← hT1]; exact State.heap_pushCell_size _ _
  have d3' : decode c.code (pc + 3) = .ok (.dup, 1) := by rw [hb]; exact d3
  obtain ⟨U, hsteps, hrun, hend, hW, hsame, ce, hce, hO⟩ := X₁.ctorThrow0 hexec htr (own := own) (cls := cls) (names := names) (ic := ic) hown' hcls hnames h (fun x hx => nomatch hx) hfX hkX hcellA (by rw [hhp, hT]; exact Nat.le_refl _)
    (g := { method := m, pc := pc + 4, locals := ls, stack := .ref T.heap.size :: .ref T.heap.size :: rest, locked := none }) rfl hsize rfl rfl (rest := rest) rfl
    (by rw [hb]; exact d4) (by rw [hb]; exact d7) hout hRframes (by simp only [List.map_cons, List.sum_cons, hcat]; omega) hlocks
  obtain ⟨f1, f2⟩ := vx_frame hsame
  rw [hhp] at f1 f2
  have hWs : s.WarmedH U.vm := State.WarmedH.trans hW0 hW
  have hcl : s.vm.findClass cls = some ce.cls := by
    have h9 := hO.cls
    rw [hvm] at h9
    exact h9
  have hall : s.sameButNew ({ U with vm := s.vm } : State) locs mc ms := by
    subst hA
    obtain ⟨e1, e2⟩ := hsame
    rw [State.setFrames_setFrames] at e1
    have h2 : (T.setVm s.vm).sameButNew ({ U with vm := s.vm } : State) [] (0 + 1) (0 + 6) := ⟨e1, e2⟩
    have h3 := X.same.trans h2
    rw [List.append_nil] at h3
    exact h3.mono hc hs
  refine ⟨U, ?_, .threw T.heap.size, hrun, hend, Or.inr ⟨T.heap.size, rfl, cls, ce, locs, hx U hWs.alike f1 (fun q hq => f2 q hq (fun z hz => nomatch hz)), hce, hO.vm, hcl, hWs, hall, hf⟩⟩
  refine st1 _ ?_
  show Steps p.tables e below (T1.setTop { method := m, pc := pc + 3, locals := ls, stack := .ref T.heap.size :: rest, locked := none }) _
  jvm_step X₁.here [X₁.here.top, hexec, d3', Value.category]
  exact hsteps
/-- 'throw new E("text")': new; dup; ldc; invokespecial; athrow -/
theorem vx_throwS {cc : ByteArray} {pc : Nat} (hexec : p.tables.exec = Jvm.exec) (hb : c.code = cc) (hl : l.stackTraces = false) {own cls text : String} {names : List String} {ik is ic mc ms sa : Nat} {A : Nat → Prop}
    (hown : s.vm.findClass own = some m.cls) (hcls : Bundle.fit cls = true) (hnames : ∀ n ∈ names, Bundle.fit n = true)
    (hk : (Cond.classLink own ik cls).before args s = true) (hini : (Cond.initialized cls).before args s = true) (hstr : vk_R own is text sa s) (hat : ∀ w ∈ vx_atS own ic cls names, w.before args s = true)
    (hgood : ∀ w ∈ Cond.classLink own ik cls :: Cond.initialized cls :: vx_atS own ic cls names, vx_ot w = true)
    (hU : vx_Zq Bundle.tN "UNASSIGNED_STACK" Bundle.steD A s s.heap) (hN : vx_Zq Bundle.tN "SUPPRESSED_SENTINEL" Bundle.listD A s s.heap) (hS : va_S A s.heap H locs) (hsize : ls.size = c.maxLocals)
    (d0 : decode cc pc = .ok (.new ik, 3)) (d3 : decode cc (pc + 3) = .ok (.dup, 1)) (d4 : decode cc (pc + 4) = .ok (.ldc is, 2)) (d6 : decode cc (pc + 6) = .ok (.invokespecial ic, 3)) (d9 : decode cc (pc + 9) = .ok (.athrow, 1))
    (hout : ∀ x ∈ c.exceptionTable.toList, covers x (pc + 9) = false)
    (hRframes : names.length + 3 < R.frames) (hRlocals : (rest.map fun v => v.category).sum + (13 * (names.length + 1) + 43) ≤ R.locals) (hRcells : cells + 1 ≤ R.cells) (hRslots : slots + 6 ≤ R.slots) (hlocks : meth.locks = false)
    (hx : ∀ t : State, s.vm.Alike t.vm → H.size ≤ t.heap.size → (∀ q : Nat, q < H.size → t.heap[q]? = H[q]?) → XC cls s t)
    (hf : ∀ z ∈ locs, free z.base) (hc : cells + 1 ≤ mc) (hs : slots + 6 ≤ ms) :
    W p l e R s m args below meth c H locs cells slots (vx_MQ below Qc XC args s mc ms free) (F0 m pc ls rest) := by
  intro T hT X
  have htr : e.platform.stackTraces = false := (show e.platform.stackTraces = l.stackTraces by rw [X.admits.platform]).trans hl
  have Y := vx_rebase X (R' := { frames := R.frames, locals := R.locals, cells := 1, slots := 6 }) (Nat.le_refl _) (Nat.le_refl _) hRcells hRslots
  obtain ⟨s', hA⟩ : ∃ z, z = (T.setVm s.vm).setFrames (.invoking m args :: below) := ⟨_, rfl⟩
  rw [← hA] at Y
  have hvm : s'.vm = s.vm := by rw [hA]; rfl
  have hhp : s'.heap = H := by rw [hA]; exact hT
  have hW0 : s.WarmedH s'.vm := by rw [hvm]; exact State.WarmedH.refl s
  have hat' : ∀ w ∈ vx_atS own ic cls names, w.before args s' = true := fun w hw => vx_ot_at hW0 hvm.symm (hgood w (List.mem_cons_of_mem _ (List.mem_cons_of_mem _ hw))) (hat w hw)
  have hk' : (Cond.classLink own ik cls).before args s' = true := vx_ot_at hW0 hvm.symm (hgood _ List.mem_cons_self) hk
  have hini' : (Cond.initialized cls).before args s' = true := vx_ot_at hW0 hvm.symm (hgood _ (List.mem_cons_of_mem _ List.mem_cons_self)) hini
  have hU' : vx_Zq Bundle.tN "UNASSIGNED_STACK" Bundle.steD A s' s'.heap := by rw [hhp]; exact vx_Zq.moved hW0.alike (hU.kept hS.2.1)
  have hN' : vx_Zq Bundle.tN "SUPPRESSED_SENTINEL" Bundle.listD A s' s'.heap := by rw [hhp]; exact vx_Zq.moved hW0.alike (hN.kept hS.2.1)
  have h : ∀ w ∈ Bundle.ownAtoms own ic cls names, w.before args s' = true := vx_own hat' (vx_isRefq hU'.1) (vx_isRefq hN'.1) hU'.2.word hN'.2.word
  have hown' : s'.vm.findClass own = some m.cls := by rw [hvm]; exact hown
  have hins : (Cond.instantiable cls 6).before args s' = true := h _ (by simp [Bundle.ownAtoms])
  obtain ⟨vm₁, cX, kX, hfX, hkX, -, -, X₁, st1⟩ := Y.newCold hexec (own := own) (C := cls) (index := ik) (n := 6) hown' hk' hins hini'
    (g := F0 m pc ls rest) rfl (by rw [hb]; exact d0) (Nat.le_refl _) (Nat.le_refl _)
  generalize hT1 : (T.setVm vm₁).pushCell { cls := cX, slots := kX.instanceTypes.map defaultValue, vm := .none } = T1 at X₁ st1
  have hcat : (Value.ref T.heap.size).category = 1 := rfl
  have hcellA : T1.heap[T.heap.size]? = some (freshCell cX kX) := by rw [← hT1]; exact State.heap_pushCell_size _ _
  have d3' : decode c.code (pc + 3) = .ok (.dup, 1) := by rw [hb]; exact d3
  have d4' : decode c.code (pc + 4) = .ok (.ldc is, 2) := by rw [hb]; exact d4
  have hstr' : vk_R own is text sa s' := vk_R.warm hW0 hstr
  obtain ⟨U, hsteps, hrun, hend, hW, hsame, ce, hce, hO⟩ := X₁.ctorThrowS hexec htr (own := own) (cls := cls) (names := names) (ic := ic) hown' hcls hnames h (fun x hx => nomatch hx) hfX hkX hcellA (by rw [hhp, hT]; exact Nat.le_refl _) (msg := .ref sa) rfl
    (g := { method := m, pc := pc + 6, locals := ls, stack := .ref sa :: .ref T.heap.size :: .ref T.heap.size :: rest, locked := none }) rfl hsize rfl rfl (rest := rest) rfl
    (by rw [hb]; exact d6) (by rw [hb]; exact d9) hout hRframes (by simp only [List.map_cons, List.sum_cons, hcat]; omega) hlocks
  obtain ⟨f1, f2⟩ := vx_frame hsame
  rw [hhp] at f1 f2
  have hWs : s.WarmedH U.vm := State.WarmedH.trans hW0 hW
  have hcl : s.vm.findClass cls = some ce.cls := by
    have h9 := hO.cls
    rw [hvm] at h9
    exact h9
  have hall : s.sameButNew ({ U with vm := s.vm } : State) locs mc ms := by
    subst hA
    obtain ⟨e1, e2⟩ := hsame
    rw [State.setFrames_setFrames] at e1
    have h2 : (T.setVm s.vm).sameButNew ({ U with vm := s.vm } : State) [] (0 + 1) (0 + 6) := ⟨e1, e2⟩
    have h3 := X.same.trans h2
    rw [List.append_nil] at h3
    exact h3.mono hc hs
  refine ⟨U, ?_, .threw T.heap.size, hrun, hend, Or.inr ⟨T.heap.size, rfl, cls, ce, locs, hx U hWs.alike f1 (fun q hq => f2 q hq (fun z hz => nomatch hz)), hce, hO.vm, hcl, hWs, hall, hf⟩⟩
  refine st1 _ ?_
  show Steps p.tables e below (T1.setTop { method := m, pc := pc + 3, locals := ls, stack := .ref T.heap.size :: rest, locked := none }) _
  jvm_step X₁.here [X₁.here.top, hexec, d3', Value.category]
  exact X₁.ldcString hexec (own := own) (text := text) (index := is) (a := sa) hown' hstr'.1 hstr'.2
    (g := { method := m, pc := pc + 4, locals := ls, stack := .ref T.heap.size :: .ref T.heap.size :: rest, locked := none }) rfl d4' _ hsteps
/-- 'throw new E("text")', the text by a wide index -/
theorem vx_throwSW {cc : ByteArray} {pc : Nat} (hexec : p.tables.exec = Jvm.exec) (hb : c.code = cc) (hl : l.stackTraces = false) {own cls text : String} {names : List String} {ik is ic mc ms sa : Nat} {A : Nat → Prop}
    (hown : s.vm.findClass own = some m.cls) (hcls : Bundle.fit cls = true) (hnames : ∀ n ∈ names, Bundle.fit n = true)
    (hk : (Cond.classLink own ik cls).before args s = true) (hini : (Cond.initialized cls).before args s = true) (hstr : vk_R own is text sa s) (hat : ∀ w ∈ vx_atS own ic cls names, w.before args s = true)
    (hgood : ∀ w ∈ Cond.classLink own ik cls :: Cond.initialized cls :: vx_atS own ic cls names, vx_ot w = true)
    (hU : vx_Zq Bundle.tN "UNASSIGNED_STACK" Bundle.steD A s s.heap) (hN : vx_Zq Bundle.tN "SUPPRESSED_SENTINEL" Bundle.listD A s s.heap) (hS : va_S A s.heap H locs) (hsize : ls.size = c.maxLocals)
    (d0 : decode cc pc = .ok (.new ik, 3)) (d3 : decode cc (pc + 3) = .ok (.dup, 1)) (d4 : decode cc (pc + 4) = .ok (.ldc_w is, 3)) (d7 : decode cc (pc + 7) = .ok (.invokespecial ic, 3)) (d10 : decode cc (pc + 10) = .ok (.athrow, 1))
    (hout : ∀ x ∈ c.exceptionTable.toList, covers x (pc + 10) = false)
    (hRframes : names.length + 3 < R.frames) (hRlocals : (rest.map fun v => v.category).sum + (13 * (names.length + 1) + 43) ≤ R.locals) (hRcells : cells + 1 ≤ R.cells) (hRslots : slots + 6 ≤ R.slots) (hlocks : meth.locks = false)
    (hx : ∀ t : State, s.vm.Alike t.vm → H.size ≤ t.heap.size → (∀ q : Nat, q < H.size → t.heap[q]? = H[q]?) → XC cls s t)
    (hf : ∀ z ∈ locs, free z.base) (hc : cells + 1 ≤ mc) (hs : slots + 6 ≤ ms) :
    W p l e R s m args below meth c H locs cells slots (vx_MQ below Qc XC args s mc ms free) (F0 m pc ls rest) := by
  intro T hT X
  have htr : e.platform.stackTraces = false := (show e.platform.stackTraces = l.stackTraces by rw [X.admits.platform]).trans hl
  have Y := vx_rebase X (R' := { frames := R.frames, locals := R.locals, cells := 1, slots := 6 }) (Nat.le_refl _) (Nat.le_refl _) hRcells hRslots
  obtain ⟨s', hA⟩ : ∃ z, z = (T.setVm s.vm).setFrames (.invoking m args :: below) := ⟨_, rfl⟩
  rw [← hA] at Y
  have hvm : s'.vm = s.vm := by rw [hA]; rfl
  have hhp : s'.heap = H := by rw [hA]; exact hT
  have hW0 : s.WarmedH s'.vm := by rw [hvm]; exact State.WarmedH.refl s
  have hat' : ∀ w ∈ vx_atS own ic cls names, w.before args s' = true := fun w hw => vx_ot_at hW0 hvm.symm (hgood w (List.mem_cons_of_mem _ (List.mem_cons_of_mem _ hw))) (hat w hw)
  have hk' : (Cond.classLink own ik cls).before args s' = true := vx_ot_at hW0 hvm.symm (hgood _ List.mem_cons_self) hk
  have hini' : (Cond.initialized cls).before args s' = true := vx_ot_at hW0 hvm.symm (hgood _ (List.mem_cons_of_mem _ List.mem_cons_self)) hini
  have hU' : vx_Zq Bundle.tN "UNASSIGNED_STACK" Bundle.steD A s' s'.heap := by rw [hhp]; exact vx_Zq.moved hW0.alike (hU.kept hS.2.1)
  have hN' : vx_Zq Bundle.tN "SUPPRESSED_SENTINEL" Bundle.listD A s' s'.heap := by rw [hhp]; exact vx_Zq.moved hW0.alike (hN.kept hS.2.1)
  have h : ∀ w ∈ Bundle.ownAtoms own ic cls names, w.before args s' = true := vx_own hat' (vx_isRefq hU'.1) (vx_isRefq hN'.1) hU'.2.word hN'.2.word
  have hown' : s'.vm.findClass own = some m.cls := by rw [hvm]; exact hown
  have hins : (Cond.instantiable cls 6).before args s' = true := h _ (by simp [Bundle.ownAtoms])
  obtain ⟨vm₁, cX, kX, hfX, hkX, -, -, X₁, st1⟩ := Y.newCold hexec (own := own) (C := cls) (index := ik) (n := 6) hown' hk' hins hini'
    (g := F0 m pc ls rest) rfl (by rw [hb]; exact d0) (Nat.le_refl _) (Nat.le_refl _)
  generalize hT1 : (T.setVm vm₁).pushCell { cls := cX, slots := kX.instanceTypes.map defaultValue, vm := .none } = T1 at X₁ st1
  have hcat : (Value.ref T.heap.size).category = 1 := rfl
  have hcellA : T1.heap[T.heap.size]? = some (freshCell cX kX) := by rw [← hT1]; exact State.heap_pushCell_size _ _
  have d3' : decode c.code (pc + 3) = .ok (.dup, 1) := by rw [hb]; exact d3
  have d4' : decode c.code (pc + 4) = .ok (.ldc_w is, 3) := by rw [hb]; exact d4
  have hstr' : vk_R own is text sa s' := vk_R.warm hW0 hstr
  obtain ⟨U, hsteps, hrun, hend, hW, hsame, ce, hce, hO⟩ := X₁.ctorThrowS hexec htr (own := own) (cls := cls) (names := names) (ic := ic) hown' hcls hnames h (fun x hx => nomatch hx) hfX hkX hcellA (by rw [hhp, hT]; exact Nat.le_refl _) (msg := .ref sa) rfl
    (g := { method := m, pc := pc + 7, locals := ls, stack := .ref sa :: .ref T.heap.size :: .ref T.heap.size :: rest, locked := none }) rfl hsize rfl rfl (rest := rest) rfl
    (by rw [hb]; exact d7) (by rw [hb]; exact d10) hout hRframes (by simp only [List.map_cons, List.sum_cons, hcat]; omega) hlocks
  obtain ⟨f1, f2⟩ := vx_frame hsame
  rw [hhp] at f1 f2
  have hWs : s.WarmedH U.vm := State.WarmedH.trans hW0 hW
  have hcl : s.vm.findClass cls = some ce.cls := by
    have h9 := hO.cls
    rw [hvm] at h9
    exact h9
  have hall : s.sameButNew ({ U with vm := s.vm } : State) locs mc ms := by
    subst hA
    obtain ⟨e1, e2⟩ := hsame
    rw [State.setFrames_setFrames] at e1
    have h2 : (T.setVm s.vm).sameButNew ({ U with vm := s.vm } : State) [] (0 + 1) (0 + 6) := ⟨e1, e2⟩
    have h3 := X.same.trans h2
    rw [List.append_nil] at h3
    exact h3.mono hc hs
  refine ⟨U, ?_, .threw T.heap.size, hrun, hend, Or.inr ⟨T.heap.size, rfl, cls, ce, locs, hx U hWs.alike f1 (fun q hq => f2 q hq (fun z hz => nomatch hz)), hce, hO.vm, hcl, hWs, hall, hf⟩⟩
  refine st1 _ ?_
  show Steps p.tables e below (T1.setTop { method := m, pc := pc + 3, locals := ls, stack := .ref T.heap.size :: rest, locked := none }) _
  jvm_step X₁.here [X₁.here.top, hexec, d3', Value.category]
  exact X₁.ldcStringW hexec (own := own) (text := text) (index := is) (a := sa) hown' hstr'.1 hstr'.2
    (g := { method := m, pc := pc + 4, locals := ls, stack := .ref T.heap.size :: .ref T.heap.size :: rest, locked := none }) rfl d4' _ hsteps
end Ends
section Bodies
variable {l : Launch}
theorem vx_ofW {y : MethodName} {ws ws' : List Cond} {rm : Room} {Pc : Array Value → State → Prop} {Qc : Array Value → State → Outcome → State → Prop} {XC : String → State → State → Prop} {mc ms : Nat} {free : Addr → Prop} {cc : ByteArray} {maxL : Nat} {ret : Option FieldType}
    (hy : plainName y.cls = true) (hw : ws = Cond.code y cc maxL ret :: ws')
    (body : ∀ p e s m args below meth c s₁, BodyLoose p l y (headSpec ws rm) cc maxL ret e s m args below meth c s₁ → c.maxLocals = maxL → (∀ x ∈ c.exceptionTable.toList, False) → Pc args s →
      W p l e (headSpec ws rm).room s m args below meth c s.heap [] 0 0 (vx_MQ below Qc XC args s mc ms free) (entryFrame m args maxL)) : vx_Met l y ws rm Pc Qc XC mc ms free := by
  refine MetFree.of_bodyS (code := cc) (maxLocals := maxL) (ret := ret) hy ?_ ?_
  · intro args s m h hn
    obtain ⟨meth, c, h1, h2, h3, h4, h5, h6, -, -⟩ := Cond.code_spec hn (atoms_spec (ws := ws) h _ (by rw [hw]; exact List.mem_cons_self))
    exact ⟨meth, c, h1, h2, h3, h4, h5, h6⟩
  · intro p e s m args below meth c s₁ B hml hP _
    have hh0 : s₁.heap = s.heap := by rw [B.state]; rfl
    have ht : ∀ x ∈ c.exceptionTable.toList, False := by
      obtain ⟨meth9, c9, h1, h2, -, -, -, -, h7, -⟩ := Cond.code_spec B.named (atoms_spec (ws := ws) B.pre _ (by rw [hw]; exact List.mem_cons_self))
      cases Option.some.inj (h1.symm.trans B.method)
      cases Option.some.inj (h2.symm.trans (Stand.of_body B).code)
      intro x hx
      rw [Array.isEmpty_iff.mp h7] at hx
      cases hx
    obtain ⟨t, a1, o, b1, b2, b3⟩ := body p e s m args below meth c s₁ B hml ht hP s₁ hh0 (Stand.of_body B)
    exact ⟨t, o, a1, b1, b2, b3⟩
/-- the table of a body with handlers -/
theorem vx_table {p : Program} {x y : MethodName} {S : Spec} {cc bytes : ByteArray} {maxL maxL' : Nat} {ret ret' : Option FieldType} {e : Env} {s s₁ : State} {m : MethodId} {args : Array Value} {below : List Frame} {meth : Method} {c : Code} {hh : List (Nat × Nat × Nat × Nat)}
    (B : BodyLoose p l y S cc maxL ret e s m args below meth c s₁) (h : (Cond.codeWith y bytes maxL' ret' hh).before args s = true) : c.exceptionTable.toList = tableOf hh := by
  obtain ⟨m9, meth9, c9, hn9, h1, h2, -, -, h6, -⟩ := Cond.codeWith_spec h
  cases Option.some.inj (hn9.symm.trans B.named)
  cases Option.some.inj (h1.symm.trans B.method)
  cases Option.some.inj (h2.symm.trans (Stand.of_body B).code)
  rw [← h6, table_eq]
end Bodies
end VXA
/-! ===== END ===== -/
/-! ===== BEGIN a static call of a method with an exception table ===== -/
section VXS
variable {p : Program} {l : Launch} {e : Env} {R : Room} {s : State} {m : MethodId} {args : Array Value} {below : List Frame} {meth : Method} {c : Code} {T : State} {H : Heap} {locs : List Loc} {cells slots : Nat}
abbrev vx_CSW (R : Room) (s : State) (args : Array Value) (own : String) (index : Nat) (y : MethodName) (bytes : ByteArray) (maxL : Nat) (ret : Option FieldType) (hh : List (Nat × Nat × Nat × Nat)) (ws : List Cond) (rm : Room) (mc ms n : Nat) : Prop :=
  (rm.cells = mc ∧ rm.slots = ms ∧ rm.frames + 1 ≤ R.frames ∧ 8 + (maxL + 11) + rm.locals ≤ R.locals ∧ (∀ w ∈ ws, ∀ (a' : Array Value) (U : State), s.WarmedH U.vm → w.before a' U = true) ∧ Cond.codeWith y bytes maxL ret hh ∈ ws) ∧
  (Cond.codeWith y bytes maxL ret hh).before args s = true ∧ (Cond.initialized y.cls).before args s = true ∧ (y.cls ≠ "java/lang/invoke/MethodHandle" ∧ y.cls ≠ "java/lang/invoke/VarHandle") ∧
  (∀ sig, parseMethodDescriptor y.desc = some sig → n = sig.parameters.length) ∧ (Cond.methodLink own index y).before args s = true ∧ (Cond.static y).before args s = true
theorem vx_cwSW {own : String} {index maxL mc ms : Nat} {y : MethodName} {bytes : ByteArray} {ret : Option FieldType} {hh : List (Nat × Nat × Nat × Nat)} {Ts ws ws' : List Cond} {rm : Room} (n : Nat) (ht : ∀ w ∈ Ts, w.before args s = true) (hT : GoodIn Ts (va_wsS own index y ws)) (hw : ws = Cond.codeWith y bytes maxL ret hh :: ws') (hrc : rm.cells = mc) (hrs : rm.slots = ms)
    (hd : y.cls ≠ "java/lang/invoke/MethodHandle" ∧ y.cls ≠ "java/lang/invoke/VarHandle" ∧ (parseMethodDescriptor y.desc).map (fun d => d.parameters.length) = some n) (hR : rm.frames + 1 ≤ R.frames ∧ 8 + (maxL + 11) + rm.locals ≤ R.locals) :
    vx_CSW R s args own index y bytes maxL ret hh ws rm mc ms n := by
  have ok : ∀ w ∈ va_wsS own index y ws, w.before args s = true := fun w h => ht w (hT w h).1
  have hG : GoodIn Ts ws := fun w h => hT w (by unfold va_wsS; exact List.mem_append_right _ h)
  have hc : Cond.codeWith y bytes maxL ret hh ∈ ws := by rw [hw]; exact List.mem_cons_self
  refine ⟨⟨hrc, hrs, hR.1, hR.2, pay_in ht hG, hc⟩, ht _ (hG _ hc).1, ok _ (by simp [va_wsS]), ⟨hd.1, hd.2.1⟩, fun sig h => ?_, ok _ (by simp [va_wsS]), ok _ (by simp [va_wsS])⟩
  have h2 := hd.2.2
  rw [h] at h2
  exact (Option.some.inj h2).symm
theorem vx_callSW (X : Stand p l e R s m args below meth c T locs cells slots) (hexec : p.tables.exec = Jvm.exec) {own : String} {index : Nat} {y : MethodName} {bytes : ByteArray} {maxL : Nat} {ret : Option FieldType} {hh : List (Nat × Nat × Nat × Nat)}
    (hown : s.vm.findClass own = some m.cls) (hlink : (Cond.methodLink own index y).before args s = true) (hstat : (Cond.static y).before args s = true) (hinit : (Cond.initialized y.cls).before args s = true)
    (hcode : (Cond.codeWith y bytes maxL ret hh).before args s = true) (hy : y.cls ≠ "java/lang/invoke/MethodHandle" ∧ y.cls ≠ "java/lang/invoke/VarHandle")
    {W9 : Nat} {Pre : Pt → Array Value → Prop} {Post : Pt → Array Value → Option Value → Pt → Prop} (hK : Back l R p e below s args y 3 W9 Pre Post)
    {g : JFrame} (hg : g.method = m) (hsize : g.locals.size = c.maxLocals) {argsL rest : List Value} (hlen : ∀ sig, parseMethodDescriptor y.desc = some sig → argsL.length = sig.parameters.length)
    (hstack : g.stack = argsL.reverse ++ rest) (hW : 2 * g.monitorRoom + (rest.map fun v => v.category).sum ≤ W9) (hdg : decode c.code g.pc = .ok (.invokestatic index, 3))
    (hpre : ∀ vm₁, s.WarmedH vm₁ → Pre ⟨T.setVm vm₁, locs, cells, slots⟩ argsL.toArray) :
    ∃ (v : Option Value) (vm₁ : Vm) (B : Pt), s.WarmedH vm₁ ∧ Stand p l e R s m args below meth c B.U B.locs B.cells B.slots ∧ Post ⟨T.setVm vm₁, locs, cells, slots⟩ argsL.toArray v B ∧
      ∀ target, Steps p.tables e below (B.U.setTop { g with pc := g.pc + 3, stack := v.toList ++ rest }) target → Steps p.tables e below (T.setTop g) target := by
  obtain ⟨mk, methM, cM, hnamed, hmethM, -, -, -, -, -, -, hsigM⟩ := Cond.codeWith_spec hcode
  have hstatic : methM.isStatic = true := Cond.static_spec hnamed hmethM hstat
  obtain ⟨kP, hkP, -⟩ := className_of_methodNamed hnamed
  have hinitP : kP.init = .initialized := Cond.initialized_spec (findClass_of_methodNamed hnamed) hkP hinit
  obtain ⟨vm₁, X₁, hstep₁⟩ := X.invokestatic hexec hown hlink hnamed hmethM hstatic hkP hinitP hy (g := g) hg (argsL := argsL) (rest := rest) (hlen _ hsigM) hstack hdg
  obtain ⟨v, B, X', hpost, hsteps⟩ := hK m meth c ⟨T.setVm vm₁, locs, cells, slots⟩ { g with stack := rest } (.invokestatic index) mk argsL.toArray X₁ hg hsize hdg hW (X₁.named hnamed) (hpre vm₁ X₁.warmed)
  exact ⟨v, vm₁, B, X₁.warmed, X', hpost, fun target h => hstep₁ _ fun acts => by rw [doInvoke_state]; exact hsteps.trans h⟩
theorem vx_runSW {y : MethodName} {bytes cc : ByteArray} {maxL nL mc ms n index : Nat} {ret : Option FieldType} {hh : List (Nat × Nat × Nat × Nat)} {ws : List Cond} {rm : Room} {Pc : Array Value → State → Prop} {Qc : Array Value → State → Outcome → State → Prop} {free : Addr → Prop} {Ts : List Cond} {own : String} {As rest : List Value} {g : JFrame}
    (S : CallFix p m c cc nL s args Ts own) (hM : Met l y ws rm Pc Qc mc ms free) (cw : vx_CSW R s args own index y bytes maxL ret hh ws rm mc ms n) (hp : PreS s H Pc As)
    (hg : g.method = m) (hn : As.length = n) (hsize : g.locals.size = nL) (hstack : g.stack = As.reverse ++ rest) (hW : 2 * g.monitorRoom + (rest.map fun v => v.category).sum ≤ 8) (hdg : decode cc g.pc = .ok (.invokestatic index, 3)) (hf : cells + mc ≤ R.cells ∧ slots + ms ≤ R.slots) :
    va_Run p l e R s m args below meth c H locs cells slots mc ms g rest (Qc As.toArray) (free) := by
  obtain ⟨⟨hrc, hrs, hfr, hlo, hws, hcw⟩, hcode, hini, hy, hlen, hl, hstt⟩ := cw
  have hK : Back l R p e below s args y 3 8 (PreOf R mc ms Pc) (PostOf Qc mc ms free) := va_backW (hh := hh) (bytes := bytes) (maxL := maxL) (ret := ret) hM hp.1 hrc hrs hfr hlo hws hcw (fun a' U hW => word_at hW (Or.inl (by first | rfl | simp [Cond.onTables, Cond.keeps, Cond.steady])) hini)
  obtain ⟨hx, hb, hml, ho, -⟩ := S
  intro T hT X
  obtain ⟨v, vm₁, ⟨U', l2, c2, s2⟩, hW₁, X', ⟨g', mk, t, L, e1, e2, hq, h1, hL, h2, h3⟩, st⟩ := vx_callSW X hx (hh := hh) (bytes := bytes) (maxL := maxL) (ret := ret) ho hl hstt hini hcode hy hK hg (hsize.trans hml.symm) (argsL := As) (rest := rest) (fun sig h => hn.trans (hlen sig h)) hstack hW (by rw [hb]; exact hdg)
    (fun vm₁ hW₁ => ⟨hf.1, hf.2, hp.2 (T.setVm vm₁) hT hW₁⟩)
  dsimp only [Pt.U, Pt.locs, Pt.cells, Pt.slots] at X' e1 e2 h1 h2 h3 st
  subst h1; subst h2; subst h3
  exact ⟨v, (T.setVm vm₁).calling g' mk As.toArray, t, U', L, hT, X', hL, e1, e2, hq, st⟩
/-- not caught here, past rows that name other classes: it goes on to the caller -/
theorem vx_outP {p : Program} {l : Launch} {e : Env} {R : Room} {s : State} {m : MethodId} {args : Array Value} {below : List Frame} {meth : Method} {c : Code} {H : Heap} {locs : List Loc} {cells slots : Nat} {free : Addr → Prop} {ls : Array Slot} {rest : List Value} {Qc : Array Value → State → Outcome → State → Prop} {XC : String → State → State → Prop}
    {pc : Nat} {own E : String} {ce : Cell} {q : Addr} {mc ms : Nat} (hown : s.vm.findClass own = some m.cls) (hlocks : meth.locks = false)
    (hpass : ∀ z ∈ c.exceptionTable.toList, covers z pc = false ∨ (z.catchType ≠ 0 ∧ ∃ nm : String, (Cond.classLink own z.catchType nm).before args s = true ∧ va_Nc E nm s)) (hcell : H[q]? = some ce) (hv : ce.vm = .none) (hcl : s.vm.findClass E = some ce.cls)
    (hx : ∀ t : State, t.heap = H → s.vm.Alike t.vm → XC E s t) (hf : ∀ z ∈ locs, free z.base) (hc : cells ≤ mc) (hs : slots ≤ ms) :
    vx_W p l e R s m args below meth c H locs cells slots (vx_MQ below Qc XC args s mc ms free) (F0 m pc ls rest) q := by
  intro T hT X
  have hpl : e.platform.magicAccessors = ({} : Platform).magicAccessors := by rw [X.admits.platform]
  obtain ⟨vm', hW', X', st⟩ := X.outThrough hlocks q (g := F0 m pc ls rest) rfl rfl rfl (cell := ce) (by rw [hT]; exact hcell) (by rw [hv]; rfl)
    (by obtain ⟨k9, h9, -⟩ := Vm.findClass_spec hcl; exact ⟨k9, h9⟩) (fun z hz => by
      rcases hpass z hz with h | ⟨hz0, nm, hl1, hn1⟩
      · exact Or.inl h
      · obtain ⟨c6, hc6, hcl6⟩ := Cond.classLink_spec hown hl1 e.platform hpl
        obtain ⟨a8, b8, h1, h2, h3⟩ := hn1
        cases Option.some.inj (h1.symm.trans hcl)
        cases Option.some.inj (h2.symm.trans hc6)
        exact Or.inr ⟨hz0, _, hcl6, h3⟩)
  obtain ⟨g₀, hfr⟩ := X'.frames_eq
  have hcell9 : ((T.setVm vm').setFrames (.throwing q :: below)).heap[q]? = some ce := by
    show T.heap[q]? = some ce
    rw [hT]; exact hcell
  have hend : Ended ((T.setVm vm').setFrames (.throwing q :: below)) below (.threw q) := State.frames_setFrames _ (State.cur_lt_of_frames hfr)
  refine ⟨(T.setVm vm').setFrames (.throwing q :: below), ?_, .threw q, X'.here.running, hend, Or.inr ⟨q, rfl, E, ce, locs, hx _ hT (X'.ends _).1.alike, hcell9, hv, hcl, (X'.ends _).1, (X'.ends _).2.mono hc hs, hf⟩⟩
  rw [X.pushThrowing_eq]
  exact st
/-- a thing of a world lies in the heap -/
theorem vx_lt {D : va_G} {cl : List vw_C} {ws : va_W} {H1 : Heap} (h : va_P D cl ws H1) {k : Nat} {q : Nat × va_E} (hk : ws[k]? = some q) : q.1 < H1.size := (h k q hk).lt
end VXS
/-! ===== END ===== -/
/-! ===== BEGIN methods with a table of their own: called by a name, returning or throwing ===== -/
section VXH
/-! vx_backW, vx_callVX, vx_callSX, vx_callVW, vx_runVW, vx_runVX, vx_runSX, vx_ofWH follow the same proofs as their sisters above (Free/Laws.lean, Shelf42/LK1.lean); vx_outP calls Shelf42/NT130.lean (outThrough). -/
section
variable {l : Launch} {R : Room} {p : Program} {e : Env} {below : List Frame} {s : State} {sargs : Array Value} {y : MethodName} {len W9 : Nat}
theorem vx_backW {ws : List Cond} {rm : Room} {Pc : Array Value → State → Prop} {Qc : Array Value → State → Outcome → State → Prop} {XC : String → State → State → Prop} {mc ms : Nat} {free : Addr → Prop} {bytes : ByteArray} {maxL : Nat} {ret : Option FieldType} {hh : List (Nat × Nat × Nat × Nat)}
    (hM : vx_Met l y ws rm Pc Qc XC mc ms free) (hblind : FrameBlind Pc) (hrc : rm.cells = mc) (hrs : rm.slots = ms)
    (hframes : rm.frames + 1 ≤ R.frames) (hlocals : W9 + (maxL + 11) + rm.locals ≤ R.locals)
    (hws : ∀ w ∈ ws, ∀ a' U, s.WarmedH U.vm → w.before a' U = true) (hcode : Cond.codeWith y bytes maxL ret hh ∈ ws) (hinit : ∀ a' U, s.WarmedH U.vm → (Cond.initialized y.cls).before a' U = true) :
    vx_Back l R p e below s sargs y len W9 (PreOf R mc ms Pc) (PostOf Qc mc ms free) (vx_Post XC mc ms free) := by
  intro m meth c A g ig mk a X hg hsize hdg hW hn hp
  have h1 : (headSpec ws rm).pre.before a A.U = true := atoms_intro fun w hw => hws w hw _ _ X.warmed
  have h2 : (Cond.codeWith y bytes maxL ret hh).before a A.U = true := hws _ hcode _ _ X.warmed
  have h3 : (Cond.initialized y.cls).before a A.U = true := hinit _ _ X.warmed
  have h4 : A.cells + (headSpec ws rm).room.cells ≤ R.cells := by rw [show (headSpec ws rm).room.cells = mc from hrc]; exact hp.1
  have h5 : A.slots + (headSpec ws rm).room.slots ≤ R.slots := by rw [show (headSpec ws rm).room.slots = ms from hrs]; exact hp.2.1
  have hPc : Pc a (A.U.calling g mk a) := hblind _ _ _ _ hp.2.2
  obtain ⟨U, Ls, c0, s0⟩ := A
  dsimp only [Pt.U, Pt.locs, Pt.cells, Pt.slots] at h1 h2 h3 h4 h5 X hn hPc ⊢
  obtain ⟨m9, methY, cY, hn9, hmY, hcY, -, hlY, -⟩ := Cond.codeWith_spec h2
  cases Option.some.inj (hn9.symm.trans hn)
  obtain ⟨kY, hkY, -⟩ := className_of_methodNamed hn
  have hinitY : kY.init = .initialized := Cond.initialized_spec (findClass_of_methodNamed hn) hkY h3
  have h : At U g.method c below := by rw [hg]; exact X.here
  have hlocals9 : W9 + (maxL + 11) + (headSpec ws rm).room.locals ≤ R.locals := hlocals
  have happ : (headSpec ws rm).appliesLoose y e.platform (U.calling g mk a) = true :=
    Spec.appliesLoose_calling (g := g) h hdg hn hkY hinitY
      (X.room_calling (g := g) (R' := (headSpec ws rm).room) hsize hmY hcY hframes (by rw [hlY]; omega) h4 h5) h1
  obtain ⟨mid, hmid⟩ := h.above
  have hfr : (U.setTop g).frames = (.java g :: mid) ++ below := by rw [State.frames_setTop' g h.top, hmid]; rfl
  obtain ⟨o, s₂, hsteps, -, hend, hq⟩ := Steps.callFree hM p X.admits X.cas X.clock (acts := []) hfr happ hPc trivial
  have hq' : vx_Q Qc XC mc ms free a (U.calling g mk a) o s₂ := hq
  rw [State.frames_setTop' g h.top] at hend
  obtain ⟨g₀, hg0⟩ := Option.isSome_iff_exists.mp h.top
  obtain ⟨r, hr⟩ := State.topJava?_eq_some.mp hg0
  have hr' : (({ U with heap := s₂.heap, slotsUsed := s₂.slotsUsed } : State).setVm s₂.vm).frames = .java g₀ :: r := hr
  rcases hq' with ⟨hqc, L, hfe, hL⟩ | ⟨q, rfl, E, ce, L, hx, hce, hcv, hcl, hW₂, hsm, hL⟩
  · obtain ⟨⟨v, rfl⟩, hW₂, e2, q2, q3, q4, q5, q6⟩ := id hfe
    have e3 : s₂ = ({ (U.calling g mk a).setFrames s₂.frames with heap := s₂.heap, slotsUsed := s₂.slotsUsed } : State).setVm s₂.vm := by
      have : s₂ = ({ s₂ with vm := (U.calling g mk a).vm } : State).setVm s₂.vm := rfl
      rw [e2] at this
      exact this
    obtain ⟨c₂, i₂, len₂, hc₂, hd₂, hf₂⟩ := hend
    have hW' : U.WarmedH s₂.vm := hW₂
    have hcc : c₂ = c := by
      have h1 : s₂.code? g.method = U.code? g.method := by
        rw [State.code?_eq, State.code?_eq, hW'.alike.method?]
      exact Option.some.inj (hc₂.symm.trans (h1.trans h.code))
    subst hcc
    have hlen : len₂ = len := by rw [hdg] at hd₂; cases hd₂; rfl
    subst hlen
    have hs₂ : s₂ = (({ U with heap := s₂.heap, slotsUsed := s₂.slotsUsed } : State).setVm s₂.vm).setTop { g with pc := g.pc + len₂, stack := v.toList ++ g.stack } := by
      refine e3.trans ?_
      rw [hf₂, State.calling_eq h.top, State.setFrames_setFrames, State.setTop_of_frames _ hr', hr]
      rfl
    have hsame : U.sameButNew ({ U with heap := s₂.heap, slotsUsed := s₂.slotsUsed } : State) L mc ms := by
      refine ⟨?_, q2, q3, q4, q5, q6⟩
      obtain ⟨t, ht, -⟩ := State.frames_cons hr
      show ({ U with heap := s₂.heap, slotsUsed := s₂.slotsUsed } : State) = { U.setFrames U.frames with heap := s₂.heap, slotsUsed := s₂.slotsUsed }
      rw [State.setFrames_self ht]
    subst hg
    refine Or.inl ⟨v, ⟨(({ U with heap := s₂.heap, slotsUsed := s₂.slotsUsed } : State).setVm s₂.vm), Ls ++ L, c0 + mc, s0 + ms⟩,
      ⟨X.admits, X.cas, X.clock, X.frames, X.room, X.hears, X.method, X.code, (X.here.setHeapUsed s₂.heap s₂.slotsUsed).setVm hW'.alike, X.tail, State.WarmedH.trans X.warmed hW', X.limits, X.bytes, X.same.trans (hsame.setVm s.vm)⟩,
      ⟨g, mk, s₂, L, rfl, rfl, hqc, rfl, hL, rfl, rfl⟩, ?_⟩
    show Steps p.tables e below _ ((({ U with heap := s₂.heap, slotsUsed := s₂.slotsUsed } : State).setVm s₂.vm).setTop { g with pc := g.pc + len₂, stack := v.toList ++ g.stack })
    rw [← hs₂]
    exact hsteps
  · obtain ⟨e2, q2, q3, q4, q5, q6⟩ := id hsm
    have e3 : s₂ = ({ (U.calling g mk a).setFrames s₂.frames with heap := s₂.heap, slotsUsed := s₂.slotsUsed } : State).setVm s₂.vm := by
      have : s₂ = ({ s₂ with vm := (U.calling g mk a).vm } : State).setVm s₂.vm := rfl
      rw [e2] at this
      exact this
    have hf₂ : s₂.frames = .throwing q :: .java g :: U.frames.tail := hend
    have hW' : U.WarmedH s₂.vm := hW₂
    have hs₂ : s₂ = ((({ U with heap := s₂.heap, slotsUsed := s₂.slotsUsed } : State).setVm s₂.vm).setTop g).pushFrame (.throwing q) := by
      refine e3.trans ?_
      rw [hf₂, State.calling_eq h.top, State.setFrames_setFrames, State.pushFrame, State.frames_setTop _ hr', State.setTop_of_frames _ hr', State.setFrames_setFrames, hr]
      rfl
    have hsame : U.sameButNew ({ U with heap := s₂.heap, slotsUsed := s₂.slotsUsed } : State) L mc ms := by
      refine ⟨?_, q2, q3, q4, q5, q6⟩
      obtain ⟨t, ht, -⟩ := State.frames_cons hr
      show ({ U with heap := s₂.heap, slotsUsed := s₂.slotsUsed } : State) = { U.setFrames U.frames with heap := s₂.heap, slotsUsed := s₂.slotsUsed }
      rw [State.setFrames_self ht]
    subst hg
    refine Or.inr ⟨q, ⟨(({ U with heap := s₂.heap, slotsUsed := s₂.slotsUsed } : State).setVm s₂.vm), Ls ++ L, c0 + mc, s0 + ms⟩,
      ⟨X.admits, X.cas, X.clock, X.frames, X.room, X.hears, X.method, X.code, (X.here.setHeapUsed s₂.heap s₂.slotsUsed).setVm hW'.alike, X.tail, State.WarmedH.trans X.warmed hW', X.limits, X.bytes, X.same.trans (hsame.setVm s.vm)⟩,
      ⟨g, mk, s₂, L, E, ce, rfl, rfl, hx, hce, hcv, hcl, rfl, hL, rfl, rfl⟩, ?_⟩
    show Steps p.tables e below _ (((({ U with heap := s₂.heap, slotsUsed := s₂.slotsUsed } : State).setVm s₂.vm).setTop g).pushFrame (.throwing q))
    rw [← hs₂]
    exact hsteps
end
variable {p : Program} {l : Launch} {e : Env} {R : Room} {s : State} {m : MethodId} {args : Array Value} {below : List Frame} {meth : Method} {c : Code} {T : State} {H : Heap} {locs : List Loc} {cells slots : Nat}
theorem vx_callVX (X : Stand p l e R s m args below meth c T locs cells slots) (hexec : p.tables.exec = Jvm.exec) {own C : String} {index : Nat} {y : MethodName} {bytes : ByteArray} {maxL : Nat} {ret : Option FieldType} {hh : List (Nat × Nat × Nat × Nat)}
    (hown : s.vm.findClass own = some m.cls) (hlink : (Cond.methodLink own index y).before args s = true) (hinst : (Cond.instanceMethod y).before args s = true) (hsel : (Cond.selects C y y).before args s = true)
    (hcode : (Cond.codeWith y bytes maxL ret hh).before args s = true) (hy : y.cls ≠ "java/lang/invoke/MethodHandle" ∧ y.cls ≠ "java/lang/invoke/VarHandle")
    {W9 : Nat} {Pre : Pt → Array Value → Prop} {Post : Pt → Array Value → Option Value → Pt → Prop} {PostX : Pt → Array Value → Addr → Pt → Prop} (hK : vx_Back l R p e below s args y 3 W9 Pre Post PostX)
    {b : Addr} {cellB : Cell} (hcell : T.heap[b]? = some cellB) (hobj : cellB.vm.isStatics = false) (hcls : s.vm.findClass C = some cellB.cls)
    {g : JFrame} (hg : g.method = m) (hsize : g.locals.size = c.maxLocals) {argsL rest : List Value} (hlen : ∀ sig, parseMethodDescriptor y.desc = some sig → argsL.length = sig.parameters.length)
    (hstack : g.stack = argsL.reverse ++ .ref b :: rest) (hW : 2 * g.monitorRoom + (rest.map fun v => v.category).sum ≤ W9) (hdg : decode c.code g.pc = .ok (.invokevirtual index, 3))
    (hpre : ∀ vm₁, s.WarmedH vm₁ → Pre ⟨T.setVm vm₁, locs, cells, slots⟩ (Value.ref b :: argsL).toArray) :
    (∃ (v : Option Value) (vm₁ : Vm) (B : Pt), s.WarmedH vm₁ ∧ Stand p l e R s m args below meth c B.U B.locs B.cells B.slots ∧ Post ⟨T.setVm vm₁, locs, cells, slots⟩ (Value.ref b :: argsL).toArray v B ∧
      ∀ target, Steps p.tables e below (B.U.setTop { g with pc := g.pc + 3, stack := v.toList ++ rest }) target → Steps p.tables e below (T.setTop g) target) ∨
    (∃ (q : Addr) (vm₁ : Vm) (B : Pt), s.WarmedH vm₁ ∧ Stand p l e R s m args below meth c B.U B.locs B.cells B.slots ∧ PostX ⟨T.setVm vm₁, locs, cells, slots⟩ (Value.ref b :: argsL).toArray q B ∧
      Steps p.tables e below (T.setTop g) ((B.U.setTop { g with stack := rest }).pushFrame (.throwing q))) := by
  obtain ⟨mk, methM, hnamed, hmethM, hstM, habM⟩ := Cond.instanceMethod_spec hinst
  obtain ⟨m8, methM', cM, hn8, hmethM', -, -, -, -, -, -, hsigM⟩ := Cond.codeWith_spec hcode
  cases Option.some.inj (hn8.symm.trans hnamed)
  cases hmethM.symm.trans hmethM'
  obtain ⟨c2, r2, m2, q1, q2, q3, q4, kP, hkP, hkPi⟩ := Cond.selects_spec hsel
  cases hcls.symm.trans q1
  cases (State.methodFound?_of_named hnamed hy).symm.trans q2
  cases hnamed.symm.trans q3
  have hselP : selectMethod e.platform s.vm cellB.cls mk = .method mk := by rw [Launch.admits_selectMethod X.admits]; exact q4
  obtain ⟨vm₁, X₁, hstep₁⟩ := X.invokevirtual hexec hown hlink hnamed hmethM hstM hkP hkPi hy (a := b) (cell := cellB) hcell
    (fun z h => by rw [h] at hobj; cases hobj) hselP hmethM habM hkP hkPi (g := g) hg (argsL := argsL) (rest := rest) (hlen _ hsigM) hstack hdg
  rcases hK m meth c ⟨T.setVm vm₁, locs, cells, slots⟩ { g with stack := rest } (.invokevirtual index) mk (Value.ref b :: argsL).toArray X₁ hg hsize hdg hW (X₁.named hnamed) (hpre vm₁ X₁.warmed) with ⟨v, B, X', hpost, hsteps⟩ | ⟨q, B, X', hpost, hsteps⟩
  · exact Or.inl ⟨v, vm₁, B, X₁.warmed, X', hpost, fun target h => hstep₁ _ fun acts => by rw [doInvoke_state]; exact hsteps.trans h⟩
  · exact Or.inr ⟨q, vm₁, B, X₁.warmed, X', hpost, hstep₁ _ fun acts => by rw [doInvoke_state]; exact hsteps⟩
theorem vx_callSX (X : Stand p l e R s m args below meth c T locs cells slots) (hexec : p.tables.exec = Jvm.exec) {own : String} {index : Nat} {y : MethodName} {bytes : ByteArray} {maxL : Nat} {ret : Option FieldType} {hh : List (Nat × Nat × Nat × Nat)}
    (hown : s.vm.findClass own = some m.cls) (hlink : (Cond.methodLink own index y).before args s = true) (hstat : (Cond.static y).before args s = true) (hinit : (Cond.initialized y.cls).before args s = true)
    (hcode : (Cond.codeWith y bytes maxL ret hh).before args s = true) (hy : y.cls ≠ "java/lang/invoke/MethodHandle" ∧ y.cls ≠ "java/lang/invoke/VarHandle")
    {W9 : Nat} {Pre : Pt → Array Value → Prop} {Post : Pt → Array Value → Option Value → Pt → Prop} {PostX : Pt → Array Value → Addr → Pt → Prop} (hK : vx_Back l R p e below s args y 3 W9 Pre Post PostX)
    {g : JFrame} (hg : g.method = m) (hsize : g.locals.size = c.maxLocals) {argsL rest : List Value} (hlen : ∀ sig, parseMethodDescriptor y.desc = some sig → argsL.length = sig.parameters.length)
    (hstack : g.stack = argsL.reverse ++ rest) (hW : 2 * g.monitorRoom + (rest.map fun v => v.category).sum ≤ W9) (hdg : decode c.code g.pc = .ok (.invokestatic index, 3))
    (hpre : ∀ vm₁, s.WarmedH vm₁ → Pre ⟨T.setVm vm₁, locs, cells, slots⟩ argsL.toArray) :
    (∃ (v : Option Value) (vm₁ : Vm) (B : Pt), s.WarmedH vm₁ ∧ Stand p l e R s m args below meth c B.U B.locs B.cells B.slots ∧ Post ⟨T.setVm vm₁, locs, cells, slots⟩ argsL.toArray v B ∧
      ∀ target, Steps p.tables e below (B.U.setTop { g with pc := g.pc + 3, stack := v.toList ++ rest }) target → Steps p.tables e below (T.setTop g) target) ∨
    (∃ (q : Addr) (vm₁ : Vm) (B : Pt), s.WarmedH vm₁ ∧ Stand p l e R s m args below meth c B.U B.locs B.cells B.slots ∧ PostX ⟨T.setVm vm₁, locs, cells, slots⟩ argsL.toArray q B ∧
      Steps p.tables e below (T.setTop g) ((B.U.setTop { g with stack := rest }).pushFrame (.throwing q))) := by
  obtain ⟨mk, methM, cM, hnamed, hmethM, -, -, -, -, -, -, hsigM⟩ := Cond.codeWith_spec hcode
  have hstatic : methM.isStatic = true := Cond.static_spec hnamed hmethM hstat
  obtain ⟨kP, hkP, -⟩ := className_of_methodNamed hnamed
  have hinitP : kP.init = .initialized := Cond.initialized_spec (findClass_of_methodNamed hnamed) hkP hinit
  obtain ⟨vm₁, X₁, hstep₁⟩ := X.invokestatic hexec hown hlink hnamed hmethM hstatic hkP hinitP hy (g := g) hg (argsL := argsL) (rest := rest) (hlen _ hsigM) hstack hdg
  rcases hK m meth c ⟨T.setVm vm₁, locs, cells, slots⟩ { g with stack := rest } (.invokestatic index) mk argsL.toArray X₁ hg hsize hdg hW (X₁.named hnamed) (hpre vm₁ X₁.warmed) with ⟨v, B, X', hpost, hsteps⟩ | ⟨q, B, X', hpost, hsteps⟩
  · exact Or.inl ⟨v, vm₁, B, X₁.warmed, X', hpost, fun target h => hstep₁ _ fun acts => by rw [doInvoke_state]; exact hsteps.trans h⟩
  · exact Or.inr ⟨q, vm₁, B, X₁.warmed, X', hpost, hstep₁ _ fun acts => by rw [doInvoke_state]; exact hsteps⟩
theorem vx_callVW (X : Stand p l e R s m args below meth c T locs cells slots) (hexec : p.tables.exec = Jvm.exec) {own C : String} {index : Nat} {y : MethodName} {bytes : ByteArray} {maxL : Nat} {ret : Option FieldType} {hh : List (Nat × Nat × Nat × Nat)}
    (hown : s.vm.findClass own = some m.cls) (hlink : (Cond.methodLink own index y).before args s = true) (hinst : (Cond.instanceMethod y).before args s = true) (hsel : (Cond.selects C y y).before args s = true)
    (hcode : (Cond.codeWith y bytes maxL ret hh).before args s = true) (hy : y.cls ≠ "java/lang/invoke/MethodHandle" ∧ y.cls ≠ "java/lang/invoke/VarHandle")
    {W9 : Nat} {Pre : Pt → Array Value → Prop} {Post : Pt → Array Value → Option Value → Pt → Prop} (hK : Back l R p e below s args y 3 W9 Pre Post)
    {b : Addr} {cellB : Cell} (hcell : T.heap[b]? = some cellB) (hobj : cellB.vm.isStatics = false) (hcls : s.vm.findClass C = some cellB.cls)
    {g : JFrame} (hg : g.method = m) (hsize : g.locals.size = c.maxLocals) {argsL rest : List Value} (hlen : ∀ sig, parseMethodDescriptor y.desc = some sig → argsL.length = sig.parameters.length)
    (hstack : g.stack = argsL.reverse ++ .ref b :: rest) (hW : 2 * g.monitorRoom + (rest.map fun v => v.category).sum ≤ W9) (hdg : decode c.code g.pc = .ok (.invokevirtual index, 3))
    (hpre : ∀ vm₁, s.WarmedH vm₁ → Pre ⟨T.setVm vm₁, locs, cells, slots⟩ (Value.ref b :: argsL).toArray) :
    ∃ (v : Option Value) (vm₁ : Vm) (B : Pt), s.WarmedH vm₁ ∧ Stand p l e R s m args below meth c B.U B.locs B.cells B.slots ∧ Post ⟨T.setVm vm₁, locs, cells, slots⟩ (Value.ref b :: argsL).toArray v B ∧
      ∀ target, Steps p.tables e below (B.U.setTop { g with pc := g.pc + 3, stack := v.toList ++ rest }) target → Steps p.tables e below (T.setTop g) target := by
  obtain ⟨mk, methM, hnamed, hmethM, hstM, habM⟩ := Cond.instanceMethod_spec hinst
  obtain ⟨m8, methM', cM, hn8, hmethM', -, -, -, -, -, -, hsigM⟩ := Cond.codeWith_spec hcode
  cases Option.some.inj (hn8.symm.trans hnamed)
  cases hmethM.symm.trans hmethM'
  obtain ⟨c2, r2, m2, q1, q2, q3, q4, kP, hkP, hkPi⟩ := Cond.selects_spec hsel
  cases hcls.symm.trans q1
  cases (State.methodFound?_of_named hnamed hy).symm.trans q2
  cases hnamed.symm.trans q3
  have hselP : selectMethod e.platform s.vm cellB.cls mk = .method mk := by rw [Launch.admits_selectMethod X.admits]; exact q4
  obtain ⟨vm₁, X₁, hstep₁⟩ := X.invokevirtual hexec hown hlink hnamed hmethM hstM hkP hkPi hy (a := b) (cell := cellB) hcell
    (fun z h => by rw [h] at hobj; cases hobj) hselP hmethM habM hkP hkPi (g := g) hg (argsL := argsL) (rest := rest) (hlen _ hsigM) hstack hdg
  obtain ⟨v, B, X', hpost, hsteps⟩ := hK m meth c ⟨T.setVm vm₁, locs, cells, slots⟩ { g with stack := rest } (.invokevirtual index) mk (Value.ref b :: argsL).toArray X₁ hg hsize hdg hW (X₁.named hnamed) (hpre vm₁ X₁.warmed)
  exact ⟨v, vm₁, B, X₁.warmed, X', hpost, fun target h => hstep₁ _ fun acts => by rw [doInvoke_state]; exact hsteps.trans h⟩
abbrev vx_CVW (R : Room) (s : State) (args : Array Value) (own C : String) (index : Nat) (y : MethodName) (bytes : ByteArray) (maxL : Nat) (ret : Option FieldType) (hh : List (Nat × Nat × Nat × Nat)) (ws : List Cond) (rm : Room) (mc ms n : Nat) : Prop :=
  (rm.cells = mc ∧ rm.slots = ms ∧ rm.frames + 1 ≤ R.frames ∧ 8 + (maxL + 11) + rm.locals ≤ R.locals ∧ (∀ w ∈ ws, ∀ (a' : Array Value) (U : State), s.WarmedH U.vm → w.before a' U = true) ∧ Cond.codeWith y bytes maxL ret hh ∈ ws) ∧
  (Cond.codeWith y bytes maxL ret hh).before args s = true ∧ (Cond.initialized y.cls).before args s = true ∧ (y.cls ≠ "java/lang/invoke/MethodHandle" ∧ y.cls ≠ "java/lang/invoke/VarHandle") ∧
  (∀ sig, parseMethodDescriptor y.desc = some sig → n = sig.parameters.length) ∧ (Cond.methodLink own index y).before args s = true ∧ (Cond.instanceMethod y).before args s = true ∧ (Cond.selects C y y).before args s = true
theorem vx_cwVW {own C : String} {index maxL mc ms : Nat} {y : MethodName} {bytes : ByteArray} {ret : Option FieldType} {hh : List (Nat × Nat × Nat × Nat)} {Ts ws ws' : List Cond} {rm : Room} (n : Nat) (ht : ∀ w ∈ Ts, w.before args s = true) (hT : GoodIn Ts (wsV own index C y ws)) (hw : ws = Cond.codeWith y bytes maxL ret hh :: ws') (hrc : rm.cells = mc) (hrs : rm.slots = ms)
    (hd : y.cls = C ∧ y.cls ≠ "java/lang/invoke/MethodHandle" ∧ y.cls ≠ "java/lang/invoke/VarHandle" ∧ (parseMethodDescriptor y.desc).map (fun d => d.parameters.length) = some n) (hR : rm.frames + 1 ≤ R.frames ∧ 8 + (maxL + 11) + rm.locals ≤ R.locals) :
    vx_CVW R s args own C index y bytes maxL ret hh ws rm mc ms n := by
  obtain ⟨hC, hd⟩ := hd
  subst hC
  have ok : ∀ w ∈ wsV own index y.cls y ws, w.before args s = true := fun w h => ht w (hT w h).1
  have hG : GoodIn Ts ws := fun w h => hT w (by unfold wsV; exact List.mem_append_right _ h)
  have hc : Cond.codeWith y bytes maxL ret hh ∈ ws := by rw [hw]; exact List.mem_cons_self
  refine ⟨⟨hrc, hrs, hR.1, hR.2, pay_in ht hG, hc⟩, ht _ (hG _ hc).1, ok _ (by simp [wsV]), ⟨hd.1, hd.2.1⟩, fun sig h => ?_, ok _ (by simp [wsV]), ok _ (by simp [wsV]), ok _ (by simp [wsV])⟩
  have h2 := hd.2.2
  rw [h] at h2
  exact (Option.some.inj h2).symm
theorem vx_runVW {y : MethodName} {bytes cc : ByteArray} {maxL nL mc ms n index : Nat} {ret : Option FieldType} {hh : List (Nat × Nat × Nat × Nat)} {ws : List Cond} {rm : Room} {Pc : Array Value → State → Prop} {Qc : Array Value → State → Outcome → State → Prop} {free : Addr → Prop} {Ts : List Cond} {own C : String} {b : Addr} {As rest : List Value} {g : JFrame}
    (S : CallFix p m c cc nL s args Ts own) (hM : Met l y ws rm Pc Qc mc ms free) (cw : vx_CVW R s args own C index y bytes maxL ret hh ws rm mc ms n) (hp : PreV s H C b Pc As)
    (hg : g.method = m) (hn : As.length = n) (hsize : g.locals.size = nL) (hstack : g.stack = As.reverse ++ .ref b :: rest) (hW : 2 * g.monitorRoom + (rest.map fun v => v.category).sum ≤ 8) (hdg : decode cc g.pc = .ok (.invokevirtual index, 3)) (hf : cells + mc ≤ R.cells ∧ slots + ms ≤ R.slots) :
    va_Run p l e R s m args below meth c H locs cells slots mc ms g rest (Qc (Value.ref b :: As).toArray) free := by
  obtain ⟨⟨hrc, hrs, hfr, hlo, hws, hcw⟩, hcode, hini, hy, hlen, hl, hin, hse⟩ := cw
  have hK : Back l R p e below s args y 3 8 (PreOf R mc ms Pc) (PostOf Qc mc ms free) := va_backW (hh := hh) (bytes := bytes) (maxL := maxL) (ret := ret) hM hp.1 hrc hrs hfr hlo hws hcw (fun a' U hW => word_at hW (Or.inl (by first | rfl | simp [Cond.onTables, Cond.keeps, Cond.steady])) hini)
  obtain ⟨hx, hb, hml, ho, -⟩ := S
  obtain ⟨-, ⟨cellB, hcB, hoB, hclB⟩, hPc⟩ := hp
  intro T hT X
  obtain ⟨v, vm₁, ⟨U', l2, c2, s2⟩, hW₁, X', ⟨g', mk, t, L, e1, e2, hq, h1, hL, h2, h3⟩, st⟩ := vx_callVW X hx (C := C) (hh := hh) (bytes := bytes) (maxL := maxL) (ret := ret) ho hl hin hse hcode hy hK (by rw [hT]; exact hcB) hoB hclB hg (hsize.trans hml.symm) (argsL := As) (rest := rest) (fun sig h => hn.trans (hlen sig h)) hstack hW (by rw [hb]; exact hdg)
    (fun vm₁ hW₁ => ⟨hf.1, hf.2, hPc (T.setVm vm₁) hT hW₁⟩)
  dsimp only [Pt.U, Pt.locs, Pt.cells, Pt.slots] at X' e1 e2 h1 h2 h3 st
  subst h1; subst h2; subst h3
  exact ⟨v, (T.setVm vm₁).calling g' mk (Value.ref b :: As).toArray, t, U', L, hT, X', hL, e1, e2, hq, st⟩
section
variable {y : MethodName} {bytes cc : ByteArray} {maxL nL mc ms n index : Nat} {ret : Option FieldType} {ws : List Cond} {rm : Room} {Pc : Array Value → State → Prop} {Qc : Array Value → State → Outcome → State → Prop} {XC : String → State → State → Prop} {free : Addr → Prop} {Ts : List Cond} {own C : String} {b : Addr} {As rest : List Value} {g : JFrame}
theorem vx_runVX {hh : List (Nat × Nat × Nat × Nat)} (S : CallFix p m c cc nL s args Ts own) (hM : vx_Met l y ws rm Pc Qc XC mc ms free) (cw : vx_CVW R s args own C index y bytes maxL ret hh ws rm mc ms n) (hp : PreV s H C b Pc As)
    (hg : g.method = m) (hn : As.length = n) (hsize : g.locals.size = nL) (hstack : g.stack = As.reverse ++ .ref b :: rest) (hW : 2 * g.monitorRoom + (rest.map fun v => v.category).sum ≤ 8) (hdg : decode cc g.pc = .ok (.invokevirtual index, 3)) (hf : cells + mc ≤ R.cells ∧ slots + ms ≤ R.slots) :
    vx_Run p l e R s m args below meth c H locs cells slots mc ms g rest (Qc (Value.ref b :: As).toArray) XC free := by
  obtain ⟨⟨hrc, hrs, hfr, hlo, hws, hcw⟩, hcode, hini, hy, hlen, hl, hin, hse⟩ := cw
  have hK : vx_Back l R p e below s args y 3 8 (PreOf R mc ms Pc) (PostOf Qc mc ms free) (vx_Post XC mc ms free) := vx_backW (hh := hh) (bytes := bytes) (maxL := maxL) (ret := ret) hM hp.1 hrc hrs hfr hlo hws hcw (fun a' U hW => word_at hW (Or.inl (by first | rfl | simp [Cond.onTables, Cond.keeps, Cond.steady])) hini)
  obtain ⟨hx, hb, hml, ho, -⟩ := S
  obtain ⟨-, ⟨cellB, hcB, hoB, hclB⟩, hPc⟩ := hp
  intro T hT X
  rcases vx_callVX X hx (C := C) (hh := hh) (bytes := bytes) (maxL := maxL) (ret := ret) ho hl hin hse hcode hy hK (by rw [hT]; exact hcB) hoB hclB hg (hsize.trans hml.symm) (argsL := As) (rest := rest) (fun sig h => hn.trans (hlen sig h)) hstack hW (by rw [hb]; exact hdg)
    (fun vm₁ hW₁ => ⟨hf.1, hf.2, hPc (T.setVm vm₁) hT hW₁⟩) with ⟨v, vm₁, ⟨U', l2, c2, s2⟩, hW₁, X', ⟨g', mk, t, L, e1, e2, hq, h1, hL, h2, h3⟩, st⟩ | ⟨q, vm₁, ⟨U', l2, c2, s2⟩, hW₁, X', ⟨g', mk, t, L, E, ce, e1, e2, hq, hce, hcv, hcl, h1, hL, h2, h3⟩, st⟩
  · dsimp only [Pt.U, Pt.locs, Pt.cells, Pt.slots] at X' e1 e2 h1 h2 h3 st
    subst h1; subst h2; subst h3
    exact Or.inl ⟨v, (T.setVm vm₁).calling g' mk (Value.ref b :: As).toArray, t, U', L, hT, X', hL, e1, e2, hq, st⟩
  · dsimp only [Pt.U, Pt.locs, Pt.cells, Pt.slots] at X' e1 e2 h1 h2 h3 st hcl
    subst h1; subst h2; subst h3
    exact Or.inr ⟨q, (T.setVm vm₁).calling g' mk (Value.ref b :: As).toArray, t, U', L, E, ce, hT, X', hL, e1, e2, hq, hce, hcv, vx_cls hW₁ hcl, st⟩
theorem vx_runSX {hh : List (Nat × Nat × Nat × Nat)} (S : CallFix p m c cc nL s args Ts own) (hM : vx_Met l y ws rm Pc Qc XC mc ms free) (cw : vx_CSW R s args own index y bytes maxL ret hh ws rm mc ms n) (hp : PreS s H Pc As)
    (hg : g.method = m) (hn : As.length = n) (hsize : g.locals.size = nL) (hstack : g.stack = As.reverse ++ rest) (hW : 2 * g.monitorRoom + (rest.map fun v => v.category).sum ≤ 8) (hdg : decode cc g.pc = .ok (.invokestatic index, 3)) (hf : cells + mc ≤ R.cells ∧ slots + ms ≤ R.slots) :
    vx_Run p l e R s m args below meth c H locs cells slots mc ms g rest (Qc As.toArray) XC free := by
  obtain ⟨⟨hrc, hrs, hfr, hlo, hws, hcw⟩, hcode, hini, hy, hlen, hl, hstt⟩ := cw
  have hK : vx_Back l R p e below s args y 3 8 (PreOf R mc ms Pc) (PostOf Qc mc ms free) (vx_Post XC mc ms free) := vx_backW (hh := hh) (bytes := bytes) (maxL := maxL) (ret := ret) hM hp.1 hrc hrs hfr hlo hws hcw (fun a' U hW => word_at hW (Or.inl (by first | rfl | simp [Cond.onTables, Cond.keeps, Cond.steady])) hini)
  obtain ⟨hx, hb, hml, ho, -⟩ := S
  intro T hT X
  rcases vx_callSX X hx (hh := hh) (bytes := bytes) (maxL := maxL) (ret := ret) ho hl hstt hini hcode hy hK hg (hsize.trans hml.symm) (argsL := As) (rest := rest) (fun sig h => hn.trans (hlen sig h)) hstack hW (by rw [hb]; exact hdg)
    (fun vm₁ hW₁ => ⟨hf.1, hf.2, hp.2 (T.setVm vm₁) hT hW₁⟩) with ⟨v, vm₁, ⟨U', l2, c2, s2⟩, hW₁, X', ⟨g', mk, t, L, e1, e2, hq, h1, hL, h2, h3⟩, st⟩ | ⟨q, vm₁, ⟨U', l2, c2, s2⟩, hW₁, X', ⟨g', mk, t, L, E, ce, e1, e2, hq, hce, hcv, hcl, h1, hL, h2, h3⟩, st⟩
  · dsimp only [Pt.U, Pt.locs, Pt.cells, Pt.slots] at X' e1 e2 h1 h2 h3 st
    subst h1; subst h2; subst h3
    exact Or.inl ⟨v, (T.setVm vm₁).calling g' mk As.toArray, t, U', L, hT, X', hL, e1, e2, hq, st⟩
  · dsimp only [Pt.U, Pt.locs, Pt.cells, Pt.slots] at X' e1 e2 h1 h2 h3 st hcl
    subst h1; subst h2; subst h3
    exact Or.inr ⟨q, (T.setVm vm₁).calling g' mk As.toArray, t, U', L, E, ce, hT, X', hL, e1, e2, hq, hce, hcv, vx_cls hW₁ hcl, st⟩
end
end VXH
theorem vx_ofWH {l : Launch} {y : MethodName} {ws ws' : List Cond} {rm : Room} {Pc : Array Value → State → Prop} {Qc : Array Value → State → Outcome → State → Prop} {XC : String → State → State → Prop} {mc ms : Nat} {free : Addr → Prop} {cc : ByteArray} {maxL : Nat} {ret : Option FieldType} {hh : List (Nat × Nat × Nat × Nat)}
    (hy : plainName y.cls = true) (hw : ws = Cond.codeWith y cc maxL ret hh :: ws')
    (body : ∀ p e s m args below meth c s₁, BodyLoose p l y (headSpec ws rm) cc maxL ret e s m args below meth c s₁ → c.maxLocals = maxL → Pc args s →
      W p l e (headSpec ws rm).room s m args below meth c s.heap [] 0 0 (vx_MQ below Qc XC args s mc ms free) (entryFrame m args maxL)) : vx_Met l y ws rm Pc Qc XC mc ms free := by
  refine MetFree.of_bodyS (code := cc) (maxLocals := maxL) (ret := ret) hy ?_ ?_
  · intro args s m h hn
    obtain ⟨m9, meth, c, hn9, h1, h2, h3, h4, -, h5, h6, -⟩ := Cond.codeWith_spec (atoms_spec (ws := ws) h _ (by rw [hw]; exact List.mem_cons_self))
    cases hn.symm.trans hn9
    exact ⟨meth, c, h1, h2, h3, h4, h5, h6⟩
  · intro p e s m args below meth c s₁ B hml hP _
    have hh0 : s₁.heap = s.heap := by rw [B.state]; rfl
    obtain ⟨t, a1, o, b1, b2, b3⟩ := body p e s m args below meth c s₁ B hml hP s₁ hh0 (Stand.of_body B)
    exact ⟨t, o, a1, b1, b2, b3⟩
/-! ===== END ===== -/
end
section
def RX0 : String := "ZMemory$Chance"
def TX0 : u_T := fun k => match k with
  | 0 => ("ZMemory$Chance", "numbers", "[I", true)
  | 1 => ("ZMemory$Chance", "first", "I", false)
  | 2 => ("ZMemory$Chance", "taped", "I", false)
  | 3 => ("ZMemory$Chance", "way", "I", false)
  | 4 => ("ZMemory$Chance", "seed", "I", false)
  | 5 => ("ZMemory$Chance", "counted", "I", false)
  | _ => ("ZMemory$Chance", "round", "I", false)
def tyX0 : Nat → FieldType := fun k => match k with
  | 0 => .array .int
  | 1 => .int
  | 2 => .int
  | 3 => .int
  | 4 => .int
  | 5 => .int
  | _ => .int
abbrev wsX00 : List Cond := u_ws RX0 TX0 7
theorem nmX0 : ∀ a, a < 7 → ∀ b, b < 7 → a ≠ b → (TX0 a).2.1 ≠ (TX0 b).2.1 := by decide +kernel
theorem tyX0_ok : ∀ k, k < 7 → parseFieldDescriptor (TX0 k).2.2.1 = some (tyX0 k) := by decide +kernel
abbrev cX0_init : ByteArray := prog_2_method_1_code
def yX0_init : MethodName := ⟨RX0, "<init>", "()V"⟩
abbrev cX0_record : ByteArray := prog_2_method_2_code
def yX0_record : MethodName := ⟨RX0, "record", "(I)I"⟩
abbrev cX0_draw : ByteArray := prog_2_method_3_code
def yX0_draw : MethodName := ⟨RX0, "draw", "(I)I"⟩
abbrev cX0_next : ByteArray := prog_2_method_4_code
def yX0_next : MethodName := ⟨RX0, "next", "()I"⟩
abbrev cX0_nextOfCount : ByteArray := prog_2_method_5_code
def yX0_nextOfCount : MethodName := ⟨RX0, "nextOfCount", "()I"⟩
abbrev cX0_nextOfTape : ByteArray := prog_2_method_6_code
def yX0_nextOfTape : MethodName := ⟨RX0, "nextOfTape", "()I"⟩
abbrev cX0_nextOfSeed : ByteArray := prog_2_method_7_code
def yX0_nextOfSeed : MethodName := ⟨RX0, "nextOfSeed", "()I"⟩
def RX1 : String := "ZMemory$Frame"
def TX1 : u_T := fun k => match k with
  | 0 => ("ZMemory$Frame", "locals", "[I", true)
  | 1 => ("ZMemory$Frame", "localCount", "I", false)
  | 2 => ("ZMemory$Frame", "routine", "I", false)
  | 3 => ("ZMemory$Frame", "next", "I", false)
  | 4 => ("ZMemory$Frame", "store", "I", false)
  | _ => ("ZMemory$Frame", "floor", "I", false)
def tyX1 : Nat → FieldType := fun k => match k with
  | 0 => .array .int
  | 1 => .int
  | 2 => .int
  | 3 => .int
  | 4 => .int
  | _ => .int
abbrev wsX10 : List Cond := u_ws RX1 TX1 6
theorem nmX1 : ∀ a, a < 6 → ∀ b, b < 6 → a ≠ b → (TX1 a).2.1 ≠ (TX1 b).2.1 := by decide +kernel
theorem tyX1_ok : ∀ k, k < 6 → parseFieldDescriptor (TX1 k).2.2.1 = some (tyX1 k) := by decide +kernel
abbrev cX1_init : ByteArray := prog_3_method_1_code
def yX1_init : MethodName := ⟨RX1, "<init>", "()V"⟩
abbrev cX1_local : ByteArray := prog_3_method_2_code
def yX1_local : MethodName := ⟨RX1, "local", "(I)I"⟩
abbrev cX1_setLocal : ByteArray := prog_3_method_3_code
def yX1_setLocal : MethodName := ⟨RX1, "setLocal", "(II)I"⟩
abbrev cX1_hasLocal : ByteArray := prog_3_method_4_code
def yX1_hasLocal : MethodName := ⟨RX1, "hasLocal", "(I)Z"⟩
def RX2 : String := "ZMemory$Frames"
def TX2 : u_T := fun k => match k with
  | 0 => ("ZMemory$Frames", "frames", "[LZMemory$Frame;", true)
  | 1 => ("ZMemory$Frames", "stack", "[I", true)
  | 2 => ("ZMemory$Frames", "height", "I", false)
  | 3 => ("ZMemory$Frames", "count", "I", false)
  | _ => ("ZMemory$Frames", "most", "I", false)
def tyX2 : Nat → FieldType := fun k => match k with
  | 0 => .array (.object "ZMemory$Frame")
  | 1 => .array .int
  | 2 => .int
  | 3 => .int
  | _ => .int
abbrev wsX20 : List Cond := u_ws RX2 TX2 5
theorem nmX2 : ∀ a, a < 5 → ∀ b, b < 5 → a ≠ b → (TX2 a).2.1 ≠ (TX2 b).2.1 := by decide +kernel
theorem tyX2_ok : ∀ k, k < 5 → parseFieldDescriptor (TX2 k).2.2.1 = some (tyX2 k) := by decide +kernel
abbrev cX2_init : ByteArray := prog_4_method_1_code
def yX2_init : MethodName := ⟨RX2, "<init>", "()V"⟩
abbrev cX2_begin : ByteArray := prog_4_method_2_code
def yX2_begin : MethodName := ⟨RX2, "begin", "()V"⟩
abbrev cX2_top : ByteArray := prog_4_method_3_code
def yX2_top : MethodName := ⟨RX2, "top", "()LZMemory$Frame;"⟩
abbrev cX2_enter : ByteArray := prog_4_method_4_code
def yX2_enter : MethodName := ⟨RX2, "enter", "()LZMemory$Frame;"⟩
abbrev cX2_leave : ByteArray := prog_4_method_5_code
def yX2_leave : MethodName := ⟨RX2, "leave", "()V"⟩
abbrev cX2_pop : ByteArray := prog_4_method_6_code
def yX2_pop : MethodName := ⟨RX2, "pop", "()I"⟩
abbrev cX2_push : ByteArray := prog_4_method_7_code
def yX2_push : MethodName := ⟨RX2, "push", "(I)I"⟩
def RX3 : String := "ZMemory$Memory"
def TX3 : u_T := fun k => match k with
  | 0 => ("ZMemory$Memory", "bytes", "[I", true)
  | 1 => ("ZMemory$Memory", "length", "I", false)
  | _ => ("ZMemory$Memory", "dynamic", "I", false)
def tyX3 : Nat → FieldType := fun k => match k with
  | 0 => .array .int
  | 1 => .int
  | _ => .int
abbrev wsX30 : List Cond := u_ws RX3 TX3 3
theorem nmX3 : ∀ a, a < 3 → ∀ b, b < 3 → a ≠ b → (TX3 a).2.1 ≠ (TX3 b).2.1 := by decide +kernel
theorem tyX3_ok : ∀ k, k < 3 → parseFieldDescriptor (TX3 k).2.2.1 = some (tyX3 k) := by decide +kernel
abbrev cX3_init : ByteArray := prog_5_method_1_code
def yX3_init : MethodName := ⟨RX3, "<init>", "()V"⟩
abbrev cX3_begin : ByteArray := prog_5_method_2_code
def yX3_begin : MethodName := ⟨RX3, "begin", "(II)V"⟩
abbrev cX3_isOutside : ByteArray := prog_5_method_3_code
def yX3_isOutside : MethodName := ⟨RX3, "isOutside", "(I)Z"⟩
abbrev cX3_byteAt : ByteArray := prog_5_method_4_code
def yX3_byteAt : MethodName := ⟨RX3, "byteAt", "(I)I"⟩
abbrev cX3_wordAt : ByteArray := prog_5_method_5_code
def yX3_wordAt : MethodName := ⟨RX3, "wordAt", "(I)I"⟩
abbrev cX3_setByte : ByteArray := prog_5_method_6_code
def yX3_setByte : MethodName := ⟨RX3, "setByte", "(IIZ)I"⟩
abbrev cX3_setWord : ByteArray := prog_5_method_7_code
def yX3_setWord : MethodName := ⟨RX3, "setWord", "(IIZ)I"⟩
abbrev cX3_copyTable : ByteArray := prog_5_method_8_code
def yX3_copyTable : MethodName := ⟨RX3, "copyTable", "(III)I"⟩
abbrev cX3_wipe : ByteArray := prog_5_method_9_code
def yX3_wipe : MethodName := ⟨RX3, "wipe", "(II)I"⟩
abbrev cX3_copyAtOnce : ByteArray := prog_5_method_10_code
def yX3_copyAtOnce : MethodName := ⟨RX3, "copyAtOnce", "(III)I"⟩
abbrev cX3_copyInTurn : ByteArray := prog_5_method_11_code
def yX3_copyInTurn : MethodName := ⟨RX3, "copyInTurn", "(III)I"⟩
abbrev cX3_find : ByteArray := prog_5_method_12_code
def yX3_find : MethodName := ⟨RX3, "find", "(IIII)I"⟩
def RX4 : String := "ZMemory$Page"
def TX4 : u_T := fun k => match k with
  | 0 => ("ZMemory$Page", "characters", "[I", true)
  | _ => ("ZMemory$Page", "length", "I", false)
def tyX4 : Nat → FieldType := fun k => match k with
  | 0 => .array .int
  | _ => .int
abbrev wsX40 : List Cond := u_ws RX4 TX4 2
theorem nmX4 : ∀ a, a < 2 → ∀ b, b < 2 → a ≠ b → (TX4 a).2.1 ≠ (TX4 b).2.1 := by decide +kernel
theorem tyX4_ok : ∀ k, k < 2 → parseFieldDescriptor (TX4 k).2.2.1 = some (tyX4 k) := by decide +kernel
abbrev cX4_init : ByteArray := prog_6_method_1_code
def yX4_init : MethodName := ⟨RX4, "<init>", "()V"⟩
abbrev cX4_characterAt : ByteArray := prog_6_method_2_code
def yX4_characterAt : MethodName := ⟨RX4, "characterAt", "(I)I"⟩
abbrev cX4_print : ByteArray := prog_6_method_3_code
def yX4_print : MethodName := ⟨RX4, "print", "(I)I"⟩
abbrev cX4_printNumber : ByteArray := prog_6_method_4_code
def yX4_printNumber : MethodName := ⟨RX4, "printNumber", "(I)I"⟩
def RX5 : String := "ZMemory$Program"
def TX5 : u_T := fun k => match k with
  | 0 => ("ZMemory$Program", "ops", "[I", true)
  | 1 => ("ZMemory$Program", "operands", "[I", true)
  | 2 => ("ZMemory$Program", "stores", "[I", true)
  | 3 => ("ZMemory$Program", "length", "I", false)
  | 4 => ("ZMemory$Program", "defined", "[Z", true)
  | 5 => ("ZMemory$Program", "starts", "[I", true)
  | 6 => ("ZMemory$Program", "locals", "[I", true)
  | _ => ("ZMemory$Program", "guards", "[Z", true)
def tyX5 : Nat → FieldType := fun k => match k with
  | 0 => .array .int
  | 1 => .array .int
  | 2 => .array .int
  | 3 => .int
  | 4 => .array .boolean
  | 5 => .array .int
  | 6 => .array .int
  | _ => .array .boolean
abbrev wsX50 : List Cond := u_ws RX5 TX5 8
theorem nmX5 : ∀ a, a < 8 → ∀ b, b < 8 → a ≠ b → (TX5 a).2.1 ≠ (TX5 b).2.1 := by decide +kernel
theorem tyX5_ok : ∀ k, k < 8 → parseFieldDescriptor (TX5 k).2.2.1 = some (tyX5 k) := by decide +kernel
abbrev cX5_init : ByteArray := prog_7_method_1_code
def yX5_init : MethodName := ⟨RX5, "<init>", "()V"⟩
abbrev cX5_append : ByteArray := prog_7_method_2_code
def yX5_append : MethodName := ⟨RX5, "append", "(IIIII)I"⟩
abbrev cX5_define : ByteArray := prog_7_method_3_code
def yX5_define : MethodName := ⟨RX5, "define", "(IIIZ)V"⟩
abbrev cX5_forget : ByteArray := prog_7_method_4_code
def yX5_forget : MethodName := ⟨RX5, "forget", "()I"⟩
abbrev cX5_opAt : ByteArray := prog_7_method_5_code
def yX5_opAt : MethodName := ⟨RX5, "opAt", "(I)I"⟩
abbrev cX5_hasRoutine : ByteArray := prog_7_method_6_code
def yX5_hasRoutine : MethodName := ⟨RX5, "hasRoutine", "(I)Z"⟩
def RX6 : String := "ZMemory$Runner"
def TX6 : u_T := fun k => match k with
  | 0 => ("ZMemory$Runner", "memory", "LZMemory$Memory;", true)
  | 1 => ("ZMemory$Runner", "chance", "LZMemory$Chance;", true)
  | 2 => ("ZMemory$Runner", "program", "LZMemory$Program;", true)
  | 3 => ("ZMemory$Runner", "frames", "LZMemory$Frames;", true)
  | 4 => ("ZMemory$Runner", "page", "LZMemory$Page;", true)
  | 5 => ("ZMemory$Runner", "leavings", "[I", true)
  | 6 => ("ZMemory$Runner", "values", "[I", true)
  | 7 => ("ZMemory$Runner", "globe", "I", false)
  | 8 => ("ZMemory$Runner", "form", "I", false)
  | 9 => ("ZMemory$Runner", "ending", "I", false)
  | 10 => ("ZMemory$Runner", "steps", "I", false)
  | 11 => ("ZMemory$Runner", "mishaps", "I", false)
  | 12 => ("ZMemory$Runner", "returned", "I", false)
  | 13 => ("ZMemory$Runner", "unguarded", "I", false)
  | 14 => ("ZMemory$Runner", "guarded", "I", false)
  | 15 => ("ZMemory$Runner", "arrived", "I", false)
  | _ => ("ZMemory$Runner", "store", "I", false)
def tyX6 : Nat → FieldType := fun k => match k with
  | 0 => .object "ZMemory$Memory"
  | 1 => .object "ZMemory$Chance"
  | 2 => .object "ZMemory$Program"
  | 3 => .object "ZMemory$Frames"
  | 4 => .object "ZMemory$Page"
  | 5 => .array .int
  | 6 => .array .int
  | 7 => .int
  | 8 => .int
  | 9 => .int
  | 10 => .int
  | 11 => .int
  | 12 => .int
  | 13 => .int
  | 14 => .int
  | 15 => .int
  | _ => .int
abbrev wsX60 : List Cond := u_ws RX6 TX6 17
theorem nmX6 : ∀ a, a < 17 → ∀ b, b < 17 → a ≠ b → (TX6 a).2.1 ≠ (TX6 b).2.1 := by decide +kernel
theorem tyX6_ok : ∀ k, k < 17 → parseFieldDescriptor (TX6 k).2.2.1 = some (tyX6 k) := by decide +kernel
abbrev cX6_init : ByteArray := prog_8_method_1_code
def yX6_init : MethodName := ⟨RX6, "<init>", "(LZMemory$Memory;LZMemory$Chance;LZMemory$Program;)V"⟩
abbrev cX6_begin : ByteArray := prog_8_method_2_code
def yX6_begin : MethodName := ⟨RX6, "begin", "(III)V"⟩
abbrev cX6_isGoing : ByteArray := prog_8_method_3_code
def yX6_isGoing : MethodName := ⟨RX6, "isGoing", "()Z"⟩
abbrev cX6_finish : ByteArray := prog_8_method_4_code
def yX6_finish : MethodName := ⟨RX6, "finish", "()I"⟩
abbrev cX6_step : ByteArray := prog_8_method_5_code
def yX6_step : MethodName := ⟨RX6, "step", "()I"⟩
abbrev cX6_settle : ByteArray := prog_8_method_6_code
def yX6_settle : MethodName := ⟨RX6, "settle", "(I)V"⟩
abbrev cX6_keep : ByteArray := prog_8_method_7_code
def yX6_keep : MethodName := ⟨RX6, "keep", "(I)I"⟩
abbrev cX6_carryOut : ByteArray := prog_8_method_8_code
def yX6_carryOut : MethodName := ⟨RX6, "carryOut", "(IIIII)I"⟩
abbrev cX6_tell : ByteArray := prog_8_method_9_code
def yX6_tell : MethodName := ⟨RX6, "tell", "(II)I"⟩
abbrev cX6_end : ByteArray := prog_8_method_10_code
def yX6_end : MethodName := ⟨RX6, "end", "(I)I"⟩
abbrev cX6_goOnIf : ByteArray := prog_8_method_11_code
def yX6_goOnIf : MethodName := ⟨RX6, "goOnIf", "(ZI)I"⟩
abbrev cX6_change : ByteArray := prog_8_method_12_code
def yX6_change : MethodName := ⟨RX6, "change", "(II)I"⟩
abbrev cX6_ask : ByteArray := prog_8_method_13_code
def yX6_ask : MethodName := ⟨RX6, "ask", "(I)I"⟩
abbrev cX6_set : ByteArray := prog_8_method_14_code
def yX6_set : MethodName := ⟨RX6, "set", "(II)I"⟩
abbrev cX6_placeOfGlobal : ByteArray := prog_8_method_15_code
def yX6_placeOfGlobal : MethodName := ⟨RX6, "placeOfGlobal", "(I)I"⟩
abbrev cX6_enter : ByteArray := prog_8_method_16_code
def yX6_enter : MethodName := ⟨RX6, "enter", "(IIII)I"⟩
abbrev cX6_giveBack : ByteArray := prog_8_method_17_code
def yX6_giveBack : MethodName := ⟨RX6, "giveBack", "(I)I"⟩
abbrev cX6_leaveDownTo : ByteArray := prog_8_method_18_code
def yX6_leaveDownTo : MethodName := ⟨RX6, "leaveDownTo", "(I)V"⟩
abbrev cX6_throwTo : ByteArray := prog_8_method_19_code
def yX6_throwTo : MethodName := ⟨RX6, "throwTo", "(II)I"⟩
abbrev cX6_raise : ByteArray := prog_8_method_20_code
def yX6_raise : MethodName := ⟨RX6, "raise", "(I)I"⟩
abbrev cX6_printRows : ByteArray := prog_8_method_21_code
def yX6_printRows : MethodName := ⟨RX6, "printRows", "(III)I"⟩
def RX7 : String := "ZMemory"
def TX7 : u_T := fun k => match k with
  | 0 => ("ZMemory", "memory", "LZMemory$Memory;", true)
  | 1 => ("ZMemory", "chance", "LZMemory$Chance;", true)
  | 2 => ("ZMemory", "program", "LZMemory$Program;", true)
  | _ => ("ZMemory", "runner", "LZMemory$Runner;", true)
def tyX7 : Nat → FieldType := fun k => match k with
  | 0 => .object "ZMemory$Memory"
  | 1 => .object "ZMemory$Chance"
  | 2 => .object "ZMemory$Program"
  | _ => .object "ZMemory$Runner"
abbrev wsX70 : List Cond := u_ws RX7 TX7 4
theorem nmX7 : ∀ a, a < 4 → ∀ b, b < 4 → a ≠ b → (TX7 a).2.1 ≠ (TX7 b).2.1 := by decide +kernel
theorem tyX7_ok : ∀ k, k < 4 → parseFieldDescriptor (TX7 k).2.2.1 = some (tyX7 k) := by decide +kernel
abbrev cX7_init : ByteArray := prog_1_method_1_code
def yX7_init : MethodName := ⟨RX7, "<init>", "()V"⟩
abbrev cX7_size : ByteArray := prog_1_method_2_code
def yX7_size : MethodName := ⟨RX7, "size", "(II)I"⟩
abbrev cX7_get : ByteArray := prog_1_method_3_code
def yX7_get : MethodName := ⟨RX7, "get", "(IZ)I"⟩
abbrev cX7_put : ByteArray := prog_1_method_4_code
def yX7_put : MethodName := ⟨RX7, "put", "(IIZZ)I"⟩
abbrev cX7_work : ByteArray := prog_1_method_5_code
def yX7_work : MethodName := ⟨RX7, "work", "(III)I"⟩
abbrev cX7_copy : ByteArray := prog_1_method_6_code
def yX7_copy : MethodName := ⟨RX7, "copy", "(III)I"⟩
abbrev cX7_look : ByteArray := prog_1_method_7_code
def yX7_look : MethodName := ⟨RX7, "look", "(IIII)I"⟩
abbrev cX7_random : ByteArray := prog_1_method_8_code
def yX7_random : MethodName := ⟨RX7, "random", "(I)I"⟩
abbrev cX7_tape : ByteArray := prog_1_method_9_code
def yX7_tape : MethodName := ⟨RX7, "tape", "(I)I"⟩
abbrev cX7_globe : ByteArray := prog_1_method_10_code
def yX7_globe : MethodName := ⟨RX7, "globe", "(I)I"⟩
abbrev cX7_form : ByteArray := prog_1_method_11_code
def yX7_form : MethodName := ⟨RX7, "form", "(I)I"⟩
abbrev cX7_instruction : ByteArray := prog_1_method_12_code
def yX7_instruction : MethodName := ⟨RX7, "instruction", "(IIIII)I"⟩
abbrev cX7_routine : ByteArray := prog_1_method_13_code
def yX7_routine : MethodName := ⟨RX7, "routine", "(IIIZ)I"⟩
abbrev cX7_clear : ByteArray := prog_1_method_14_code
def yX7_clear : MethodName := ⟨RX7, "clear", "()I"⟩
abbrev cX7_run : ByteArray := prog_1_method_15_code
def yX7_run : MethodName := ⟨RX7, "run", "(III)I"⟩
abbrev cX7_told : ByteArray := prog_1_method_16_code
def yX7_told : MethodName := ⟨RX7, "told", "(I)I"⟩
abbrev cX7_printed : ByteArray := prog_1_method_17_code
def yX7_printed : MethodName := ⟨RX7, "printed", "(I)I"⟩
abbrev cX7_left : ByteArray := prog_1_method_18_code
def yX7_left : MethodName := ⟨RX7, "left", "(I)I"⟩
abbrev cX7_isWithin : ByteArray := prog_1_method_19_code
def yX7_isWithin : MethodName := ⟨RX7, "isWithin", "(II)Z"⟩
abbrev cX7_isOperand : ByteArray := prog_1_method_20_code
def yX7_isOperand : MethodName := ⟨RX7, "isOperand", "(I)Z"⟩
abbrev cX7_word : ByteArray := prog_1_method_21_code
def yX7_word : MethodName := ⟨RX7, "word", "(I)I"⟩
abbrev cX7_number : ByteArray := prog_1_method_22_code
def yX7_number : MethodName := ⟨RX7, "number", "(I)I"⟩
abbrev cX7_arithmetic : ByteArray := prog_1_method_23_code
def yX7_arithmetic : MethodName := ⟨RX7, "arithmetic", "(III)I"⟩
abbrev cX7_shiftNumber : ByteArray := prog_1_method_24_code
def yX7_shiftNumber : MethodName := ⟨RX7, "shiftNumber", "(II)I"⟩
abbrev cX7_shiftBits : ByteArray := prog_1_method_25_code
def yX7_shiftBits : MethodName := ⟨RX7, "shiftBits", "(II)I"⟩
def RX8 : String := "ZMemoryModel"
def TX8 : u_T := fun k => match k with
  | 0 => ("ZMemoryModel", "code", "I", false)
  | 1 => ("ZMemoryModel", "bytes", "[I", true)
  | 2 => ("ZMemoryModel", "size", "I", false)
  | 3 => ("ZMemoryModel", "dynamic", "I", false)
  | 4 => ("ZMemoryModel", "globe", "I", false)
  | 5 => ("ZMemoryModel", "form", "I", false)
  | 6 => ("ZMemoryModel", "way", "I", false)
  | 7 => ("ZMemoryModel", "seed", "I", false)
  | 8 => ("ZMemoryModel", "round", "I", false)
  | 9 => ("ZMemoryModel", "count", "I", false)
  | 10 => ("ZMemoryModel", "tape", "[I", true)
  | 11 => ("ZMemoryModel", "taped", "I", false)
  | 12 => ("ZMemoryModel", "fault", "I", false)
  | 13 => ("ZMemoryModel", "moved", "[I", true)
  | 14 => ("ZMemoryModel", "many", "I", false)
  | 15 => ("ZMemoryModel", "ops", "[I", true)
  | 16 => ("ZMemoryModel", "operands", "[I", true)
  | 17 => ("ZMemoryModel", "stores", "[I", true)
  | 18 => ("ZMemoryModel", "isRoutine", "[Z", true)
  | 19 => ("ZMemoryModel", "begins", "[I", true)
  | 20 => ("ZMemoryModel", "locals", "[I", true)
  | 21 => ("ZMemoryModel", "isGuarded", "[Z", true)
  | 22 => ("ZMemoryModel", "frames", "I", false)
  | 23 => ("ZMemoryModel", "frameRoutine", "[I", true)
  | 24 => ("ZMemoryModel", "framePlace", "[I", true)
  | 25 => ("ZMemoryModel", "frameStore", "[I", true)
  | 26 => ("ZMemoryModel", "frameBase", "[I", true)
  | 27 => ("ZMemoryModel", "frameLocals", "[I", true)
  | 28 => ("ZMemoryModel", "stack", "[I", true)
  | 29 => ("ZMemoryModel", "high", "I", false)
  | 30 => ("ZMemoryModel", "prints", "[I", true)
  | 31 => ("ZMemoryModel", "printed", "I", false)
  | 32 => ("ZMemoryModel", "lefts", "[I", true)
  | 33 => ("ZMemoryModel", "steps", "I", false)
  | 34 => ("ZMemoryModel", "returned", "I", false)
  | 35 => ("ZMemoryModel", "unguarded", "I", false)
  | 36 => ("ZMemoryModel", "guarded", "I", false)
  | 37 => ("ZMemoryModel", "throwsCame", "I", false)
  | 38 => ("ZMemoryModel", "deepest", "I", false)
  | 39 => ("ZMemoryModel", "counted", "I", false)
  | _ => ("ZMemoryModel", "end", "I", false)
def tyX8 : Nat → FieldType := fun k => match k with
  | 0 => .int
  | 1 => .array .int
  | 2 => .int
  | 3 => .int
  | 4 => .int
  | 5 => .int
  | 6 => .int
  | 7 => .int
  | 8 => .int
  | 9 => .int
  | 10 => .array .int
  | 11 => .int
  | 12 => .int
  | 13 => .array .int
  | 14 => .int
  | 15 => .array .int
  | 16 => .array .int
  | 17 => .array .int
  | 18 => .array .boolean
  | 19 => .array .int
  | 20 => .array .int
  | 21 => .array .boolean
  | 22 => .int
  | 23 => .array .int
  | 24 => .array .int
  | 25 => .array .int
  | 26 => .array .int
  | 27 => .array .int
  | 28 => .array .int
  | 29 => .int
  | 30 => .array .int
  | 31 => .int
  | 32 => .array .int
  | 33 => .int
  | 34 => .int
  | 35 => .int
  | 36 => .int
  | 37 => .int
  | 38 => .int
  | 39 => .int
  | _ => .int
abbrev wsX80 : List Cond := u_ws RX8 TX8 41
theorem nmX8 : ∀ a, a < 41 → ∀ b, b < 41 → a ≠ b → (TX8 a).2.1 ≠ (TX8 b).2.1 := by decide +kernel
theorem tyX8_ok : ∀ k, k < 41 → parseFieldDescriptor (TX8 k).2.2.1 = some (tyX8 k) := by decide +kernel
abbrev cX8_init : ByteArray := prog_10_method_1_code
def yX8_init : MethodName := ⟨RX8, "<init>", "()V"⟩
abbrev cX8_signed : ByteArray := prog_10_method_3_code
def yX8_signed : MethodName := ⟨RX8, "signed", "(I)I"⟩
abbrev cX8_isThere : ByteArray := prog_10_method_4_code
def yX8_isThere : MethodName := ⟨RX8, "isThere", "(II)Z"⟩
abbrev cX8_read : ByteArray := prog_10_method_5_code
def yX8_read : MethodName := ⟨RX8, "read", "(IZ)I"⟩
abbrev cX8_write : ByteArray := prog_10_method_6_code
def yX8_write : MethodName := ⟨RX8, "write", "(IIZZ)V"⟩
abbrev cX8_size : ByteArray := prog_10_method_7_code
def yX8_size : MethodName := ⟨RX8, "size", "(II)I"⟩
abbrev cX8_get : ByteArray := prog_10_method_8_code
def yX8_get : MethodName := ⟨RX8, "get", "(IZ)I"⟩
abbrev cX8_put : ByteArray := prog_10_method_9_code
def yX8_put : MethodName := ⟨RX8, "put", "(IIZZ)I"⟩
abbrev cX8_worked : ByteArray := prog_10_method_10_code
def yX8_worked : MethodName := ⟨RX8, "worked", "(III)I"⟩
abbrev cX8_shifted : ByteArray := prog_10_method_11_code
def yX8_shifted : MethodName := ⟨RX8, "shifted", "(ZII)I"⟩
abbrev cX8_work : ByteArray := prog_10_method_12_code
def yX8_work : MethodName := ⟨RX8, "work", "(III)I"⟩
abbrev cX8_copied : ByteArray := prog_10_method_13_code
def yX8_copied : MethodName := ⟨RX8, "copied", "(III)V"⟩
abbrev cX8_copy : ByteArray := prog_10_method_14_code
def yX8_copy : MethodName := ⟨RX8, "copy", "(III)I"⟩
abbrev cX8_looked : ByteArray := prog_10_method_15_code
def yX8_looked : MethodName := ⟨RX8, "looked", "(IIII)I"⟩
abbrev cX8_look : ByteArray := prog_10_method_16_code
def yX8_look : MethodName := ⟨RX8, "look", "(IIII)I"⟩
abbrev cX8_drawn : ByteArray := prog_10_method_17_code
def yX8_drawn : MethodName := ⟨RX8, "drawn", "(I)I"⟩
abbrev cX8_random : ByteArray := prog_10_method_18_code
def yX8_random : MethodName := ⟨RX8, "random", "(I)I"⟩
abbrev cX8_tape : ByteArray := prog_10_method_19_code
def yX8_tape : MethodName := ⟨RX8, "tape", "(I)I"⟩
abbrev cX8_globe : ByteArray := prog_10_method_20_code
def yX8_globe : MethodName := ⟨RX8, "globe", "(I)I"⟩
abbrev cX8_form : ByteArray := prog_10_method_21_code
def yX8_form : MethodName := ⟨RX8, "form", "(I)I"⟩
abbrev cX8_instruction : ByteArray := prog_10_method_22_code
def yX8_instruction : MethodName := ⟨RX8, "instruction", "(IIIII)I"⟩
abbrev cX8_routine : ByteArray := prog_10_method_23_code
def yX8_routine : MethodName := ⟨RX8, "routine", "(IIIZ)I"⟩
abbrev cX8_clear : ByteArray := prog_10_method_24_code
def yX8_clear : MethodName := ⟨RX8, "clear", "()I"⟩
abbrev cX8_top : ByteArray := prog_10_method_25_code
def yX8_top : MethodName := ⟨RX8, "top", "()I"⟩
abbrev cX8_pop : ByteArray := prog_10_method_26_code
def yX8_pop : MethodName := ⟨RX8, "pop", "()I"⟩
abbrev cX8_push : ByteArray := prog_10_method_27_code
def yX8_push : MethodName := ⟨RX8, "push", "(I)V"⟩
abbrev cX8_isLocal : ByteArray := prog_10_method_28_code
def yX8_isLocal : MethodName := ⟨RX8, "isLocal", "(I)Z"⟩
abbrev cX8_ask : ByteArray := prog_10_method_29_code
def yX8_ask : MethodName := ⟨RX8, "ask", "(I)I"⟩
abbrev cX8_set : ByteArray := prog_10_method_30_code
def yX8_set : MethodName := ⟨RX8, "set", "(II)V"⟩
abbrev cX8_more : ByteArray := prog_10_method_31_code
def yX8_more : MethodName := ⟨RX8, "more", "(II)V"⟩
abbrev cX8_wants : ByteArray := prog_10_method_32_code
def yX8_wants : MethodName := ⟨RX8, "wants", "(I)I"⟩
abbrev cX8_print : ByteArray := prog_10_method_33_code
def yX8_print : MethodName := ⟨RX8, "print", "(I)V"⟩
abbrev cX8_printNumber : ByteArray := prog_10_method_34_code
def yX8_printNumber : MethodName := ⟨RX8, "printNumber", "(I)V"⟩
abbrev cX8_printRows : ByteArray := prog_10_method_35_code
def yX8_printRows : MethodName := ⟨RX8, "printRows", "(III)V"⟩
abbrev cX8_enter : ByteArray := prog_10_method_36_code
def yX8_enter : MethodName := ⟨RX8, "enter", "(IIII)V"⟩
abbrev cX8_leave : ByteArray := prog_10_method_37_code
def yX8_leave : MethodName := ⟨RX8, "leave", "()V"⟩
abbrev cX8_back : ByteArray := prog_10_method_38_code
def yX8_back : MethodName := ⟨RX8, "back", "(I)V"⟩
abbrev cX8_act : ByteArray := prog_10_method_39_code
def yX8_act : MethodName := ⟨RX8, "act", "(IIIII)V"⟩
abbrev cX8_throwTo : ByteArray := prog_10_method_40_code
def yX8_throwTo : MethodName := ⟨RX8, "throwTo", "(II)V"⟩
abbrev cX8_step : ByteArray := prog_10_method_41_code
def yX8_step : MethodName := ⟨RX8, "step", "()V"⟩
abbrev cX8_up : ByteArray := prog_10_method_42_code
def yX8_up : MethodName := ⟨RX8, "up", "()V"⟩
abbrev cX8_run : ByteArray := prog_10_method_43_code
def yX8_run : MethodName := ⟨RX8, "run", "(III)I"⟩
abbrev cX8_told : ByteArray := prog_10_method_44_code
def yX8_told : MethodName := ⟨RX8, "told", "(I)I"⟩
abbrev cX8_printed : ByteArray := prog_10_method_45_code
def yX8_printed : MethodName := ⟨RX8, "printed", "(I)I"⟩
abbrev cX8_left : ByteArray := prog_10_method_46_code
def yX8_left : MethodName := ⟨RX8, "left", "(I)I"⟩
def RJ9 : String := "java/lang/Math"
def TJ9 : u_T := fun k => match k with
  | _ => ("", "", "", false)
def tyJ9 : Nat → FieldType := fun k => match k with
  | _ => .int
abbrev wsJ90 : List Cond := u_ws RJ9 TJ9 0
theorem nmJ9 : ∀ a, a < 0 → ∀ b, b < 0 → a ≠ b → (TJ9 a).2.1 ≠ (TJ9 b).2.1 := by decide +kernel
theorem tyJ9_ok : ∀ k, k < 0 → parseFieldDescriptor (TJ9 k).2.2.1 = some (tyJ9 k) := by decide +kernel
abbrev cJ9_abs_0f7a4 : ByteArray := prog_15_method_59_code
def yJ9_abs_0f7a4 : MethodName := ⟨RJ9, "abs", "(I)I"⟩
abbrev cJ9_max_7cf53 : ByteArray := prog_15_method_65_code
def yJ9_max_7cf53 : MethodName := ⟨RJ9, "max", "(II)I"⟩
abbrev cJ9_min_7cf53 : ByteArray := prog_15_method_69_code
def yJ9_min_7cf53 : MethodName := ⟨RJ9, "min", "(II)I"⟩
def RJ0 : String := "java/lang/String"
def TJ0 : u_T := fun k => match k with
  | _ => ("", "", "", false)
def tyJ0 : Nat → FieldType := fun k => match k with
  | _ => .int
abbrev wsJ00 : List Cond := u_ws RJ0 TJ0 0
theorem nmJ0 : ∀ a, a < 0 → ∀ b, b < 0 → a ≠ b → (TJ0 a).2.1 ≠ (TJ0 b).2.1 := by decide +kernel
theorem tyJ0_ok : ∀ k, k < 0 → parseFieldDescriptor (TJ0 k).2.2.1 = some (tyJ0 k) := by decide +kernel
def RJ10 : String := "java/lang/System"
def TJ10 : u_T := fun k => match k with
  | _ => ("", "", "", false)
def tyJ10 : Nat → FieldType := fun k => match k with
  | _ => .int
abbrev wsJ100 : List Cond := u_ws RJ10 TJ10 0
theorem nmJ10 : ∀ a, a < 0 → ∀ b, b < 0 → a ≠ b → (TJ10 a).2.1 ≠ (TJ10 b).2.1 := by decide +kernel
theorem tyJ10_ok : ∀ k, k < 0 → parseFieldDescriptor (TJ10 k).2.2.1 = some (tyJ10 k) := by decide +kernel
def RJ7 : String := "java/util/Arrays"
def TJ7 : u_T := fun k => match k with
  | _ => ("", "", "", false)
def tyJ7 : Nat → FieldType := fun k => match k with
  | _ => .int
abbrev wsJ70 : List Cond := u_ws RJ7 TJ7 0
theorem nmJ7 : ∀ a, a < 0 → ∀ b, b < 0 → a ≠ b → (TJ7 a).2.1 ≠ (TJ7 b).2.1 := by decide +kernel
theorem tyJ7_ok : ∀ k, k < 0 → parseFieldDescriptor (TJ7 k).2.2.1 = some (tyJ7 k) := by decide +kernel
abbrev cJ7_fill_53178 : ByteArray := prog_20_method_103_code
def yJ7_fill_53178 : MethodName := ⟨RJ7, "fill", "([II)V"⟩
def RL : String := "ZMemoryLaw"
abbrev cL_work : ByteArray := method_3_code
def yL_work : MethodName := ⟨RL, "work", "(LZMemory;III[J)I"⟩
abbrev cL_printed : ByteArray := method_4_code
def yL_printed : MethodName := ⟨RL, "printed", "(LZMemory;I[J)I"⟩
abbrev cL_law : ByteArray := code
def yL_law : MethodName := ⟨RL, "law", "([I)Z"⟩
def wsL_law0_r1 : List Cond := [Cond.classLink RL 8 RX7, Cond.instantiable RX7 4, Cond.initialized RX7, Cond.classLink RL 24 RX8, Cond.instantiable RX8 41, Cond.initialized RX8, Cond.arrayClass .long, Cond.methodLink RL 23 yX7_init, Cond.instanceMethod yX7_init, Cond.code yX7_init cX7_init 1 none, Cond.methodLink RX7 3 objectInit, Cond.instanceMethod objectInit, Cond.code objectInit ⟨#[0xb1]⟩ 1 none, Cond.classLink RX7 9 RX3, Cond.instantiable RX3 3, Cond.initialized RX3, Cond.fieldLink RX7 12 "ZMemory" "memory" "LZMemory$Memory;", Cond.classLink RX7 16 RX0, Cond.instantiable RX0 7, Cond.initialized RX0, Cond.fieldLink RX7 19 "ZMemory" "chance" "LZMemory$Chance;", Cond.classLink RX7 23 RX5, Cond.instantiable RX5 8, Cond.initialized RX5]
def wsL_law0_r2 : List Cond := [Cond.fieldLink RX7 26 "ZMemory" "program" "LZMemory$Program;", Cond.classLink RX7 30 RX6, Cond.instantiable RX6 17, Cond.initialized RX6, Cond.fieldLink RX7 35 "ZMemory" "runner" "LZMemory$Runner;", Cond.instanceMethod yX3_init, Cond.code yX3_init cX3_init 1 none, Cond.methodLink RX3 3 objectInit, Cond.arrayClass .int, Cond.fieldLink RX3 9 "ZMemory$Memory" "bytes" "[I", Cond.instanceMethod yX0_init, Cond.code yX0_init cX0_init 1 none, Cond.methodLink RX0 3 objectInit, Cond.fieldLink RX0 9 "ZMemory$Chance" "numbers" "[I", Cond.fieldLink RX0 15 "ZMemory$Chance" "way" "I", Cond.fieldLink RX0 19 "ZMemory$Chance" "seed" "I", Cond.instanceMethod yX5_init, Cond.code yX5_init cX5_init 1 none, Cond.methodLink RX5 3 objectInit, Cond.fieldLink RX5 9 "ZMemory$Program" "ops" "[I", Cond.fieldLink RX5 15 "ZMemory$Program" "operands" "[I", Cond.fieldLink RX5 18 "ZMemory$Program" "stores" "[I", Cond.arrayClass .boolean, Cond.fieldLink RX5 21 "ZMemory$Program" "defined" "[Z"]
def wsL_law0_r3 : List Cond := [Cond.fieldLink RX5 25 "ZMemory$Program" "starts" "[I", Cond.fieldLink RX5 28 "ZMemory$Program" "locals" "[I", Cond.fieldLink RX5 31 "ZMemory$Program" "guards" "[Z", Cond.methodLink RX7 32 yX6_init, Cond.instanceMethod yX6_init, Cond.code yX6_init cX6_init 4 none, Cond.methodLink RX6 3 objectInit, Cond.classLink RX6 9 RX2, Cond.instantiable RX2 5, Cond.initialized RX2, Cond.fieldLink RX6 12 "ZMemory$Runner" "frames" "LZMemory$Frames;", Cond.classLink RX6 18 RX4, Cond.instantiable RX4 2, Cond.initialized RX4, Cond.fieldLink RX6 21 "ZMemory$Runner" "page" "LZMemory$Page;", Cond.fieldLink RX6 25 "ZMemory$Runner" "leavings" "[I", Cond.fieldLink RX6 29 "ZMemory$Runner" "values" "[I", Cond.fieldLink RX6 32 "ZMemory$Runner" "form" "I", Cond.fieldLink RX6 36 "ZMemory$Runner" "memory" "LZMemory$Memory;", Cond.fieldLink RX6 40 "ZMemory$Runner" "chance" "LZMemory$Chance;", Cond.fieldLink RX6 44 "ZMemory$Runner" "program" "LZMemory$Program;", Cond.methodLink RX6 11 yX2_init, Cond.instanceMethod yX2_init, Cond.code yX2_init cX2_init 2 none]
def wsL_law0_r4 : List Cond := [Cond.methodLink RX2 3 objectInit, Cond.classLink RX2 9 RX1, Cond.fieldLink RX2 11 "ZMemory$Frames" "frames" "[LZMemory$Frame;", Cond.fieldLink RX2 17 "ZMemory$Frames" "stack" "[I", Cond.instantiable RX1 6, Cond.initialized RX1, Cond.instanceMethod yX1_init, Cond.code yX1_init cX1_init 1 none, Cond.methodLink RX1 3 objectInit, Cond.fieldLink RX1 9 "ZMemory$Frame" "locals" "[I", Cond.instanceMethod yX4_init, Cond.code yX4_init cX4_init 1 none, Cond.methodLink RX4 3 objectInit, Cond.fieldLink RX4 9 "ZMemory$Page" "characters" "[I", Cond.methodLink RL 26 yX8_init, Cond.instanceMethod yX8_init, Cond.code yX8_init cX8_init 1 none, Cond.methodLink RX8 1 objectInit, Cond.fieldLink RX8 7 "ZMemoryModel" "bytes" "[I", Cond.fieldLink RX8 13 "ZMemoryModel" "form" "I", Cond.fieldLink RX8 17 "ZMemoryModel" "seed" "I", Cond.fieldLink RX8 20 "ZMemoryModel" "tape" "[I", Cond.fieldLink RX8 23 "ZMemoryModel" "moved" "[I", Cond.fieldLink RX8 26 "ZMemoryModel" "ops" "[I"]
def wsL_law0_r5 : List Cond := [Cond.fieldLink RX8 29 "ZMemoryModel" "operands" "[I", Cond.fieldLink RX8 32 "ZMemoryModel" "stores" "[I", Cond.fieldLink RX8 35 "ZMemoryModel" "isRoutine" "[Z", Cond.fieldLink RX8 39 "ZMemoryModel" "begins" "[I", Cond.fieldLink RX8 42 "ZMemoryModel" "locals" "[I", Cond.fieldLink RX8 45 "ZMemoryModel" "isGuarded" "[Z", Cond.fieldLink RX8 48 "ZMemoryModel" "frameRoutine" "[I", Cond.fieldLink RX8 51 "ZMemoryModel" "framePlace" "[I", Cond.fieldLink RX8 54 "ZMemoryModel" "frameStore" "[I", Cond.fieldLink RX8 57 "ZMemoryModel" "frameBase" "[I", Cond.fieldLink RX8 60 "ZMemoryModel" "frameLocals" "[I", Cond.fieldLink RX8 63 "ZMemoryModel" "stack" "[I", Cond.fieldLink RX8 66 "ZMemoryModel" "prints" "[I", Cond.fieldLink RX8 69 "ZMemoryModel" "lefts" "[I", Cond.methodLink RL 27 yX7_size, Cond.instanceMethod yX7_size, Cond.selects RX7 yX7_size yX7_size, Cond.code yX7_size cX7_size 3 (some .int), Cond.methodLink RX7 39 yX3_begin, Cond.instanceMethod yX3_begin, Cond.selects RX3 yX3_begin yX3_begin, Cond.code yX3_begin cX3_begin 3 none, Cond.fieldLink RX3 21 "ZMemory$Memory" "length" "I", Cond.fieldLink RX3 25 "ZMemory$Memory" "dynamic" "I"]
def wsL_law0_r6 : List Cond := [Cond.methodLink RX3 15 yJ7_fill_53178, Cond.static yJ7_fill_53178, Cond.initialized RJ7, Cond.code yJ7_fill_53178 cJ7_fill_53178 4 none, Cond.methodLink RL 31 yX8_size, Cond.instanceMethod yX8_size, Cond.selects RX8 yX8_size yX8_size, Cond.code yX8_size cX8_size 4 (some .int), Cond.fieldLink RX8 72 "ZMemoryModel" "code" "I", Cond.fieldLink RX8 78 "ZMemoryModel" "size" "I", Cond.fieldLink RX8 88 "ZMemoryModel" "dynamic" "I", Cond.methodLink RL 32 yX7_get, Cond.instanceMethod yX7_get, Cond.selects RX7 yX7_get yX7_get, Cond.code yX7_get cX7_get 3 (some .int), Cond.methodLink RX7 43 yX3_wordAt, Cond.instanceMethod yX3_wordAt, Cond.selects RX3 yX3_wordAt yX3_wordAt, Cond.code yX3_wordAt cX3_wordAt 2 (some .int), Cond.methodLink RX3 28 yX3_isOutside, Cond.instanceMethod yX3_isOutside, Cond.selects RX3 yX3_isOutside yX3_isOutside, Cond.code yX3_isOutside cX3_isOutside 2 (some .boolean), Cond.methodLink RX7 47 yX3_byteAt]
def wsL_law0_r7 : List Cond := [Cond.instanceMethod yX3_byteAt, Cond.selects RX3 yX3_byteAt yX3_byteAt, Cond.code yX3_byteAt cX3_byteAt 2 (some .int), Cond.methodLink RL 36 yX8_get, Cond.instanceMethod yX8_get, Cond.selects RX8 yX8_get yX8_get, Cond.code yX8_get cX8_get 4 (some .int), Cond.fieldLink RX8 81 "ZMemoryModel" "fault" "I", Cond.methodLink RX8 91 yX8_read, Cond.instanceMethod yX8_read, Cond.selects RX8 yX8_read yX8_read, Cond.code yX8_read cX8_read 3 (some .int), Cond.methodLink RX8 84 yX8_isThere, Cond.instanceMethod yX8_isThere, Cond.selects RX8 yX8_isThere yX8_isThere, Cond.code yX8_isThere cX8_isThere 3 (some .boolean), Cond.methodLink RL 37 yX7_put, Cond.instanceMethod yX7_put, Cond.selects RX7 yX7_put yX7_put, Cond.code yX7_put cX7_put 5 (some .int), Cond.methodLink RX7 50 yX3_setWord, Cond.instanceMethod yX3_setWord, Cond.selects RX3 yX3_setWord yX3_setWord, Cond.code yX3_setWord cX3_setWord 4 (some .int)]
def wsL_law0_r8 : List Cond := [Cond.methodLink RX7 54 yX3_setByte, Cond.instanceMethod yX3_setByte, Cond.selects RX3 yX3_setByte yX3_setByte, Cond.code yX3_setByte cX3_setByte 4 (some .int), Cond.methodLink RL 41 yX8_put, Cond.instanceMethod yX8_put, Cond.selects RX8 yX8_put yX8_put, Cond.code yX8_put cX8_put 5 (some .int), Cond.methodLink RX8 95 yX8_write, Cond.instanceMethod yX8_write, Cond.selects RX8 yX8_write yX8_write, Cond.code yX8_write cX8_write 5 none, Cond.methodLink RL 42 yL_work, Cond.static yL_work, Cond.initialized RL, Cond.codeWith yL_work cL_work 6 (some .int) [(0, 12, 15, 13), (0, 12, 19, 15)], Cond.classLink RL 13 "java/lang/IllegalArgumentException", Cond.classLink RL 15 "java/lang/ArithmeticException", Cond.methodLink RL 7 yX7_work, Cond.instanceMethod yX7_work, Cond.selects RX7 yX7_work yX7_work, Cond.code yX7_work cX7_work 5 (some .int), Cond.classLink RX7 57 "java/lang/IllegalArgumentException", Cond.initialized "java/lang/IllegalArgumentException"]
def wsL_law0_r9 : List Cond := [Cond.classLink RX7 71 "java/lang/ArithmeticException", Cond.initialized "java/lang/ArithmeticException", Cond.methodLink RX7 64 yX7_number, Cond.static yX7_number, Cond.code yX7_number cX7_number 1 (some .int), Cond.methodLink RX7 67 yX7_arithmetic, Cond.static yX7_arithmetic, Cond.code yX7_arithmetic cX7_arithmetic 3 (some .int), Cond.methodLink RX7 76 yX7_word, Cond.static yX7_word, Cond.code yX7_word cX7_word 1 (some .int), Cond.constant RX7 93 (65535), Cond.methodLink RX7 189 yX7_shiftNumber, Cond.static yX7_shiftNumber, Cond.code yX7_shiftNumber cX7_shiftNumber 2 (some .int), Cond.methodLink RX7 196 Lib.Math.min.name, Cond.static Lib.Math.min.name, Cond.initialized "java/lang/Math", Cond.code Lib.Math.min.name Lib.Math.min.code 2 (some .int), Cond.methodLink RX7 193 yX7_shiftBits, Cond.static yX7_shiftBits, Cond.code yX7_shiftBits cX7_shiftBits 2 (some .int), Cond.methodLink RL 47 yX8_work, Cond.instanceMethod yX8_work]
def wsL_law0_r10 : List Cond := [Cond.selects RX8 yX8_work yX8_work, Cond.code yX8_work cX8_work 5 (some .int), Cond.methodLink RX8 99 yX8_signed, Cond.static yX8_signed, Cond.code yX8_signed cX8_signed 2 (some .int), Cond.constant RX8 75 (65535), Cond.constant RX8 76 (32768), Cond.constant RX8 77 (65536), Cond.methodLink RX8 107 yX8_worked, Cond.instanceMethod yX8_worked, Cond.selects RX8 yX8_worked yX8_worked, Cond.code yX8_worked cX8_worked 4 (some .int), Cond.methodLink RX8 103 yX8_shifted, Cond.static yX8_shifted, Cond.code yX8_shifted cX8_shifted 6 (some .int), Cond.methodLink RL 48 yX7_copy, Cond.instanceMethod yX7_copy, Cond.selects RX7 yX7_copy yX7_copy, Cond.code yX7_copy cX7_copy 4 (some .int), Cond.methodLink RX7 79 yX3_copyTable, Cond.instanceMethod yX3_copyTable, Cond.selects RX3 yX3_copyTable yX3_copyTable, Cond.code yX3_copyTable cX3_copyTable 4 (some .int), Cond.methodLink RX3 32 Lib.Math.abs.name]
def wsL_law0_r11 : List Cond := [Cond.static Lib.Math.abs.name, Cond.code Lib.Math.abs.name Lib.Math.abs.code 1 (some .int), Cond.methodLink RX3 38 yX3_wipe, Cond.instanceMethod yX3_wipe, Cond.selects RX3 yX3_wipe yX3_wipe, Cond.code yX3_wipe cX3_wipe 4 (some .int), Cond.methodLink RX3 42 yX3_copyAtOnce, Cond.instanceMethod yX3_copyAtOnce, Cond.selects RX3 yX3_copyAtOnce yX3_copyAtOnce, Cond.code yX3_copyAtOnce cX3_copyAtOnce 4 (some .int), Cond.methodLink RX3 49 arraycopyName, Cond.native arraycopyName, Cond.static arraycopyName, Cond.initialized "java/lang/System", Cond.methodLink RX3 46 yX3_copyInTurn, Cond.instanceMethod yX3_copyInTurn, Cond.selects RX3 yX3_copyInTurn yX3_copyInTurn, Cond.code yX3_copyInTurn cX3_copyInTurn 7 (some .int), Cond.methodLink RX3 55 yX3_byteAt, Cond.methodLink RX3 58 yX3_setByte, Cond.methodLink RL 51 yX8_copy, Cond.instanceMethod yX8_copy, Cond.selects RX8 yX8_copy yX8_copy, Cond.code yX8_copy cX8_copy 4 (some .int)]
def wsL_law0_r12 : List Cond := [Cond.methodLink RX8 111 yX8_copied, Cond.instanceMethod yX8_copied, Cond.selects RX8 yX8_copied yX8_copied, Cond.code yX8_copied cX8_copied 7 none, Cond.methodLink RL 52 yX7_look, Cond.instanceMethod yX7_look, Cond.selects RX7 yX7_look yX7_look, Cond.code yX7_look cX7_look 5 (some .int), Cond.methodLink RX7 82 yX7_isWithin, Cond.static yX7_isWithin, Cond.code yX7_isWithin cX7_isWithin 2 (some .boolean), Cond.methodLink RX7 86 yX3_find, Cond.instanceMethod yX3_find, Cond.selects RX3 yX3_find yX3_find, Cond.code yX3_find cX3_find 10 (some .int), Cond.methodLink RX3 62 Lib.Math.min.name, Cond.methodLink RX3 65 yX3_wordAt, Cond.methodLink RL 56 yX8_look, Cond.instanceMethod yX8_look, Cond.selects RX8 yX8_look yX8_look, Cond.code yX8_look cX8_look 6 (some .int), Cond.methodLink RX8 115 yX8_looked, Cond.instanceMethod yX8_looked, Cond.selects RX8 yX8_looked yX8_looked]
def wsL_law0_r13 : List Cond := [Cond.code yX8_looked cX8_looked 9 (some .int), Cond.methodLink RL 57 yX7_random, Cond.instanceMethod yX7_random, Cond.selects RX7 yX7_random yX7_random, Cond.code yX7_random cX7_random 2 (some .int), Cond.methodLink RX7 90 yX0_draw, Cond.instanceMethod yX0_draw, Cond.selects RX0 yX0_draw yX0_draw, Cond.code yX0_draw cX0_draw 2 (some .int), Cond.fieldLink RX0 32 "ZMemory$Chance" "round" "I", Cond.fieldLink RX0 35 "ZMemory$Chance" "counted" "I", Cond.methodLink RX0 28 yX0_next, Cond.instanceMethod yX0_next, Cond.selects RX0 yX0_next yX0_next, Cond.code yX0_next cX0_next 1 (some .int), Cond.fieldLink RX0 22 "ZMemory$Chance" "taped" "I", Cond.methodLink RX0 38 yX0_nextOfCount, Cond.instanceMethod yX0_nextOfCount, Cond.selects RX0 yX0_nextOfCount yX0_nextOfCount, Cond.code yX0_nextOfCount cX0_nextOfCount 2 (some .int), Cond.methodLink RX0 41 yX0_nextOfTape, Cond.instanceMethod yX0_nextOfTape, Cond.selects RX0 yX0_nextOfTape yX0_nextOfTape, Cond.code yX0_nextOfTape cX0_nextOfTape 2 (some .int)]
def wsL_law0_r14 : List Cond := [Cond.fieldLink RX0 25 "ZMemory$Chance" "first" "I", Cond.methodLink RX0 44 yX0_nextOfSeed, Cond.instanceMethod yX0_nextOfSeed, Cond.selects RX0 yX0_nextOfSeed yX0_nextOfSeed, Cond.code yX0_nextOfSeed cX0_nextOfSeed 1 (some .int), Cond.constant RX0 47 (1103515245), Cond.constant RX0 48 (2147483647), Cond.methodLink RL 60 yX8_random, Cond.instanceMethod yX8_random, Cond.selects RX8 yX8_random yX8_random, Cond.code yX8_random cX8_random 2 (some .int), Cond.methodLink RX8 133 yX8_drawn, Cond.instanceMethod yX8_drawn, Cond.selects RX8 yX8_drawn yX8_drawn, Cond.code yX8_drawn cX8_drawn 4 (some .int), Cond.fieldLink RX8 119 "ZMemoryModel" "way" "I", Cond.fieldLink RX8 122 "ZMemoryModel" "count" "I", Cond.fieldLink RX8 125 "ZMemoryModel" "round" "I", Cond.fieldLink RX8 128 "ZMemoryModel" "taped" "I", Cond.constant RX8 131 (1103515245), Cond.constant RX8 132 (2147483647), Cond.methodLink RL 61 yX7_tape, Cond.instanceMethod yX7_tape, Cond.selects RX7 yX7_tape yX7_tape]
def wsL_law0_r15 : List Cond := [Cond.code yX7_tape cX7_tape 2 (some .int), Cond.methodLink RX7 94 yX0_record, Cond.instanceMethod yX0_record, Cond.selects RX0 yX0_record yX0_record, Cond.code yX0_record cX0_record 2 (some .int), Cond.methodLink RL 64 yX8_tape, Cond.instanceMethod yX8_tape, Cond.selects RX8 yX8_tape yX8_tape, Cond.code yX8_tape cX8_tape 2 (some .int), Cond.methodLink RL 65 yX7_globe, Cond.instanceMethod yX7_globe, Cond.selects RX7 yX7_globe yX7_globe, Cond.code yX7_globe cX7_globe 3 (some .int), Cond.methodLink RL 68 yX8_globe, Cond.instanceMethod yX8_globe, Cond.selects RX8 yX8_globe yX8_globe, Cond.code yX8_globe cX8_globe 3 (some .int), Cond.fieldLink RX8 136 "ZMemoryModel" "globe" "I", Cond.methodLink RL 69 yX7_form, Cond.instanceMethod yX7_form, Cond.selects RX7 yX7_form yX7_form, Cond.code yX7_form cX7_form 3 (some .int), Cond.methodLink RL 72 yX8_form, Cond.instanceMethod yX8_form]
def wsL_law0_r16 : List Cond := [Cond.selects RX8 yX8_form yX8_form, Cond.code yX8_form cX8_form 3 (some .int), Cond.methodLink RL 73 yX7_instruction, Cond.instanceMethod yX7_instruction, Cond.selects RX7 yX7_instruction yX7_instruction, Cond.code yX7_instruction cX7_instruction 6 (some .int), Cond.methodLink RX7 104 yX7_isOperand, Cond.static yX7_isOperand, Cond.code yX7_isOperand cX7_isOperand 1 (some .boolean), Cond.methodLink RX7 108 yX5_append, Cond.instanceMethod yX5_append, Cond.selects RX5 yX5_append yX5_append, Cond.code yX5_append cX5_append 7 (some .int), Cond.fieldLink RX5 34 "ZMemory$Program" "length" "I", Cond.methodLink RL 77 yX8_instruction, Cond.instanceMethod yX8_instruction, Cond.selects RX8 yX8_instruction yX8_instruction, Cond.code yX8_instruction cX8_instruction 7 (some .int), Cond.fieldLink RX8 139 "ZMemoryModel" "many" "I", Cond.methodLink RL 78 yX7_routine, Cond.instanceMethod yX7_routine, Cond.selects RX7 yX7_routine yX7_routine, Cond.code yX7_routine cX7_routine 5 (some .int), Cond.methodLink RX7 112 yX5_define]
def wsL_law0_r17 : List Cond := [Cond.instanceMethod yX5_define, Cond.selects RX5 yX5_define yX5_define, Cond.code yX5_define cX5_define 5 none, Cond.methodLink RL 82 yX8_routine, Cond.instanceMethod yX8_routine, Cond.selects RX8 yX8_routine yX8_routine, Cond.code yX8_routine cX8_routine 5 (some .int), Cond.methodLink RL 83 yX7_clear, Cond.instanceMethod yX7_clear, Cond.selects RX7 yX7_clear yX7_clear, Cond.code yX7_clear cX7_clear 1 (some .int), Cond.methodLink RX7 116 yX5_forget, Cond.instanceMethod yX5_forget, Cond.selects RX5 yX5_forget yX5_forget, Cond.code yX5_forget cX5_forget 3 (some .int), Cond.methodLink RL 87 yX8_clear, Cond.instanceMethod yX8_clear, Cond.selects RX8 yX8_clear yX8_clear, Cond.code yX8_clear cX8_clear 3 (some .int), Cond.methodLink RL 88 yX7_run, Cond.instanceMethod yX7_run, Cond.selects RX7 yX7_run yX7_run, Cond.code yX7_run cX7_run 5 (some .int), Cond.methodLink RX7 120 yX5_hasRoutine]
def wsL_law0_r18 : List Cond := [Cond.instanceMethod yX5_hasRoutine, Cond.selects RX5 yX5_hasRoutine yX5_hasRoutine, Cond.code yX5_hasRoutine cX5_hasRoutine 2 (some .boolean), Cond.methodLink RX7 123 yX6_begin, Cond.instanceMethod yX6_begin, Cond.selects RX6 yX6_begin yX6_begin, Cond.code yX6_begin cX6_begin 4 none, Cond.fieldLink RX6 60 "ZMemory$Runner" "ending" "I", Cond.fieldLink RX6 63 "ZMemory$Runner" "steps" "I", Cond.fieldLink RX6 66 "ZMemory$Runner" "mishaps" "I", Cond.fieldLink RX6 69 "ZMemory$Runner" "returned" "I", Cond.fieldLink RX6 72 "ZMemory$Runner" "unguarded" "I", Cond.fieldLink RX6 75 "ZMemory$Runner" "guarded" "I", Cond.fieldLink RX6 78 "ZMemory$Runner" "arrived" "I", Cond.methodLink RX6 48 yX2_begin, Cond.instanceMethod yX2_begin, Cond.selects RX2 yX2_begin yX2_begin, Cond.code yX2_begin cX2_begin 1 none, Cond.fieldLink RX2 22 "ZMemory$Frames" "height" "I", Cond.fieldLink RX2 26 "ZMemory$Frames" "count" "I", Cond.fieldLink RX2 29 "ZMemory$Frames" "most" "I", Cond.methodLink RX6 54 yJ7_fill_53178, Cond.methodLink RX6 81 yX6_enter, Cond.instanceMethod yX6_enter]
def wsL_law0_r19 : List Cond := [Cond.selects RX6 yX6_enter yX6_enter, Cond.code yX6_enter cX6_enter 6 (some .int), Cond.methodLink RX6 219 yX5_hasRoutine, Cond.methodLink RX6 223 yX2_enter, Cond.instanceMethod yX2_enter, Cond.selects RX2 yX2_enter yX2_enter, Cond.code yX2_enter cX2_enter 2 (some (.object "ZMemory$Frame")), Cond.methodLink RX2 44 Lib.Math.max.name, Cond.static Lib.Math.max.name, Cond.code Lib.Math.max.name Lib.Math.max.code 2 (some .int), Cond.methodLink RX2 35 yJ7_fill_53178, Cond.methodLink RX6 213 yX1_setLocal, Cond.instanceMethod yX1_setLocal, Cond.selects RX1 yX1_setLocal yX1_setLocal, Cond.code yX1_setLocal cX1_setLocal 3 (some .int), Cond.methodLink RX1 15 yX1_hasLocal, Cond.instanceMethod yX1_hasLocal, Cond.selects RX1 yX1_hasLocal yX1_hasLocal, Cond.code yX1_hasLocal cX1_hasLocal 2 (some .boolean), Cond.fieldLink RX1 19 "ZMemory$Frame" "localCount" "I", Cond.methodLink RX7 126 yX6_isGoing, Cond.instanceMethod yX6_isGoing, Cond.selects RX6 yX6_isGoing yX6_isGoing, Cond.code yX6_isGoing cX6_isGoing 1 (some .boolean)]
def wsL_law0_r20 : List Cond := [Cond.methodLink RX7 130 yX6_step, Cond.instanceMethod yX6_step, Cond.selects RX6 yX6_step yX6_step, Cond.code yX6_step cX6_step 6 (some .int), Cond.fieldLink RX6 89 "ZMemory$Runner" "store" "I", Cond.methodLink RX6 92 yX2_top, Cond.instanceMethod yX2_top, Cond.selects RX2 yX2_top yX2_top, Cond.code yX2_top cX2_top 1 (some (.object "ZMemory$Frame")), Cond.methodLink RX6 101 yX5_opAt, Cond.instanceMethod yX5_opAt, Cond.selects RX5 yX5_opAt yX5_opAt, Cond.code yX5_opAt cX5_opAt 2 (some .int), Cond.methodLink RX6 113 yX6_ask, Cond.instanceMethod yX6_ask, Cond.selects RX6 yX6_ask yX6_ask, Cond.code yX6_ask cX6_ask 2 (some .int), Cond.methodLink RX6 171 yX2_pop, Cond.instanceMethod yX2_pop, Cond.selects RX2 yX2_pop yX2_pop, Cond.code yX2_pop cX2_pop 1 (some .int), Cond.methodLink RX2 50 yX2_top, Cond.methodLink RX6 207 yX1_local, Cond.instanceMethod yX1_local]
def wsL_law0_r21 : List Cond := [Cond.selects RX1 yX1_local yX1_local, Cond.code yX1_local cX1_local 2 (some .int), Cond.methodLink RX6 210 yX6_placeOfGlobal, Cond.instanceMethod yX6_placeOfGlobal, Cond.selects RX6 yX6_placeOfGlobal yX6_placeOfGlobal, Cond.code yX6_placeOfGlobal cX6_placeOfGlobal 2 (some .int), Cond.fieldLink RX6 216 "ZMemory$Runner" "globe" "I", Cond.methodLink RX6 150 yX3_wordAt, Cond.methodLink RX6 119 yX6_carryOut, Cond.instanceMethod yX6_carryOut, Cond.selects RX6 yX6_carryOut yX6_carryOut, Cond.code yX6_carryOut cX6_carryOut 6 (some .int), Cond.methodLink RX6 140 yX6_tell, Cond.instanceMethod yX6_tell, Cond.selects RX6 yX6_tell yX6_tell, Cond.code yX6_tell cX6_tell 3 (some .int), Cond.methodLink RX6 143 yX6_goOnIf, Cond.instanceMethod yX6_goOnIf, Cond.selects RX6 yX6_goOnIf yX6_goOnIf, Cond.code yX6_goOnIf cX6_goOnIf 3 (some .int), Cond.methodLink RX6 147 yX6_change, Cond.instanceMethod yX6_change, Cond.selects RX6 yX6_change yX6_change, Cond.code yX6_change cX6_change 4 (some .int)]
def wsL_law0_r22 : List Cond := [Cond.methodLink RX6 155 yX3_byteAt, Cond.methodLink RX6 158 yX3_setWord, Cond.methodLink RX6 162 yX3_setByte, Cond.methodLink RX6 165 yX6_giveBack, Cond.instanceMethod yX6_giveBack, Cond.selects RX6 yX6_giveBack yX6_giveBack, Cond.code yX6_giveBack cX6_giveBack 3 (some .int), Cond.methodLink RX6 85 yX6_leaveDownTo, Cond.instanceMethod yX6_leaveDownTo, Cond.selects RX6 yX6_leaveDownTo yX6_leaveDownTo, Cond.code yX6_leaveDownTo cX6_leaveDownTo 3 none, Cond.methodLink RX6 238 yX2_leave, Cond.instanceMethod yX2_leave, Cond.selects RX2 yX2_leave yX2_leave, Cond.code yX2_leave cX2_leave 1 none, Cond.methodLink RX6 201 yX6_end, Cond.instanceMethod yX6_end, Cond.selects RX6 yX6_end yX6_end, Cond.code yX6_end cX6_end 2 (some .int), Cond.methodLink RX6 168 yX2_push, Cond.instanceMethod yX2_push, Cond.selects RX2 yX2_push yX2_push, Cond.code yX2_push cX2_push 2 (some .int), Cond.methodLink RX6 178 yX6_throwTo]
def wsL_law0_r23 : List Cond := [Cond.instanceMethod yX6_throwTo, Cond.selects RX6 yX6_throwTo yX6_throwTo, Cond.code yX6_throwTo cX6_throwTo 3 (some .int), Cond.methodLink RX6 181 yX3_copyTable, Cond.methodLink RX6 184 yX3_find, Cond.methodLink RX6 187 yX0_draw, Cond.methodLink RX6 192 yX4_printNumber, Cond.instanceMethod yX4_printNumber, Cond.selects RX4 yX4_printNumber yX4_printNumber, Cond.code yX4_printNumber cX4_printNumber 5 (some .int), Cond.methodLink RX4 23 Lib.Math.abs.name, Cond.methodLink RX4 19 yX4_print, Cond.instanceMethod yX4_print, Cond.selects RX4 yX4_print yX4_print, Cond.code yX4_print cX4_print 2 (some .int), Cond.fieldLink RX4 15 "ZMemory$Page" "length" "I", Cond.methodLink RX6 195 yX4_print, Cond.methodLink RX6 198 yX6_printRows, Cond.instanceMethod yX6_printRows, Cond.selects RX6 yX6_printRows yX6_printRows, Cond.code yX6_printRows cX6_printRows 9 (some .int), Cond.methodLink RX7 133 yX6_settle, Cond.instanceMethod yX6_settle, Cond.selects RX6 yX6_settle yX6_settle]
def wsL_law0_r24 : List Cond := [Cond.code yX6_settle cX6_settle 4 none, Cond.methodLink RX6 123 yX6_keep, Cond.instanceMethod yX6_keep, Cond.selects RX6 yX6_keep yX6_keep, Cond.code yX6_keep cX6_keep 2 (some .int), Cond.methodLink RX6 129 yX6_set, Cond.instanceMethod yX6_set, Cond.selects RX6 yX6_set yX6_set, Cond.code yX6_set cX6_set 3 (some .int), Cond.methodLink RX6 126 yX6_raise, Cond.instanceMethod yX6_raise, Cond.selects RX6 yX6_raise yX6_raise, Cond.code yX6_raise cX6_raise 3 (some .int), Cond.methodLink RX7 137 yX6_finish, Cond.instanceMethod yX6_finish, Cond.selects RX6 yX6_finish yX6_finish, Cond.code yX6_finish cX6_finish 1 (some .int), Cond.methodLink RL 91 yX8_run, Cond.instanceMethod yX8_run, Cond.selects RX8 yX8_run yX8_run, Cond.code yX8_run cX8_run 5 (some .int), Cond.fieldLink RX8 142 "ZMemoryModel" "frames" "I", Cond.fieldLink RX8 145 "ZMemoryModel" "high" "I", Cond.fieldLink RX8 170 "ZMemoryModel" "printed" "I"]
def wsL_law0_r25 : List Cond := [Cond.fieldLink RX8 226 "ZMemoryModel" "steps" "I", Cond.fieldLink RX8 182 "ZMemoryModel" "returned" "I", Cond.fieldLink RX8 220 "ZMemoryModel" "unguarded" "I", Cond.fieldLink RX8 223 "ZMemoryModel" "guarded" "I", Cond.fieldLink RX8 210 "ZMemoryModel" "throwsCame" "I", Cond.fieldLink RX8 176 "ZMemoryModel" "deepest" "I", Cond.fieldLink RX8 207 "ZMemoryModel" "counted" "I", Cond.fieldLink RX8 185 "ZMemoryModel" "end" "I", Cond.methodLink RX8 191 yX8_enter, Cond.instanceMethod yX8_enter, Cond.selects RX8 yX8_enter yX8_enter, Cond.code yX8_enter cX8_enter 6 none, Cond.methodLink RX8 229 yX8_step, Cond.instanceMethod yX8_step, Cond.selects RX8 yX8_step yX8_step, Cond.code yX8_step cX8_step 9 none, Cond.methodLink RX8 148 yX8_top, Cond.instanceMethod yX8_top, Cond.selects RX8 yX8_top yX8_top, Cond.code yX8_top cX8_top 1 (some .int), Cond.methodLink RX8 213 yX8_wants, Cond.static yX8_wants, Cond.code yX8_wants cX8_wants 1 (some .int), Cond.methodLink RX8 163 yX8_ask]
def wsL_law0_r26 : List Cond := [Cond.instanceMethod yX8_ask, Cond.selects RX8 yX8_ask yX8_ask, Cond.code yX8_ask cX8_ask 2 (some .int), Cond.methodLink RX8 152 yX8_pop, Cond.instanceMethod yX8_pop, Cond.selects RX8 yX8_pop yX8_pop, Cond.code yX8_pop cX8_pop 1 (some .int), Cond.methodLink RX8 155 yX8_isLocal, Cond.instanceMethod yX8_isLocal, Cond.selects RX8 yX8_isLocal yX8_isLocal, Cond.code yX8_isLocal cX8_isLocal 2 (some .boolean), Cond.methodLink RX8 216 yX8_act, Cond.instanceMethod yX8_act, Cond.selects RX8 yX8_act yX8_act, Cond.code yX8_act cX8_act 9 none, Cond.methodLink RX8 188 yX8_more, Cond.instanceMethod yX8_more, Cond.selects RX8 yX8_more yX8_more, Cond.code yX8_more cX8_more 4 none, Cond.methodLink RX8 166 yX8_set, Cond.instanceMethod yX8_set, Cond.selects RX8 yX8_set yX8_set, Cond.code yX8_set cX8_set 3 none, Cond.methodLink RX8 159 yX8_push]
def wsL_law0_r27 : List Cond := [Cond.instanceMethod yX8_push, Cond.selects RX8 yX8_push yX8_push, Cond.code yX8_push cX8_push 2 none, Cond.methodLink RX8 195 yX8_back, Cond.instanceMethod yX8_back, Cond.selects RX8 yX8_back yX8_back, Cond.code yX8_back cX8_back 3 none, Cond.methodLink RX8 179 yX8_leave, Cond.instanceMethod yX8_leave, Cond.selects RX8 yX8_leave yX8_leave, Cond.code yX8_leave cX8_leave 1 none, Cond.methodLink RX8 198 yX8_throwTo, Cond.instanceMethod yX8_throwTo, Cond.selects RX8 yX8_throwTo yX8_throwTo, Cond.code yX8_throwTo cX8_throwTo 3 none, Cond.methodLink RX8 201 yX8_printNumber, Cond.instanceMethod yX8_printNumber, Cond.selects RX8 yX8_printNumber yX8_printNumber, Cond.code yX8_printNumber cX8_printNumber 4 none, Cond.methodLink RX8 173 yX8_print, Cond.instanceMethod yX8_print, Cond.selects RX8 yX8_print yX8_print, Cond.code yX8_print cX8_print 2 none, Cond.methodLink RX8 204 yX8_printRows]
def wsL_law0_r28 : List Cond := [Cond.instanceMethod yX8_printRows, Cond.selects RX8 yX8_printRows yX8_printRows, Cond.code yX8_printRows cX8_printRows 7 none, Cond.methodLink RX8 232 yX8_up, Cond.instanceMethod yX8_up, Cond.selects RX8 yX8_up yX8_up, Cond.code yX8_up cX8_up 2 none, Cond.methodLink RL 92 yX7_told, Cond.instanceMethod yX7_told, Cond.selects RX7 yX7_told yX7_told, Cond.code yX7_told cX7_told 2 (some .int), Cond.methodLink RL 95 yX8_told, Cond.instanceMethod yX8_told, Cond.selects RX8 yX8_told yX8_told, Cond.code yX8_told cX8_told 2 (some .int), Cond.methodLink RL 96 yL_printed, Cond.static yL_printed, Cond.codeWith yL_printed cL_printed 4 (some .int) [(0, 9, 12, 21)], Cond.classLink RL 21 "java/lang/IndexOutOfBoundsException", Cond.methodLink RL 17 yX7_printed, Cond.instanceMethod yX7_printed, Cond.selects RX7 yX7_printed yX7_printed, Cond.code yX7_printed cX7_printed 3 (some .int), Cond.classLink RX7 180 "java/lang/IndexOutOfBoundsException"]
def wsL_law0_r29 : List Cond := [Cond.initialized "java/lang/IndexOutOfBoundsException", Cond.methodLink RX7 177 yX4_characterAt, Cond.instanceMethod yX4_characterAt, Cond.selects RX4 yX4_characterAt yX4_characterAt, Cond.code yX4_characterAt cX4_characterAt 2 (some .int), Cond.methodLink RL 99 yX8_printed, Cond.instanceMethod yX8_printed, Cond.selects RX8 yX8_printed yX8_printed, Cond.code yX8_printed cX8_printed 2 (some .int), Cond.methodLink RL 100 yX7_left, Cond.instanceMethod yX7_left, Cond.selects RX7 yX7_left yX7_left, Cond.code yX7_left cX7_left 2 (some .int), Cond.methodLink RL 103 yX8_left, Cond.instanceMethod yX8_left, Cond.selects RX8 yX8_left yX8_left, Cond.code yX8_left cX8_left 2 (some .int)]
def wsL_law0 : List Cond := (wsL_law0_r1 ++ (wsL_law0_r2 ++ (wsL_law0_r3 ++ (wsL_law0_r4 ++ (wsL_law0_r5 ++ (wsL_law0_r6 ++ (wsL_law0_r7 ++ (wsL_law0_r8 ++ (wsL_law0_r9 ++ (wsL_law0_r10 ++ (wsL_law0_r11 ++ (wsL_law0_r12 ++ (wsL_law0_r13 ++ (wsL_law0_r14 ++ (wsL_law0_r15 ++ (wsL_law0_r16 ++ (wsL_law0_r17 ++ (wsL_law0_r18 ++ (wsL_law0_r19 ++ (wsL_law0_r20 ++ (wsL_law0_r21 ++ (wsL_law0_r22 ++ (wsL_law0_r23 ++ (wsL_law0_r24 ++ (wsL_law0_r25 ++ (wsL_law0_r26 ++ (wsL_law0_r27 ++ (wsL_law0_r28 ++ wsL_law0_r29)))))))))))))))))))))))))))) ++ wsX70 ++ wsX80 ++ wsX30 ++ wsX00 ++ wsX50 ++ wsX60 ++ wsX20 ++ wsX40 ++ wsX10 ++ ([] : List Cond)
def wsL_law : List Cond := wsL_law0 ++ (vx_atS RX7 61 "java/lang/IllegalArgumentException" ["java/lang/RuntimeException", "java/lang/Exception"]).filter goodWord ++ (vx_atS RX7 75 "java/lang/ArithmeticException" ["java/lang/RuntimeException", "java/lang/Exception"]).filter goodWord ++ (vx_atS RX7 184 "java/lang/IndexOutOfBoundsException" ["java/lang/RuntimeException", "java/lang/Exception"]).filter goodWord
abbrev vwCl : List vw_C := [(RX0, TX0, 7), (RX1, TX1, 6), (RX2, TX2, 5), (RX3, TX3, 3), (RX4, TX4, 2), (RX5, TX5, 8), (RX6, TX6, 17), (RX7, TX7, 4), (RX8, TX8, 41)]
end
section
abbrev lw_good : List Cond := wsL_law
theorem lg_r1 : ∀ w ∈ wsL_law0_r1, w ∈ lw_good := fun _ h => List.mem_append_left _ (List.mem_append_left _ (List.mem_append_left _ (List.mem_append_left _ (List.mem_append_left _ (List.mem_append_left _ (List.mem_append_left _ (List.mem_append_left _ (List.mem_append_left _ (List.mem_append_left _ (List.mem_append_left _ (List.mem_append_left _ (List.mem_append_left _ (List.mem_append_left _ (h))))))))))))))
theorem lg_r2 : ∀ w ∈ wsL_law0_r2, w ∈ lw_good := fun _ h => List.mem_append_left _ (List.mem_append_left _ (List.mem_append_left _ (List.mem_append_left _ (List.mem_append_left _ (List.mem_append_left _ (List.mem_append_left _ (List.mem_append_left _ (List.mem_append_left _ (List.mem_append_left _ (List.mem_append_left _ (List.mem_append_left _ (List.mem_append_left _ (List.mem_append_right _ (List.mem_append_left _ (h)))))))))))))))
theorem lg_r3 : ∀ w ∈ wsL_law0_r3, w ∈ lw_good := fun _ h => List.mem_append_left _ (List.mem_append_left _ (List.mem_append_left _ (List.mem_append_left _ (List.mem_append_left _ (List.mem_append_left _ (List.mem_append_left _ (List.mem_append_left _ (List.mem_append_left _ (List.mem_append_left _ (List.mem_append_left _ (List.mem_append_left _ (List.mem_append_left _ (List.mem_append_right _ (List.mem_append_right _ (List.mem_append_left _ (h))))))))))))))))
theorem lg_r4 : ∀ w ∈ wsL_law0_r4, w ∈ lw_good := fun _ h => List.mem_append_left _ (List.mem_append_left _ (List.mem_append_left _ (List.mem_append_left _ (List.mem_append_left _ (List.mem_append_left _ (List.mem_append_left _ (List.mem_append_left _ (List.mem_append_left _ (List.mem_append_left _ (List.mem_append_left _ (List.mem_append_left _ (List.mem_append_left _ (List.mem_append_right _ (List.mem_append_right _ (List.mem_append_right _ (List.mem_append_left _ (h)))))))))))))))))
theorem lg_r5 : ∀ w ∈ wsL_law0_r5, w ∈ lw_good := fun _ h => List.mem_append_left _ (List.mem_append_left _ (List.mem_append_left _ (List.mem_append_left _ (List.mem_append_left _ (List.mem_append_left _ (List.mem_append_left _ (List.mem_append_left _ (List.mem_append_left _ (List.mem_append_left _ (List.mem_append_left _ (List.mem_append_left _ (List.mem_append_left _ (List.mem_append_right _ (List.mem_append_right _ (List.mem_append_right _ (List.mem_append_right _ (List.mem_append_left _ (h))))))))))))))))))
theorem lg_r6 : ∀ w ∈ wsL_law0_r6, w ∈ lw_good := fun _ h => List.mem_append_left _ (List.mem_append_left _ (List.mem_append_left _ (List.mem_append_left _ (List.mem_append_left _ (List.mem_append_left _ (List.mem_append_left _ (List.mem_append_left _ (List.mem_append_left _ (List.mem_append_left _ (List.mem_append_left _ (List.mem_append_left _ (List.mem_append_left _ (List.mem_append_right _ (List.mem_append_right _ (List.mem_append_right _ (List.mem_append_right _ (List.mem_append_right _ (List.mem_append_left _ (h)))))))))))))))))))
theorem lg_r7 : ∀ w ∈ wsL_law0_r7, w ∈ lw_good := fun _ h => List.mem_append_left _ (List.mem_append_left _ (List.mem_append_left _ (List.mem_append_left _ (List.mem_append_left _ (List.mem_append_left _ (List.mem_append_left _ (List.mem_append_left _ (List.mem_append_left _ (List.mem_append_left _ (List.mem_append_left _ (List.mem_append_left _ (List.mem_append_left _ (List.mem_append_right _ (List.mem_append_right _ (List.mem_append_right _ (List.mem_append_right _ (List.mem_append_right _ (List.mem_append_right _ (List.mem_append_left _ (h))))))))))))))))))))
theorem lg_r8 : ∀ w ∈ wsL_law0_r8, w ∈ lw_good := fun _ h => List.mem_append_left _ (List.mem_append_left _ (List.mem_append_left _ (List.mem_append_left _ (List.mem_append_left _ (List.mem_append_left _ (List.mem_append_left _ (List.mem_append_left _ (List.mem_append_left _ (List.mem_append_left _ (List.mem_append_left _ (List.mem_append_left _ (List.mem_append_left _ (List.mem_append_right _ (List.mem_append_right _ (List.mem_append_right _ (List.mem_append_right _ (List.mem_append_right _ (List.mem_append_right _ (List.mem_append_right _ (List.mem_append_left _ (h)))))))))))))))))))))
theorem lg_r9 : ∀ w ∈ wsL_law0_r9, w ∈ lw_good := fun _ h => List.mem_append_left _ (List.mem_append_left _ (List.mem_append_left _ (List.mem_append_left _ (List.mem_append_left _ (List.mem_append_left _ (List.mem_append_left _ (List.mem_append_left _ (List.mem_append_left _ (List.mem_append_left _ (List.mem_append_left _ (List.mem_append_left _ (List.mem_append_left _ (List.mem_append_right _ (List.mem_append_right _ (List.mem_append_right _ (List.mem_append_right _ (List.mem_append_right _ (List.mem_append_right _ (List.mem_append_right _ (List.mem_append_right _ (List.mem_append_left _ (h))))))))))))))))))))))
theorem lg_r10 : ∀ w ∈ wsL_law0_r10, w ∈ lw_good := fun _ h => List.mem_append_left _ (List.mem_append_left _ (List.mem_append_left _ (List.mem_append_left _ (List.mem_append_left _ (List.mem_append_left _ (List.mem_append_left _ (List.mem_append_left _ (List.mem_append_left _ (List.mem_append_left _ (List.mem_append_left _ (List.mem_append_left _ (List.mem_append_left _ (List.mem_append_right _ (List.mem_append_right _ (List.mem_append_right _ (List.mem_append_right _ (List.mem_append_right _ (List.mem_append_right _ (List.mem_append_right _ (List.mem_append_right _ (List.mem_append_right _ (List.mem_append_left _ (h)))))))))))))))))))))))
theorem lg_r11 : ∀ w ∈ wsL_law0_r11, w ∈ lw_good := fun _ h => List.mem_append_left _ (List.mem_append_left _ (List.mem_append_left _ (List.mem_append_left _ (List.mem_append_left _ (List.mem_append_left _ (List.mem_append_left _ (List.mem_append_left _ (List.mem_append_left _ (List.mem_append_left _ (List.mem_append_left _ (List.mem_append_left _ (List.mem_append_left _ (List.mem_append_right _ (List.mem_append_right _ (List.mem_append_right _ (List.mem_append_right _ (List.mem_append_right _ (List.mem_append_right _ (List.mem_append_right _ (List.mem_append_right _ (List.mem_append_right _ (List.mem_append_right _ (List.mem_append_left _ (h))))))))))))))))))))))))
theorem lg_r12 : ∀ w ∈ wsL_law0_r12, w ∈ lw_good := fun _ h => List.mem_append_left _ (List.mem_append_left _ (List.mem_append_left _ (List.mem_append_left _ (List.mem_append_left _ (List.mem_append_left _ (List.mem_append_left _ (List.mem_append_left _ (List.mem_append_left _ (List.mem_append_left _ (List.mem_append_left _ (List.mem_append_left _ (List.mem_append_left _ (List.mem_append_right _ (List.mem_append_right _ (List.mem_append_right _ (List.mem_append_right _ (List.mem_append_right _ (List.mem_append_right _ (List.mem_append_right _ (List.mem_append_right _ (List.mem_append_right _ (List.mem_append_right _ (List.mem_append_right _ (List.mem_append_left _ (h)))))))))))))))))))))))))
theorem lg_r13 : ∀ w ∈ wsL_law0_r13, w ∈ lw_good := fun _ h => List.mem_append_left _ (List.mem_append_left _ (List.mem_append_left _ (List.mem_append_left _ (List.mem_append_left _ (List.mem_append_left _ (List.mem_append_left _ (List.mem_append_left _ (List.mem_append_left _ (List.mem_append_left _ (List.mem_append_left _ (List.mem_append_left _ (List.mem_append_left _ (List.mem_append_right _ (List.mem_append_right _ (List.mem_append_right _ (List.mem_append_right _ (List.mem_append_right _ (List.mem_append_right _ (List.mem_append_right _ (List.mem_append_right _ (List.mem_append_right _ (List.mem_append_right _ (List.mem_append_right _ (List.mem_append_right _ (List.mem_append_left _ (h))))))))))))))))))))))))))
theorem lg_r14 : ∀ w ∈ wsL_law0_r14, w ∈ lw_good := fun _ h => List.mem_append_left _ (List.mem_append_left _ (List.mem_append_left _ (List.mem_append_left _ (List.mem_append_left _ (List.mem_append_left _ (List.mem_append_left _ (List.mem_append_left _ (List.mem_append_left _ (List.mem_append_left _ (List.mem_append_left _ (List.mem_append_left _ (List.mem_append_left _ (List.mem_append_right _ (List.mem_append_right _ (List.mem_append_right _ (List.mem_append_right _ (List.mem_append_right _ (List.mem_append_right _ (List.mem_append_right _ (List.mem_append_right _ (List.mem_append_right _ (List.mem_append_right _ (List.mem_append_right _ (List.mem_append_right _ (List.mem_append_right _ (List.mem_append_left _ (h)))))))))))))))))))))))))))
theorem lg_r15 : ∀ w ∈ wsL_law0_r15, w ∈ lw_good := fun _ h => List.mem_append_left _ (List.mem_append_left _ (List.mem_append_left _ (List.mem_append_left _ (List.mem_append_left _ (List.mem_append_left _ (List.mem_append_left _ (List.mem_append_left _ (List.mem_append_left _ (List.mem_append_left _ (List.mem_append_left _ (List.mem_append_left _ (List.mem_append_left _ (List.mem_append_right _ (List.mem_append_right _ (List.mem_append_right _ (List.mem_append_right _ (List.mem_append_right _ (List.mem_append_right _ (List.mem_append_right _ (List.mem_append_right _ (List.mem_append_right _ (List.mem_append_right _ (List.mem_append_right _ (List.mem_append_right _ (List.mem_append_right _ (List.mem_append_right _ (List.mem_append_left _ (h))))))))))))))))))))))))))))
theorem lg_r16 : ∀ w ∈ wsL_law0_r16, w ∈ lw_good := fun _ h => List.mem_append_left _ (List.mem_append_left _ (List.mem_append_left _ (List.mem_append_left _ (List.mem_append_left _ (List.mem_append_left _ (List.mem_append_left _ (List.mem_append_left _ (List.mem_append_left _ (List.mem_append_left _ (List.mem_append_left _ (List.mem_append_left _ (List.mem_append_left _ (List.mem_append_right _ (List.mem_append_right _ (List.mem_append_right _ (List.mem_append_right _ (List.mem_append_right _ (List.mem_append_right _ (List.mem_append_right _ (List.mem_append_right _ (List.mem_append_right _ (List.mem_append_right _ (List.mem_append_right _ (List.mem_append_right _ (List.mem_append_right _ (List.mem_append_right _ (List.mem_append_right _ (List.mem_append_left _ (h)))))))))))))))))))))))))))))
theorem lg_r17 : ∀ w ∈ wsL_law0_r17, w ∈ lw_good := fun _ h => List.mem_append_left _ (List.mem_append_left _ (List.mem_append_left _ (List.mem_append_left _ (List.mem_append_left _ (List.mem_append_left _ (List.mem_append_left _ (List.mem_append_left _ (List.mem_append_left _ (List.mem_append_left _ (List.mem_append_left _ (List.mem_append_left _ (List.mem_append_left _ (List.mem_append_right _ (List.mem_append_right _ (List.mem_append_right _ (List.mem_append_right _ (List.mem_append_right _ (List.mem_append_right _ (List.mem_append_right _ (List.mem_append_right _ (List.mem_append_right _ (List.mem_append_right _ (List.mem_append_right _ (List.mem_append_right _ (List.mem_append_right _ (List.mem_append_right _ (List.mem_append_right _ (List.mem_append_right _ (List.mem_append_left _ (h))))))))))))))))))))))))))))))
theorem lg_r18 : ∀ w ∈ wsL_law0_r18, w ∈ lw_good := fun _ h => List.mem_append_left _ (List.mem_append_left _ (List.mem_append_left _ (List.mem_append_left _ (List.mem_append_left _ (List.mem_append_left _ (List.mem_append_left _ (List.mem_append_left _ (List.mem_append_left _ (List.mem_append_left _ (List.mem_append_left _ (List.mem_append_left _ (List.mem_append_left _ (List.mem_append_right _ (List.mem_append_right _ (List.mem_append_right _ (List.mem_append_right _ (List.mem_append_right _ (List.mem_append_right _ (List.mem_append_right _ (List.mem_append_right _ (List.mem_append_right _ (List.mem_append_right _ (List.mem_append_right _ (List.mem_append_right _ (List.mem_append_right _ (List.mem_append_right _ (List.mem_append_right _ (List.mem_append_right _ (List.mem_append_right _ (List.mem_append_left _ (h)))))))))))))))))))))))))))))))
theorem lg_r19 : ∀ w ∈ wsL_law0_r19, w ∈ lw_good := fun _ h => List.mem_append_left _ (List.mem_append_left _ (List.mem_append_left _ (List.mem_append_left _ (List.mem_append_left _ (List.mem_append_left _ (List.mem_append_left _ (List.mem_append_left _ (List.mem_append_left _ (List.mem_append_left _ (List.mem_append_left _ (List.mem_append_left _ (List.mem_append_left _ (List.mem_append_right _ (List.mem_append_right _ (List.mem_append_right _ (List.mem_append_right _ (List.mem_append_right _ (List.mem_append_right _ (List.mem_append_right _ (List.mem_append_right _ (List.mem_append_right _ (List.mem_append_right _ (List.mem_append_right _ (List.mem_append_right _ (List.mem_append_right _ (List.mem_append_right _ (List.mem_append_right _ (List.mem_append_right _ (List.mem_append_right _ (List.mem_append_right _ (List.mem_append_left _ (h))))))))))))))))))))))))))))))))
theorem lg_r20 : ∀ w ∈ wsL_law0_r20, w ∈ lw_good := fun _ h => List.mem_append_left _ (List.mem_append_left _ (List.mem_append_left _ (List.mem_append_left _ (List.mem_append_left _ (List.mem_append_left _ (List.mem_append_left _ (List.mem_append_left _ (List.mem_append_left _ (List.mem_append_left _ (List.mem_append_left _ (List.mem_append_left _ (List.mem_append_left _ (List.mem_append_right _ (List.mem_append_right _ (List.mem_append_right _ (List.mem_append_right _ (List.mem_append_right _ (List.mem_append_right _ (List.mem_append_right _ (List.mem_append_right _ (List.mem_append_right _ (List.mem_append_right _ (List.mem_append_right _ (List.mem_append_right _ (List.mem_append_right _ (List.mem_append_right _ (List.mem_append_right _ (List.mem_append_right _ (List.mem_append_right _ (List.mem_append_right _ (List.mem_append_right _ (List.mem_append_left _ (h)))))))))))))))))))))))))))))))))
theorem lg_r21 : ∀ w ∈ wsL_law0_r21, w ∈ lw_good := fun _ h => List.mem_append_left _ (List.mem_append_left _ (List.mem_append_left _ (List.mem_append_left _ (List.mem_append_left _ (List.mem_append_left _ (List.mem_append_left _ (List.mem_append_left _ (List.mem_append_left _ (List.mem_append_left _ (List.mem_append_left _ (List.mem_append_left _ (List.mem_append_left _ (List.mem_append_right _ (List.mem_append_right _ (List.mem_append_right _ (List.mem_append_right _ (List.mem_append_right _ (List.mem_append_right _ (List.mem_append_right _ (List.mem_append_right _ (List.mem_append_right _ (List.mem_append_right _ (List.mem_append_right _ (List.mem_append_right _ (List.mem_append_right _ (List.mem_append_right _ (List.mem_append_right _ (List.mem_append_right _ (List.mem_append_right _ (List.mem_append_right _ (List.mem_append_right _ (List.mem_append_right _ (List.mem_append_left _ (h))))))))))))))))))))))))))))))))))
theorem lg_r22 : ∀ w ∈ wsL_law0_r22, w ∈ lw_good := fun _ h => List.mem_append_left _ (List.mem_append_left _ (List.mem_append_left _ (List.mem_append_left _ (List.mem_append_left _ (List.mem_append_left _ (List.mem_append_left _ (List.mem_append_left _ (List.mem_append_left _ (List.mem_append_left _ (List.mem_append_left _ (List.mem_append_left _ (List.mem_append_left _ (List.mem_append_right _ (List.mem_append_right _ (List.mem_append_right _ (List.mem_append_right _ (List.mem_append_right _ (List.mem_append_right _ (List.mem_append_right _ (List.mem_append_right _ (List.mem_append_right _ (List.mem_append_right _ (List.mem_append_right _ (List.mem_append_right _ (List.mem_append_right _ (List.mem_append_right _ (List.mem_append_right _ (List.mem_append_right _ (List.mem_append_right _ (List.mem_append_right _ (List.mem_append_right _ (List.mem_append_right _ (List.mem_append_right _ (List.mem_append_left _ (h)))))))))))))))))))))))))))))))))))
theorem lg_r23 : ∀ w ∈ wsL_law0_r23, w ∈ lw_good := fun _ h => List.mem_append_left _ (List.mem_append_left _ (List.mem_append_left _ (List.mem_append_left _ (List.mem_append_left _ (List.mem_append_left _ (List.mem_append_left _ (List.mem_append_left _ (List.mem_append_left _ (List.mem_append_left _ (List.mem_append_left _ (List.mem_append_left _ (List.mem_append_left _ (List.mem_append_right _ (List.mem_append_right _ (List.mem_append_right _ (List.mem_append_right _ (List.mem_append_right _ (List.mem_append_right _ (List.mem_append_right _ (List.mem_append_right _ (List.mem_append_right _ (List.mem_append_right _ (List.mem_append_right _ (List.mem_append_right _ (List.mem_append_right _ (List.mem_append_right _ (List.mem_append_right _ (List.mem_append_right _ (List.mem_append_right _ (List.mem_append_right _ (List.mem_append_right _ (List.mem_append_right _ (List.mem_append_right _ (List.mem_append_right _ (List.mem_append_left _ (h))))))))))))))))))))))))))))))))))))
theorem lg_r24 : ∀ w ∈ wsL_law0_r24, w ∈ lw_good := fun _ h => List.mem_append_left _ (List.mem_append_left _ (List.mem_append_left _ (List.mem_append_left _ (List.mem_append_left _ (List.mem_append_left _ (List.mem_append_left _ (List.mem_append_left _ (List.mem_append_left _ (List.mem_append_left _ (List.mem_append_left _ (List.mem_append_left _ (List.mem_append_left _ (List.mem_append_right _ (List.mem_append_right _ (List.mem_append_right _ (List.mem_append_right _ (List.mem_append_right _ (List.mem_append_right _ (List.mem_append_right _ (List.mem_append_right _ (List.mem_append_right _ (List.mem_append_right _ (List.mem_append_right _ (List.mem_append_right _ (List.mem_append_right _ (List.mem_append_right _ (List.mem_append_right _ (List.mem_append_right _ (List.mem_append_right _ (List.mem_append_right _ (List.mem_append_right _ (List.mem_append_right _ (List.mem_append_right _ (List.mem_append_right _ (List.mem_append_right _ (List.mem_append_left _ (h)))))))))))))))))))))))))))))))))))))
theorem lg_r25 : ∀ w ∈ wsL_law0_r25, w ∈ lw_good := fun _ h => List.mem_append_left _ (List.mem_append_left _ (List.mem_append_left _ (List.mem_append_left _ (List.mem_append_left _ (List.mem_append_left _ (List.mem_append_left _ (List.mem_append_left _ (List.mem_append_left _ (List.mem_append_left _ (List.mem_append_left _ (List.mem_append_left _ (List.mem_append_left _ (List.mem_append_right _ (List.mem_append_right _ (List.mem_append_right _ (List.mem_append_right _ (List.mem_append_right _ (List.mem_append_right _ (List.mem_append_right _ (List.mem_append_right _ (List.mem_append_right _ (List.mem_append_right _ (List.mem_append_right _ (List.mem_append_right _ (List.mem_append_right _ (List.mem_append_right _ (List.mem_append_right _ (List.mem_append_right _ (List.mem_append_right _ (List.mem_append_right _ (List.mem_append_right _ (List.mem_append_right _ (List.mem_append_right _ (List.mem_append_right _ (List.mem_append_right _ (List.mem_append_right _ (List.mem_append_left _ (h))))))))))))))))))))))))))))))))))))))
theorem lg_r26 : ∀ w ∈ wsL_law0_r26, w ∈ lw_good := fun _ h => List.mem_append_left _ (List.mem_append_left _ (List.mem_append_left _ (List.mem_append_left _ (List.mem_append_left _ (List.mem_append_left _ (List.mem_append_left _ (List.mem_append_left _ (List.mem_append_left _ (List.mem_append_left _ (List.mem_append_left _ (List.mem_append_left _ (List.mem_append_left _ (List.mem_append_right _ (List.mem_append_right _ (List.mem_append_right _ (List.mem_append_right _ (List.mem_append_right _ (List.mem_append_right _ (List.mem_append_right _ (List.mem_append_right _ (List.mem_append_right _ (List.mem_append_right _ (List.mem_append_right _ (List.mem_append_right _ (List.mem_append_right _ (List.mem_append_right _ (List.mem_append_right _ (List.mem_append_right _ (List.mem_append_right _ (List.mem_append_right _ (List.mem_append_right _ (List.mem_append_right _ (List.mem_append_right _ (List.mem_append_right _ (List.mem_append_right _ (List.mem_append_right _ (List.mem_append_right _ (List.mem_append_left _ (h)))))))))))))))))))))))))))))))))))))))
theorem lg_r27 : ∀ w ∈ wsL_law0_r27, w ∈ lw_good := fun _ h => List.mem_append_left _ (List.mem_append_left _ (List.mem_append_left _ (List.mem_append_left _ (List.mem_append_left _ (List.mem_append_left _ (List.mem_append_left _ (List.mem_append_left _ (List.mem_append_left _ (List.mem_append_left _ (List.mem_append_left _ (List.mem_append_left _ (List.mem_append_left _ (List.mem_append_right _ (List.mem_append_right _ (List.mem_append_right _ (List.mem_append_right _ (List.mem_append_right _ (List.mem_append_right _ (List.mem_append_right _ (List.mem_append_right _ (List.mem_append_right _ (List.mem_append_right _ (List.mem_append_right _ (List.mem_append_right _ (List.mem_append_right _ (List.mem_append_right _ (List.mem_append_right _ (List.mem_append_right _ (List.mem_append_right _ (List.mem_append_right _ (List.mem_append_right _ (List.mem_append_right _ (List.mem_append_right _ (List.mem_append_right _ (List.mem_append_right _ (List.mem_append_right _ (List.mem_append_right _ (List.mem_append_right _ (List.mem_append_left _ (h))))))))))))))))))))))))))))))))))))))))
theorem lg_r28 : ∀ w ∈ wsL_law0_r28, w ∈ lw_good := fun _ h => List.mem_append_left _ (List.mem_append_left _ (List.mem_append_left _ (List.mem_append_left _ (List.mem_append_left _ (List.mem_append_left _ (List.mem_append_left _ (List.mem_append_left _ (List.mem_append_left _ (List.mem_append_left _ (List.mem_append_left _ (List.mem_append_left _ (List.mem_append_left _ (List.mem_append_right _ (List.mem_append_right _ (List.mem_append_right _ (List.mem_append_right _ (List.mem_append_right _ (List.mem_append_right _ (List.mem_append_right _ (List.mem_append_right _ (List.mem_append_right _ (List.mem_append_right _ (List.mem_append_right _ (List.mem_append_right _ (List.mem_append_right _ (List.mem_append_right _ (List.mem_append_right _ (List.mem_append_right _ (List.mem_append_right _ (List.mem_append_right _ (List.mem_append_right _ (List.mem_append_right _ (List.mem_append_right _ (List.mem_append_right _ (List.mem_append_right _ (List.mem_append_right _ (List.mem_append_right _ (List.mem_append_right _ (List.mem_append_right _ (List.mem_append_left _ (h)))))))))))))))))))))))))))))))))))))))))
theorem lg_r29 : ∀ w ∈ wsL_law0_r29, w ∈ lw_good := fun _ h => List.mem_append_left _ (List.mem_append_left _ (List.mem_append_left _ (List.mem_append_left _ (List.mem_append_left _ (List.mem_append_left _ (List.mem_append_left _ (List.mem_append_left _ (List.mem_append_left _ (List.mem_append_left _ (List.mem_append_left _ (List.mem_append_left _ (List.mem_append_left _ (List.mem_append_right _ (List.mem_append_right _ (List.mem_append_right _ (List.mem_append_right _ (List.mem_append_right _ (List.mem_append_right _ (List.mem_append_right _ (List.mem_append_right _ (List.mem_append_right _ (List.mem_append_right _ (List.mem_append_right _ (List.mem_append_right _ (List.mem_append_right _ (List.mem_append_right _ (List.mem_append_right _ (List.mem_append_right _ (List.mem_append_right _ (List.mem_append_right _ (List.mem_append_right _ (List.mem_append_right _ (List.mem_append_right _ (List.mem_append_right _ (List.mem_append_right _ (List.mem_append_right _ (List.mem_append_right _ (List.mem_append_right _ (List.mem_append_right _ (List.mem_append_right _ (h)))))))))))))))))))))))))))))))))))))))))
theorem lg_wsX70 : ∀ w ∈ wsX70, w ∈ lw_good := fun _ h => List.mem_append_left _ (List.mem_append_left _ (List.mem_append_left _ (List.mem_append_left _ (List.mem_append_left _ (List.mem_append_left _ (List.mem_append_left _ (List.mem_append_left _ (List.mem_append_left _ (List.mem_append_left _ (List.mem_append_left _ (List.mem_append_left _ (List.mem_append_right _ (h)))))))))))))
theorem lg_wsX80 : ∀ w ∈ wsX80, w ∈ lw_good := fun _ h => List.mem_append_left _ (List.mem_append_left _ (List.mem_append_left _ (List.mem_append_left _ (List.mem_append_left _ (List.mem_append_left _ (List.mem_append_left _ (List.mem_append_left _ (List.mem_append_left _ (List.mem_append_left _ (List.mem_append_left _ (List.mem_append_right _ (h))))))))))))
theorem lg_wsX30 : ∀ w ∈ wsX30, w ∈ lw_good := fun _ h => List.mem_append_left _ (List.mem_append_left _ (List.mem_append_left _ (List.mem_append_left _ (List.mem_append_left _ (List.mem_append_left _ (List.mem_append_left _ (List.mem_append_left _ (List.mem_append_left _ (List.mem_append_left _ (List.mem_append_right _ (h)))))))))))
theorem lg_wsX00 : ∀ w ∈ wsX00, w ∈ lw_good := fun _ h => List.mem_append_left _ (List.mem_append_left _ (List.mem_append_left _ (List.mem_append_left _ (List.mem_append_left _ (List.mem_append_left _ (List.mem_append_left _ (List.mem_append_left _ (List.mem_append_left _ (List.mem_append_right _ (h))))))))))
theorem lg_wsX50 : ∀ w ∈ wsX50, w ∈ lw_good := fun _ h => List.mem_append_left _ (List.mem_append_left _ (List.mem_append_left _ (List.mem_append_left _ (List.mem_append_left _ (List.mem_append_left _ (List.mem_append_left _ (List.mem_append_left _ (List.mem_append_right _ (h)))))))))
theorem lg_wsX60 : ∀ w ∈ wsX60, w ∈ lw_good := fun _ h => List.mem_append_left _ (List.mem_append_left _ (List.mem_append_left _ (List.mem_append_left _ (List.mem_append_left _ (List.mem_append_left _ (List.mem_append_left _ (List.mem_append_right _ (h))))))))
theorem lg_wsX20 : ∀ w ∈ wsX20, w ∈ lw_good := fun _ h => List.mem_append_left _ (List.mem_append_left _ (List.mem_append_left _ (List.mem_append_left _ (List.mem_append_left _ (List.mem_append_left _ (List.mem_append_right _ (h)))))))
theorem lg_wsX40 : ∀ w ∈ wsX40, w ∈ lw_good := fun _ h => List.mem_append_left _ (List.mem_append_left _ (List.mem_append_left _ (List.mem_append_left _ (List.mem_append_left _ (List.mem_append_right _ (h))))))
theorem lg_wsX10 : ∀ w ∈ wsX10, w ∈ lw_good := fun _ h => List.mem_append_left _ (List.mem_append_left _ (List.mem_append_left _ (List.mem_append_left _ (List.mem_append_right _ (h)))))
theorem ga_r1 : wsL_law0_r1.all goodWord = true := by decide +kernel
theorem ga_r2 : wsL_law0_r2.all goodWord = true := by decide +kernel
theorem ga_r3 : wsL_law0_r3.all goodWord = true := by decide +kernel
theorem ga_r4 : wsL_law0_r4.all goodWord = true := by decide +kernel
theorem ga_r5 : wsL_law0_r5.all goodWord = true := by decide +kernel
theorem ga_r6 : wsL_law0_r6.all goodWord = true := by decide +kernel
theorem ga_r7 : wsL_law0_r7.all goodWord = true := by decide +kernel
theorem ga_r8 : wsL_law0_r8.all goodWord = true := by decide +kernel
theorem ga_r9 : wsL_law0_r9.all goodWord = true := by decide +kernel
theorem ga_r10 : wsL_law0_r10.all goodWord = true := by decide +kernel
theorem ga_r11 : wsL_law0_r11.all goodWord = true := by decide +kernel
theorem ga_r12 : wsL_law0_r12.all goodWord = true := by decide +kernel
theorem ga_r13 : wsL_law0_r13.all goodWord = true := by decide +kernel
theorem ga_r14 : wsL_law0_r14.all goodWord = true := by decide +kernel
theorem ga_r15 : wsL_law0_r15.all goodWord = true := by decide +kernel
theorem ga_r16 : wsL_law0_r16.all goodWord = true := by decide +kernel
theorem ga_r17 : wsL_law0_r17.all goodWord = true := by decide +kernel
theorem ga_r18 : wsL_law0_r18.all goodWord = true := by decide +kernel
theorem ga_r19 : wsL_law0_r19.all goodWord = true := by decide +kernel
theorem ga_r20 : wsL_law0_r20.all goodWord = true := by decide +kernel
theorem ga_r21 : wsL_law0_r21.all goodWord = true := by decide +kernel
theorem ga_r22 : wsL_law0_r22.all goodWord = true := by decide +kernel
theorem ga_r23 : wsL_law0_r23.all goodWord = true := by decide +kernel
theorem ga_r24 : wsL_law0_r24.all goodWord = true := by decide +kernel
theorem ga_r25 : wsL_law0_r25.all goodWord = true := by decide +kernel
theorem ga_r26 : wsL_law0_r26.all goodWord = true := by decide +kernel
theorem ga_r27 : wsL_law0_r27.all goodWord = true := by decide +kernel
theorem ga_r28 : wsL_law0_r28.all goodWord = true := by decide +kernel
theorem ga_r29 : wsL_law0_r29.all goodWord = true := by decide +kernel
theorem ga_wsX70 : wsX70.all goodWord = true := by decide +kernel
theorem ga_wsX80 : wsX80.all goodWord = true := by decide +kernel
theorem ga_wsX30 : wsX30.all goodWord = true := by decide +kernel
theorem ga_wsX00 : wsX00.all goodWord = true := by decide +kernel
theorem ga_wsX50 : wsX50.all goodWord = true := by decide +kernel
theorem ga_wsX60 : wsX60.all goodWord = true := by decide +kernel
theorem ga_wsX20 : wsX20.all goodWord = true := by decide +kernel
theorem ga_wsX40 : wsX40.all goodWord = true := by decide +kernel
theorem ga_wsX10 : wsX10.all goodWord = true := by decide +kernel
theorem lw_good_all : wsL_law0.all goodWord = true := by
  unfold wsL_law0
  simp only [List.all_append, List.all_nil, Bool.and_true, ga_r1, ga_r2, ga_r3, ga_r4, ga_r5, ga_r6, ga_r7, ga_r8, ga_r9, ga_r10, ga_r11, ga_r12, ga_r13, ga_r14, ga_r15, ga_r16, ga_r17, ga_r18, ga_r19, ga_r20, ga_r21, ga_r22, ga_r23, ga_r24, ga_r25, ga_r26, ga_r27, ga_r28, ga_r29, ga_wsX70, ga_wsX80, ga_wsX30, ga_wsX00, ga_wsX50, ga_wsX60, ga_wsX20, ga_wsX40, ga_wsX10]
theorem lg_x0 : ∀ w ∈ (vx_atS RX7 61 "java/lang/IllegalArgumentException" ["java/lang/RuntimeException", "java/lang/Exception"]).filter goodWord, w ∈ lw_good := fun _ h => List.mem_append_left _ (List.mem_append_left _ (List.mem_append_right _ h))
theorem ga_x0 : ((vx_atS RX7 61 "java/lang/IllegalArgumentException" ["java/lang/RuntimeException", "java/lang/Exception"]).filter goodWord).all goodWord = true := List.all_eq_true.mpr (fun w h => (List.mem_filter.mp h).2)
theorem lg_x1 : ∀ w ∈ (vx_atS RX7 75 "java/lang/ArithmeticException" ["java/lang/RuntimeException", "java/lang/Exception"]).filter goodWord, w ∈ lw_good := fun _ h => List.mem_append_left _ (List.mem_append_right _ h)
theorem ga_x1 : ((vx_atS RX7 75 "java/lang/ArithmeticException" ["java/lang/RuntimeException", "java/lang/Exception"]).filter goodWord).all goodWord = true := List.all_eq_true.mpr (fun w h => (List.mem_filter.mp h).2)
theorem lg_x2 : ∀ w ∈ (vx_atS RX7 184 "java/lang/IndexOutOfBoundsException" ["java/lang/RuntimeException", "java/lang/Exception"]).filter goodWord, w ∈ lw_good := fun _ h => List.mem_append_right _ h
theorem ga_x2 : ((vx_atS RX7 184 "java/lang/IndexOutOfBoundsException" ["java/lang/RuntimeException", "java/lang/Exception"]).filter goodWord).all goodWord = true := List.all_eq_true.mpr (fun w h => (List.mem_filter.mp h).2)
theorem lw_good_all2 : wsL_law.all goodWord = true := by
  unfold wsL_law
  simp only [List.all_append, Bool.and_true, lw_good_all, ga_x0, ga_x1, ga_x2]
theorem lw_good_ok : ∀ w ∈ lw_good, (w.onTables && w.keeps) = true ∨ ∃ ty, w = .arrayClass ty := fun w h => good_of_word (List.all_eq_true.mp lw_good_all2 w h)
abbrev zS : Type := Nat → Nat → Int32
def zr (σ : zS) (k : Nat) (f : Nat → Int32) : zS := fun k' => if k' = k then f else σ k'
def zu (σ : zS) (k j : Nat) (v : Int32) : zS := zr σ k (upd (σ k) j v)
def zF : Nat := 100000
/-- launch; class numbers and slots; cells' addresses; array classes; the heap's size at the start; static tables' addresses -/
abbrev zG : Type := Launch × va_G × (Nat → Nat) × (Nat → ClassId) × Nat × (Nat → Nat)
abbrev zl (E : zG) : Launch := E.1
abbrev zD (E : zG) : va_G := E.2.1
abbrev zad (E : zG) : Nat → Nat := E.2.2.1
abbrev zac (E : zG) : Nat → ClassId := E.2.2.2.1
abbrev zZ (E : zG) : Nat := E.2.2.2.2.1
abbrev zst (E : zG) : Nat → Nat := E.2.2.2.2.2
def zA (E : zG) : Nat → Prop := fun q => zZ E ≤ q
abbrev z_cl : List vw_C := vwCl
def z_ty (E : zG) : List (ClassId × FieldType) := [(zac E 0, .int), (zac E 1, .boolean), (zac E 2, .object "ZMemory$Frame"), (zac E 3, .long)]
def tb_0 (j : Nat) : Int32 := ([2, 2, 2, 2, 2, 2, 2, 1, 2, 2, 3, 3, 3, 1, 1, 1, 2, 2, 3, 3, 3, 1, 1, 1, 0, 2, 3, 3, 1, 1, 1, 3, 0] : List Int32).getD j 0
def z_stat (E : zG) : List (String × String × String × Nat × Nat × (Nat → Value)) := [("ZMemory", "OPERANDS", "[I", zst E 0, 33, fun j => .int (tb_0 j))]
def z_txt (E : zG) : List (String × Nat × String × Nat) := [(RX7, 59, "no such arithmetic", zst E 1), (RX7, 73, "by 0", zst E 2), (RX7, 182, "no such character", zst E 3)]
def z_nc : List (String × String) := [("java/lang/ArithmeticException", "java/lang/IllegalArgumentException")]
abbrev z_fc : String := "ZMemory$Frame"
theorem st_0 (E : zG) : ("ZMemory", "OPERANDS", "[I", zst E 0, 33, fun j => Value.int (tb_0 j)) ∈ z_stat E := List.mem_cons_self
def z_nest : List Cond := [.fieldLinkNest RX7 174 "ZMemory$Chance" "taped" "I" "ZMemory", .fieldLinkNest RX6 110 "ZMemory$Program" "operands" "[I" "ZMemory", .fieldLinkNest RX6 116 "ZMemory$Program" "stores" "[I" "ZMemory", .fieldLinkNest RX7 173 "ZMemory$Program" "length" "I" "ZMemory", .fieldLinkNest RX6 228 "ZMemory$Program" "starts" "[I" "ZMemory", .fieldLinkNest RX6 231 "ZMemory$Program" "locals" "[I" "ZMemory", .fieldLinkNest RX6 241 "ZMemory$Program" "guards" "[Z" "ZMemory", .fieldLinkNest RX2 32 "ZMemory$Frame" "locals" "[I" "ZMemory", .fieldLinkNest RX6 234 "ZMemory$Frame" "localCount" "I" "ZMemory", .fieldLinkNest RX6 225 "ZMemory$Frame" "routine" "I" "ZMemory", .fieldLinkNest RX6 96 "ZMemory$Frame" "next" "I" "ZMemory", .fieldLinkNest RX6 237 "ZMemory$Frame" "store" "I" "ZMemory", .fieldLinkNest RX2 41 "ZMemory$Frame" "floor" "I" "ZMemory", .fieldLinkNest RX6 175 "ZMemory$Frames" "count" "I" "ZMemory", .fieldLinkNest RX7 168 "ZMemory$Frames" "most" "I" "ZMemory", .fieldLinkNest RX6 51 "ZMemory$Page" "length" "I" "ZMemory", .fieldLinkNest RX7 159 "ZMemory$Page" "length" "I" "ZMemory", .fieldLinkNest RX7 164 "ZMemory$Runner" "frames" "LZMemory$Frames;" "ZMemory", .fieldLinkNest RX7 155 "ZMemory$Runner" "page" "LZMemory$Page;" "ZMemory", .fieldLinkNest RX7 185 "ZMemory$Runner" "leavings" "[I" "ZMemory", .fieldLinkNest RX7 97 "ZMemory$Runner" "globe" "I" "ZMemory", .fieldLinkNest RX7 101 "ZMemory$Runner" "form" "I" "ZMemory", .fieldLinkNest RX7 140 "ZMemory$Runner" "steps" "I" "ZMemory", .fieldLinkNest RX7 143 "ZMemory$Runner" "returned" "I" "ZMemory", .fieldLinkNest RX7 146 "ZMemory$Runner" "unguarded" "I" "ZMemory", .fieldLinkNest RX7 149 "ZMemory$Runner" "guarded" "I" "ZMemory", .fieldLinkNest RX7 152 "ZMemory$Runner" "arrived" "I" "ZMemory", .fieldLinkNest RX6 107 "ZMemory" "OPERANDS" "[I" "ZMemory", .methodLinkNest RX7 11 yX3_init "ZMemory", .methodLinkNest RX7 18 yX0_init "ZMemory", .methodLinkNest RX7 25 yX5_init "ZMemory", .methodLinkNest RX2 21 yX1_init "ZMemory", .methodLinkNest RX6 20 yX4_init "ZMemory", .methodLinkNest RX5 38 yX7_isWithin "ZMemory", .methodLinkNest RX6 133 yX7_number "ZMemory", .methodLinkNest RX6 136 yX7_arithmetic "ZMemory", .methodLinkNest RX6 204 yX7_word "ZMemory", .castable "java/lang/IllegalArgumentException" "java/lang/IllegalArgumentException", .castable "java/lang/ArithmeticException" "java/lang/ArithmeticException", .castable "java/lang/IndexOutOfBoundsException" "java/lang/IndexOutOfBoundsException"]
def z_isN : Cond → Bool
  | .castable .. => true
  | .fieldLinkNest .. => true
  | .methodLinkNest .. => true
  | _ => false
theorem z_nestN : ∀ w ∈ z_nest, z_isN w = true := List.all_eq_true.mp (by rfl)
def z_N : Nat := 65
def z_E (E : zG) (k : Nat) (f : Nat → Int32) : va_E := match k with
  | 0 => .inr (7, [.ref (zad E 1), .ref (zad E 3), .ref (zad E 5), .ref (zad E 13)])
  | 1 => .inr (3, [.ref (zad E 2), .int (f 1), .int (f 2)])
  | 2 => .inl (zac E 0, 2000, .inl f)
  | 3 => .inr (0, [.ref (zad E 4), .int (f 1), .int (f 2), .int (f 3), .int (f 4), .int (f 5), .int (f 6)])
  | 4 => .inl (zac E 0, 50, .inl f)
  | 5 => .inr (5, [.ref (zad E 6), .ref (zad E 7), .ref (zad E 8), .int (f 3), .ref (zad E 9), .ref (zad E 10), .ref (zad E 11), .ref (zad E 12)])
  | 6 => .inl (zac E 0, 100, .inl f)
  | 7 => .inl (zac E 0, 300, .inl f)
  | 8 => .inl (zac E 0, 100, .inl f)
  | 9 => .inl (zac E 1, 8, .inl f)
  | 10 => .inl (zac E 0, 8, .inl f)
  | 11 => .inl (zac E 0, 8, .inl f)
  | 12 => .inl (zac E 1, 8, .inl f)
  | 13 => .inr (6, [.ref (zad E 1), .ref (zad E 3), .ref (zad E 5), .ref (zad E 14), .ref (zad E 41), .ref (zad E 43), .ref (zad E 44), .int (f 7), .int (f 8), .int (f 9), .int (f 10), .int (f 11), .int (f 12), .int (f 13), .int (f 14), .int (f 15), .int (f 16)])
  | 14 => .inr (2, [.ref (zad E 15), .ref (zad E 40), .int (f 2), .int (f 3), .int (f 4)])
  | 15 => .inl (zac E 2, 12, .inr (.inr (.inr (.inr (fun j => some (zad E (16 + 2 * j)))))))
  | 40 => .inl (zac E 0, 100, .inl f)
  | 41 => .inr (4, [.ref (zad E 42), .int (f 1)])
  | 42 => .inl (zac E 0, 120, .inl f)
  | 43 => .inl (zac E 0, 8, .inl f)
  | 44 => .inl (zac E 0, 3, .inl f)
  | 45 => .inr (8, [.int (f 0), .ref (zad E 46), .int (f 2), .int (f 3), .int (f 4), .int (f 5), .int (f 6), .int (f 7), .int (f 8), .int (f 9), .ref (zad E 47), .int (f 11), .int (f 12), .ref (zad E 48), .int (f 14), .ref (zad E 49), .ref (zad E 50), .ref (zad E 51), .ref (zad E 52), .ref (zad E 53), .ref (zad E 54), .ref (zad E 55), .int (f 22), .ref (zad E 56), .ref (zad E 57), .ref (zad E 58), .ref (zad E 59), .ref (zad E 60), .ref (zad E 61), .int (f 29), .ref (zad E 62), .int (f 31), .ref (zad E 63), .int (f 33), .int (f 34), .int (f 35), .int (f 36), .int (f 37), .int (f 38), .int (f 39), .int (f 40)])
  | 46 => .inl (zac E 0, 2000, .inl f)
  | 47 => .inl (zac E 0, 50, .inl f)
  | 48 => .inl (zac E 0, 2000, .inl f)
  | 49 => .inl (zac E 0, 100, .inl f)
  | 50 => .inl (zac E 0, 300, .inl f)
  | 51 => .inl (zac E 0, 100, .inl f)
  | 52 => .inl (zac E 1, 8, .inl f)
  | 53 => .inl (zac E 0, 8, .inl f)
  | 54 => .inl (zac E 0, 8, .inl f)
  | 55 => .inl (zac E 1, 8, .inl f)
  | 56 => .inl (zac E 0, 12, .inl f)
  | 57 => .inl (zac E 0, 12, .inl f)
  | 58 => .inl (zac E 0, 12, .inl f)
  | 59 => .inl (zac E 0, 12, .inl f)
  | 60 => .inl (zac E 0, 180, .inl f)
  | 61 => .inl (zac E 0, 100, .inl f)
  | 62 => .inl (zac E 0, 120, .inl f)
  | 63 => .inl (zac E 0, 8, .inl f)
  | 64 => .inl (zac E 3, 1, .inr (.inl (fun j => (f j).toInt64)))
  | k => if k % 2 = 0 then .inr (1, [.ref (zad E (k + 1)), .int (f 1), .int (f 2), .int (f 3), .int (f 4), .int (f 5)]) else .inl (zac E 0, 15, .inl f)
theorem lt_F {i : Nat} (hi : i < 12) : 16 + 2 * i < z_N := by unfold z_N; omega
theorem lt_FL {i : Nat} (hi : i < 12) : 17 + 2 * i < z_N := by unfold z_N; omega
theorem ly_F {E : zG} {i : Nat} (hi : i < 12) (f : Nat → Int32) : z_E E (16 + 2 * i) f = .inr (1, [.ref (zad E (17 + 2 * i)), .int (f 1), .int (f 2), .int (f 3), .int (f 4), .int (f 5)]) := by
  rcases (show i = 0 ∨ i = 1 ∨ i = 2 ∨ i = 3 ∨ i = 4 ∨ i = 5 ∨ i = 6 ∨ i = 7 ∨ i = 8 ∨ i = 9 ∨ i = 10 ∨ i = 11 by omega) with rfl | rfl | rfl | rfl | rfl | rfl | rfl | rfl | rfl | rfl | rfl | rfl <;> rfl
theorem ly_FL {E : zG} {i : Nat} (hi : i < 12) (f : Nat → Int32) : z_E E (17 + 2 * i) f = .inl (zac E 0, 15, .inl f) := by
  rcases (show i = 0 ∨ i = 1 ∨ i = 2 ∨ i = 3 ∨ i = 4 ∨ i = 5 ∨ i = 6 ∨ i = 7 ∨ i = 8 ∨ i = 9 ∨ i = 10 ∨ i = 11 by omega) with rfl | rfl | rfl | rfl | rfl | rfl | rfl | rfl | rfl | rfl | rfl | rfl <;> rfl
theorem ly_Fs {E : zG} {i : Nat} (hi : i < 12) (f : Nat → Int32) (j : Nat) (x : Int32) (hj : 1 ≤ j ∧ j < 6) : z_E E (16 + 2 * i) (upd f j x) = .inr (1, ([.ref (zad E (17 + 2 * i)), .int (f 1), .int (f 2), .int (f 3), .int (f 4), .int (f 5)] : List Value).set j (.int x)) := by
  rw [ly_F hi]
  rcases (show j = 1 ∨ j = 2 ∨ j = 3 ∨ j = 4 ∨ j = 5 by omega) with rfl | rfl | rfl | rfl | rfl <;> rfl
/-- the cells' addresses are apart, and new -/
def zAp (E : zG) : Prop := (∀ i j : Nat, i < z_N → j < z_N → zad E i = zad E j → i = j) ∧ ∀ k : Nat, k < z_N → zZ E ≤ zad E k
def zCl (ci : Nat) (Cn : String) (T : u_T) (N : Nat) (ty : Nat → FieldType) : Prop := (∀ w ∈ u_ws Cn T N, w ∈ lw_good) ∧ z_cl[ci]? = some (Cn, T, N) ∧ (∀ k, k < N → parseFieldDescriptor (T k).2.2.1 = some (ty k)) ∧ ∀ a, a < N → ∀ b, b < N → a ≠ b → (T a).2.1 ≠ (T b).2.1
theorem K_X0 : zCl 0 RX0 TX0 7 tyX0 := ⟨lg_wsX00, rfl, tyX0_ok, nmX0⟩
theorem K_X1 : zCl 1 RX1 TX1 6 tyX1 := ⟨lg_wsX10, rfl, tyX1_ok, nmX1⟩
theorem K_X2 : zCl 2 RX2 TX2 5 tyX2 := ⟨lg_wsX20, rfl, tyX2_ok, nmX2⟩
theorem K_X3 : zCl 3 RX3 TX3 3 tyX3 := ⟨lg_wsX30, rfl, tyX3_ok, nmX3⟩
theorem K_X4 : zCl 4 RX4 TX4 2 tyX4 := ⟨lg_wsX40, rfl, tyX4_ok, nmX4⟩
theorem K_X5 : zCl 5 RX5 TX5 8 tyX5 := ⟨lg_wsX50, rfl, tyX5_ok, nmX5⟩
theorem K_X6 : zCl 6 RX6 TX6 17 tyX6 := ⟨lg_wsX60, rfl, tyX6_ok, nmX6⟩
theorem K_X7 : zCl 7 RX7 TX7 4 tyX7 := ⟨lg_wsX70, rfl, tyX7_ok, nmX7⟩
theorem K_X8 : zCl 8 RX8 TX8 41 tyX8 := ⟨lg_wsX80, rfl, tyX8_ok, nmX8⟩
end
section
/-! The layer over the kit: ONE world. All cells of the system stand in one list, by their numbers; what they hold is ONE function σ (cell, place). A method's picture is a program 'Option (answer × σ)': none where the machine itself would throw, or where the fuel is out. -/
abbrev zX : Type := Program × Env × State × MethodId × Array Value × List Frame × Method × Code
def zc {ρ : Type} (i : Int32) (n : Nat) (P : Option ρ) : Option ρ := if i < 0 ∨ n ≤ i.toNatClampNeg then none else P
def zd {ρ : Type} (y : Int32) (P : Option ρ) : Option ρ := if y = 0 then none else P
theorem zc_in {ρ : Type} {i : Int32} {n : Nat} {P : Option ρ} (h : vp_in i n) : zc i n P = P := if_neg h
theorem zc_some {ρ : Type} {i : Int32} {n : Nat} {P : Option ρ} {z : ρ} (h : zc i n P = some z) : vp_in i n ∧ P = some z := by
  unfold zc at h
  by_cases c : i < 0 ∨ n ≤ i.toNatClampNeg
  · rw [if_pos c] at h; cases h
  · rw [if_neg c] at h; exact ⟨c, h⟩
theorem zd_some {ρ : Type} {y : Int32} {P : Option ρ} {z : ρ} (h : zd y P = some z) : ¬ y = 0 ∧ P = some z := by
  unfold zd at h
  by_cases c : y = 0
  · rw [if_pos c] at h; cases h
  · rw [if_neg c] at h; exact ⟨c, h⟩
def zlet {α : Type} {ρ : Type} (a : α) (K : α → Option ρ) : Option ρ := K a
def zbind {α ρ : Type} (q : Option (α × zS)) (K : α → zS → Option ρ) : Option ρ := match q with
  | none => none
  | some (a, σ) => K a σ
def zop {ρ : Type} (r : Option Nat) (N : Nat) (P : Option ρ) (K : Nat → Option ρ) : Option ρ := match r with
  | none => P
  | some i => if i < N then K i else none
def zcp {ρ : Type} (sp dp n : Int32) (n0 n1 : Nat) (P : Option ρ) : Option ρ := if sp < 0 ∨ dp < 0 ∨ n < 0 ∨ n0 < sp.toNatClampNeg + n.toNatClampNeg ∨ n1 < dp.toNatClampNeg + n.toNatClampNeg then none else P
theorem zcp_some {ρ : Type} {sp dp n : Int32} {n0 n1 : Nat} {P : Option ρ} {z : ρ} (h : zcp sp dp n n0 n1 P = some z) : ¬ sp < 0 ∧ ¬ dp < 0 ∧ ¬ n < 0 ∧ sp.toNatClampNeg + n.toNatClampNeg ≤ n0 ∧ dp.toNatClampNeg + n.toNatClampNeg ≤ n1 ∧ P = some z := by
  unfold zcp at h
  by_cases c : sp < 0 ∨ dp < 0 ∨ n < 0 ∨ n0 < sp.toNatClampNeg + n.toNatClampNeg ∨ n1 < dp.toNatClampNeg + n.toNatClampNeg
  · rw [if_pos c] at h; cases h
  · rw [if_neg c] at h
    refine ⟨fun q => c (Or.inl q), fun q => c (Or.inr (Or.inl q)), fun q => c (Or.inr (Or.inr (Or.inl q))), ?_, ?_, h⟩
    · exact Nat.not_lt.mp fun q => c (Or.inr (Or.inr (Or.inr (Or.inl q))))
    · exact Nat.not_lt.mp fun q => c (Or.inr (Or.inr (Or.inr (Or.inr q))))
def zfill (f : Nat → Int32) (n : Nat) (v : Int32) : Nat → Int32 := fun j => if j < n then v else f j
def zushr (x y : Int32) : Int32 := (x.toUInt32 >>> (y.toUInt32 &&& Int32.toUInt32 31)).toInt32
theorem zb_some {α β : Type} {q : Option (α × zS)} {K : α → zS → Option β} {z : β} (h : zbind q K = some z) : ∃ a σ, q = some (a, σ) ∧ K a σ = some z := by
  cases q with
  | none => cases h
  | some a => exact ⟨a.1, a.2, rfl, h⟩
/-! the world -/
def zW (E : zG) (σ : zS) : va_W := (List.range z_N).map (fun k => (zad E k, z_E E k (σ k)))
theorem zW_at {E : zG} {σ : zS} {k : Nat} (hk : k < z_N) : (zW E σ)[k]? = some (zad E k, z_E E k (σ k)) := by
  unfold zW
  rw [List.getElem?_map, List.getElem?_range hk]
  rfl
theorem zW_set {E : zG} {σ : zS} {k : Nat} (hk : k < z_N) (f : Nat → Int32) : (zW E σ).set k (zad E k, z_E E k f) = zW E (zr σ k f) := by
  apply List.ext_getElem?
  intro i
  have hlen : (zW E σ).length = z_N := by unfold zW; rw [List.length_map, List.length_range]
  have hlen2 : (zW E (zr σ k f)).length = z_N := by unfold zW; rw [List.length_map, List.length_range]
  by_cases hi : i < z_N
  · rw [zW_at hi]
    by_cases hik : i = k
    · subst hik
      rw [List.getElem?_set_self (by rw [hlen]; exact hi)]
      unfold zr
      rw [if_pos rfl]
    · rw [List.getElem?_set_ne (Ne.symm hik), zW_at hi]
      unfold zr
      rw [if_neg hik]
  · rw [List.getElem?_eq_none (by rw [List.length_set, hlen]; omega), List.getElem?_eq_none (by rw [hlen2]; omega)]
theorem zW_D {E : zG} (h : zAp E) (σ : zS) : va_D (zA E) (zW E σ) := by
  have key : ∀ (k : Nat) (q : Nat × va_E), (zW E σ)[k]? = some q → k < z_N ∧ q.1 = zad E k := by
    intro k q hk
    have hl := (List.getElem?_eq_some_iff.mp hk).1
    have hlen : (zW E σ).length = z_N := by unfold zW; rw [List.length_map, List.length_range]
    rw [hlen] at hl
    rw [zW_at hl] at hk
    exact ⟨hl, by rw [← Option.some.inj hk]⟩
  refine ⟨fun i j p q hi hj hpq => ?_, fun k q hk => ?_⟩
  · obtain ⟨a1, a2⟩ := key i p hi
    obtain ⟨b1, b2⟩ := key j q hj
    exact h.1 i j a1 b1 (by rw [← a2, ← b2]; exact hpq)
  · obtain ⟨a1, a2⟩ := key k q hk
    show zZ E ≤ q.1
    rw [a2]; exact h.2 k a1
/-! what stands of the tables -/
theorem z_warm {w : Cond} (h : z_isN w = true) {s U : State} (hW : s.WarmedH U.vm) (hZ : va_Nw w s) : va_Nw w U := by
  cases w <;> first | exact va_Nw.warmF hW hZ | exact va_Nw.warmM hW hZ | exact va_Nw.warmC hW hZ | cases h
theorem z_same {w : Cond} (h : z_isN w = true) {s U : State} (hv : s.vm = U.vm) (hZ : va_Nw w s) : va_Nw w U := by
  cases w <;> first | exact va_Nw.same rfl hv hZ | cases h
/-- what a throw needs -/
def zT (E : zG) (U : State) : Prop := (∀ q ∈ z_txt E, vk_R q.1 q.2.1 q.2.2.1 q.2.2.2 U) ∧ vx_Zq Bundle.tN "UNASSIGNED_STACK" Bundle.steD (zA E) U U.heap ∧ vx_Zq Bundle.tN "SUPPRESSED_SENTINEL" Bundle.listD (zA E) U U.heap ∧ (∀ q ∈ z_nc, va_Nc q.1 q.2 U) ∧ (zl E).stackTraces = false
theorem zT.go {E : zG} {s U : State} (h : zT E s) (hW : s.WarmedH U.vm) (hH : ∀ a : Nat, a < s.heap.size → ¬ zA E a → U.heap[a]? = s.heap[a]?) : zT E U :=
  ⟨fun q hq => vk_R.warm hW (h.1 q hq), (vx_Zq.moved hW.alike h.2.1).kept hH, (vx_Zq.moved hW.alike h.2.2.1).kept hH, fun q hq => va_Nc.moved hW.alike (h.2.2.2.1 q hq), h.2.2.2.2⟩
theorem zT.eqv {E : zG} {s U : State} (h : zT E s) (hv : s.vm = U.vm) (hH : U.heap = s.heap) : zT E U := by
  have ha : s.vm.Alike U.vm := hv ▸ Vm.Alike.refl s.vm
  exact ⟨fun q hq => vk_R.same hv.symm (h.1 q hq), by rw [hH]; exact vx_Zq.moved ha h.2.1, by rw [hH]; exact vx_Zq.moved ha h.2.2.1, fun q hq => va_Nc.moved ha (h.2.2.2.1 q hq), h.2.2.2.2⟩
def zK (E : zG) (U : State) : Prop := va_K (zD E) z_cl (z_ty E) U ∧ (∀ w ∈ z_nest, va_Nw w U) ∧ (∀ q ∈ z_stat E, va_Z q.1 q.2.1 q.2.2.1 (.ref q.2.2.2.1) (zA E) U U.heap ∧ va_T .int q.2.2.2.1 q.2.2.2.2.1 q.2.2.2.2.2 (zA E) U U.heap) ∧ va_AO z_fc U ∧ zT E U
theorem zK.go {E : zG} {s U : State} (h : zK E s) (hW : s.WarmedH U.vm) (hH : ∀ a : Nat, a < s.heap.size → ¬ zA E a → U.heap[a]? = s.heap[a]?) : zK E U :=
  ⟨va_K.moved hW.alike h.1, fun w hw => z_warm (z_nestN w hw) hW (h.2.1 w hw), fun q hq => ⟨(va_Z.moved hW.alike (h.2.2.1 q hq).1).kept hH, (va_T.moved hW.alike (h.2.2.1 q hq).2).kept hH⟩, va_AO.moved hW.alike h.2.2.2.1, h.2.2.2.2.go hW hH⟩
theorem zK.eqv {E : zG} {s U : State} (h : zK E s) (hv : s.vm = U.vm) (hH : U.heap = s.heap) : zK E U := by
  have ha : s.vm.Alike U.vm := hv ▸ Vm.Alike.refl s.vm
  exact ⟨va_K.moved ha h.1, fun w hw => z_same (z_nestN w hw) hv (h.2.1 w hw), fun q hq => ⟨by rw [hH]; exact va_Z.moved ha (h.2.2.1 q hq).1, by rw [hH]; exact va_T.moved ha (h.2.2.1 q hq).2⟩, va_AO.moved ha h.2.2.2.1, h.2.2.2.2.eqv hv hH⟩
/-! a method's contract by its program -/
def zQ (E : zG) (v : Option Value) (σ : zS) : Array Value → State → Outcome → State → Prop := fun _ st oc t => oc = .returned v ∧ va_P (zD E) z_cl (zW E σ) t.heap ∧ va_F (zA E) st t
def zPc (E : zG) (σ : zS) (av : List Value) : Array Value → State → Prop := va_Pc av (fun U => va_P (zD E) z_cl (zW E σ) U.heap ∧ zK E U)
theorem zPc_blind {E : zG} {σ : zS} {av : List Value} : FrameBlind (zPc E σ av) := fun _ U g mk q => ⟨q.1, q.2.1, zK.eqv (U := U.calling g mk _) q.2.2 rfl rfl⟩
abbrev zws (y : MethodName) (bytes : ByteArray) (maxL : Nat) (ret : Option FieldType) : List Cond := Cond.code y bytes maxL ret :: lw_good
def zM (E : zG) (y : MethodName) (bytes : ByteArray) (maxL : Nat) (ret : Option FieldType) (rm : Room) {ρ : Type} (rv : ρ → Option Value) (av : List Value) (q : Option (ρ × zS)) (σ : zS) : Prop :=
  ∀ z, q = some z → Met (zl E) y (zws y bytes maxL ret) rm (zPc E σ av) (zQ E (rv z.1) z.2) 0 0 (zA E)
/-! the locals, by their places -/
def zL (ls : Array Slot) (nL : Nat) (lv : List (Option Value)) : Prop := ls.size = nL ∧ lv_wf ls ∧ ∀ (i : Nat) (v : Value), lv[i]? = some (some v) → ls[i]? = some (.val v) ∧ v.category = 1
def zP (lv : List (Option Value)) : List (Nat × Value) := lv.zipIdx.filterMap (fun q => q.1.map (fun v => (q.2, v)))
theorem zP_mem {lv : List (Option Value)} {i : Nat} {v : Value} : (i, v) ∈ zP lv ↔ lv[i]? = some (some v) := by
  unfold zP
  rw [List.mem_filterMap]
  constructor
  · rintro ⟨⟨o, j⟩, h1, h2⟩
    cases o with
    | none => cases h2
    | some w =>
      have e : (j, w) = (i, v) := Option.some.inj h2
      cases e
      exact List.mk_mem_zipIdx_iff_getElem?.mp h1
  · intro h
    exact ⟨(some v, i), List.mk_mem_zipIdx_iff_getElem?.mpr h, rfl⟩
theorem zL.has {ls : Array Slot} {nL : Nat} {lv : List (Option Value)} (h : zL ls nL lv) : lv_has ls nL (zP lv) :=
  ⟨h.1, h.2.1, fun q hq => (h.2.2 q.1 q.2 (zP_mem.mp hq)).1⟩
theorem zL.put {ls' ls : Array Slot} {nL i : Nat} {lv : List (Option Value)} {x : Value} (h : zL ls nL lv) (hc : x.category = 1) (h' : lv_has ls' nL ((i, x) :: (zP lv).filter (fun q => !(q.1 == i) && !(q.1 + 1 == i && q.2.category == 2)))) : zL ls' nL (lv.set i (some x)) := by
  refine ⟨h'.1, h'.2.1, fun j v hj => ?_⟩
  by_cases hji : j = i
  · subst hji
    have hl : j < lv.length := by
      have := (List.getElem?_eq_some_iff.mp hj).1
      rw [List.length_set] at this
      exact this
    rw [List.getElem?_set_self hl] at hj
    cases hj
    exact ⟨h'.2.2 (j, x) List.mem_cons_self, hc⟩
  · rw [List.getElem?_set_ne (Ne.symm hji)] at hj
    have h1 := h.2.2 j v hj
    refine ⟨h'.2.2 (j, v) (List.mem_cons_of_mem _ (List.mem_filter.mpr ⟨zP_mem.mpr hj, ?_⟩)), h1.2⟩
    simp [hji, h1.2]
def zmask : List (Option Value) → List Bool → List (Option Value)
  | [], _ => []
  | _ :: _, [] => []
  | a :: l, b :: r => (if b then a else none) :: zmask l r
theorem zmask_at : ∀ (lv : List (Option Value)) (mk : List Bool) (i : Nat) (v : Value), (zmask lv mk)[i]? = some (some v) → lv[i]? = some (some v)
  | [], _, i, v, h => by simp [zmask] at h
  | _ :: _, [], i, v, h => by simp [zmask] at h
  | a :: l, b :: r, 0, v, h => by
    cases b with
    | true => simpa [zmask] using h
    | false => simp [zmask] at h
  | a :: l, b :: r, i + 1, v, h => by
    have h' : (zmask l r)[i]? = some (some v) := by simpa [zmask] using h
    simpa using zmask_at l r i v h'
/-! the judgement -/
def zO (E : zG) (Γ : zX) (own : String) (cc : ByteArray) (nL : Nat) (ret : Option FieldType) : Prop :=
  match Γ with
  | (p, _, s, m, args, _, meth, c) => p.tables.exec = Jvm.exec ∧ c.code = cc ∧ c.maxLocals = nL ∧ meth.sig.returnType = ret ∧ s.vm.findClass own = some m.cls ∧ (∀ w ∈ lw_good, w.before args s = true) ∧ zK E s ∧ zAp E ∧ meth.locks = false
def zJg (E : zG) (Γ : zX) (R : Room) (nL : Nat) {ρ : Type} (Q : ρ × zS → State → Prop) (cx sx : Nat) (P : Option (ρ × zS)) (σ : zS) (pc : Nat) (lv : List (Option Value)) (st : List Value) : Prop :=
  match Γ with
  | (p, e, s, m, args, below, meth, c) => ∀ z : ρ × zS, P = some z → ∀ (H : Heap) (locs : List Loc) (ls : Array Slot), va_P (zD E) z_cl (zW E σ) H → va_S (zA E) s.heap H locs → zL ls nL lv → W p (zl E) e R s m args below meth c H locs cx sx (Q z) (F0 m pc ls st)
/-- the end of a method that makes nothing -/
def zQm (E : zG) (Γ : zX) {ρ : Type} (rv : ρ → Option Value) : ρ × zS → State → Prop := fun z => match Γ with
  | (_, _, s, _, args, below, _, _) => MQ below (zQ E (rv z.1) z.2) args s 0 0 (zA E)
abbrev zJ (E : zG) (Γ : zX) (R : Room) (nL : Nat) {ρ : Type} (rv : ρ → Option Value) (P : Option (ρ × zS)) (σ : zS) (pc : Nat) (lv : List (Option Value)) (st : List Value) : Prop := zJg E Γ R nL (zQm E Γ rv) 0 0 P σ pc lv st
def zrf (E : zG) (b : Nat) (r : Option Nat) : Option Value := some (match r with
  | none => .null
  | some i => .ref (zad E (b + 2 * i)))
theorem zO.ap {E : zG} {Γ : zX} {own : String} {cc : ByteArray} {nL : Nat} {ret : Option FieldType} (C : zO E Γ own cc nL ret) : zAp E := by
  obtain ⟨p, e, s, m, args, below, meth, c⟩ := Γ
  obtain ⟨hx, hb, hml, hr, hown, hts, hK, hAp, hlk⟩ := C
  exact hAp
end
section
section zRows
variable {E : zG} {Γ : zX} {R : Room} {nL : Nat} {ρ : Type} {rv : ρ → Option Value} {Q : ρ × zS → State → Prop} {cx sx : Nat} {P P1 P2 : Option (ρ × zS)} {K2 : zS → Option (ρ × zS)} {σ : zS} {pc : Nat} {lv : List (Option Value)} {rest : List Value} {own : String} {cc : ByteArray} {ret : Option FieldType}
theorem r_iconst {n : Int} {v : Int32} (C : zO E Γ own cc nL ret) (hd : decode cc pc = .ok (.iconst n, 1)) (hv : Int32.ofInt n = v) (k : zJg E Γ R nL Q cx sx P σ (pc + 1) lv (.int v :: rest)) : zJg E Γ R nL Q cx sx P σ pc lv (rest) := by
  obtain ⟨p, e, s, m, args, below, meth, c⟩ := Γ
  obtain ⟨hx, hb, hml, hr, hown, hts, hK, hAp, hlk⟩ := C
  intro z hz H locs ls hP hS hl
  exact lv_iconst hx hb hd hv (k z hz H locs ls hP hS hl)
theorem r_bipush {n : Int} {v : Int32} (C : zO E Γ own cc nL ret) (hd : decode cc pc = .ok (.bipush n, 2)) (hv : (Int8.ofInt n).toInt32 = v) (k : zJg E Γ R nL Q cx sx P σ (pc + 2) lv (.int v :: rest)) : zJg E Γ R nL Q cx sx P σ pc lv (rest) := by
  obtain ⟨p, e, s, m, args, below, meth, c⟩ := Γ
  obtain ⟨hx, hb, hml, hr, hown, hts, hK, hAp, hlk⟩ := C
  intro z hz H locs ls hP hS hl
  exact lv_bipush hx hb hd hv (k z hz H locs ls hP hS hl)
theorem r_sipush {n : Int} {v : Int32} (C : zO E Γ own cc nL ret) (hd : decode cc pc = .ok (.sipush n, 3)) (hv : (Int16.ofInt n).toInt32 = v) (k : zJg E Γ R nL Q cx sx P σ (pc + 3) lv (.int v :: rest)) : zJg E Γ R nL Q cx sx P σ pc lv (rest) := by
  obtain ⟨p, e, s, m, args, below, meth, c⟩ := Γ
  obtain ⟨hx, hb, hml, hr, hown, hts, hK, hAp, hlk⟩ := C
  intro z hz H locs ls hP hS hl
  exact lv_sipush hx hb hd hv (k z hz H locs ls hP hS hl)
theorem r_ldc {v : Int32} {index : Nat} (C : zO E Γ own cc nL ret) (hd : decode cc pc = .ok (.ldc index, 2)) (hc : Cond.constant own index v ∈ lw_good) (k : zJg E Γ R nL Q cx sx P σ (pc + 2) lv (.int v :: rest)) : zJg E Γ R nL Q cx sx P σ pc lv rest := by
  obtain ⟨p, e, s, m, args, below, meth, c⟩ := Γ
  obtain ⟨hx, hb, hml, hr, hown, hts, hK, hAp, hlk⟩ := C
  intro z hz H locs ls hP hS hl
  exact lv_ldc hx hb hown (hts _ hc) hd (k z hz H locs ls hP hS hl)
theorem r_null (C : zO E Γ own cc nL ret) (hd : decode cc pc = .ok (.aconst_null, 1)) (k : zJg E Γ R nL Q cx sx P σ (pc + 1) lv (.null :: rest)) : zJg E Γ R nL Q cx sx P σ pc lv (rest) := by
  obtain ⟨p, e, s, m, args, below, meth, c⟩ := Γ
  obtain ⟨hx, hb, hml, hr, hown, hts, hK, hAp, hlk⟩ := C
  intro z hz H locs ls hP hS hl
  exact lv_null hx hb hd (k z hz H locs ls hP hS hl)
theorem r_iload_n {x : Int32} {i : Fin 4} (C : zO E Γ own cc nL ret) (hd : decode cc pc = .ok (.iload_n i, 1)) (hv : lv[(i : Nat)]? = some (some (.int x))) (k : zJg E Γ R nL Q cx sx P σ (pc + 1) lv (.int x :: rest)) : zJg E Γ R nL Q cx sx P σ pc lv rest := by
  obtain ⟨p, e, s, m, args, below, meth, c⟩ := Γ
  obtain ⟨hx, hb, hml, hr, hown, hts, hK, hAp, hlk⟩ := C
  intro z hz H locs ls hP hS hl
  exact lv_iload_n hx hb hd rfl (hl.2.2 _ _ hv).1 (k z hz H locs ls hP hS hl)
theorem r_iload {x : Int32} {i : Nat} (C : zO E Γ own cc nL ret) (hd : decode cc pc = .ok (.iload i, 2)) (hv : lv[i]? = some (some (.int x))) (k : zJg E Γ R nL Q cx sx P σ (pc + 2) lv (.int x :: rest)) : zJg E Γ R nL Q cx sx P σ pc lv rest := by
  obtain ⟨p, e, s, m, args, below, meth, c⟩ := Γ
  obtain ⟨hx, hb, hml, hr, hown, hts, hK, hAp, hlk⟩ := C
  intro z hz H locs ls hP hS hl
  exact lv_iload hx hb hd (hl.2.2 _ _ hv).1 (k z hz H locs ls hP hS hl)
theorem r_istore_n {x : Int32} {i : Fin 4} {lv' : List (Option Value)} (C : zO E Γ own cc nL ret) (hd : decode cc pc = .ok (.istore_n i, 1)) (hn : (i : Nat) < nL) (hv : lv.set (i : Nat) (some (.int x)) = lv') (k : zJg E Γ R nL Q cx sx P σ (pc + 1) lv' rest) : zJg E Γ R nL Q cx sx P σ pc lv (.int x :: rest) := by
  obtain ⟨p, e, s, m, args, below, meth, c⟩ := Γ
  obtain ⟨hx, hb, hml, hr, hown, hts, hK, hAp, hlk⟩ := C
  intro z hz H locs ls hP hS hl
  subst hv
  exact lv_istore_n hx hb hd rfl hl.has hn rfl (fun ls' h' => k z hz H locs ls' hP hS (hl.put rfl h'))
theorem r_istore {x : Int32} {i : Nat} {lv' : List (Option Value)} (C : zO E Γ own cc nL ret) (hd : decode cc pc = .ok (.istore i, 2)) (hn : i < nL) (hv : lv.set i (some (.int x)) = lv') (k : zJg E Γ R nL Q cx sx P σ (pc + 2) lv' rest) : zJg E Γ R nL Q cx sx P σ pc lv (.int x :: rest) := by
  obtain ⟨p, e, s, m, args, below, meth, c⟩ := Γ
  obtain ⟨hx, hb, hml, hr, hown, hts, hK, hAp, hlk⟩ := C
  intro z hz H locs ls hP hS hl
  subst hv
  exact lv_istore hx hb hd hl.has hn rfl (fun ls' h' => k z hz H locs ls' hP hS (hl.put rfl h'))
theorem r_aload_n {x : Nat} {i : Fin 4} (C : zO E Γ own cc nL ret) (hd : decode cc pc = .ok (.aload_n i, 1)) (hv : lv[(i : Nat)]? = some (some (.ref x))) (k : zJg E Γ R nL Q cx sx P σ (pc + 1) lv (.ref x :: rest)) : zJg E Γ R nL Q cx sx P σ pc lv rest := by
  obtain ⟨p, e, s, m, args, below, meth, c⟩ := Γ
  obtain ⟨hx, hb, hml, hr, hown, hts, hK, hAp, hlk⟩ := C
  intro z hz H locs ls hP hS hl
  exact lv_aload_n hx hb hd rfl (hl.2.2 _ _ hv).1 (k z hz H locs ls hP hS hl)
theorem r_aload {x : Nat} {i : Nat} (C : zO E Γ own cc nL ret) (hd : decode cc pc = .ok (.aload i, 2)) (hv : lv[i]? = some (some (.ref x))) (k : zJg E Γ R nL Q cx sx P σ (pc + 2) lv (.ref x :: rest)) : zJg E Γ R nL Q cx sx P σ pc lv rest := by
  obtain ⟨p, e, s, m, args, below, meth, c⟩ := Γ
  obtain ⟨hx, hb, hml, hr, hown, hts, hK, hAp, hlk⟩ := C
  intro z hz H locs ls hP hS hl
  exact lv_aload hx hb hd (hl.2.2 _ _ hv).1 (k z hz H locs ls hP hS hl)
theorem r_astore_n {x : Nat} {i : Fin 4} {lv' : List (Option Value)} (C : zO E Γ own cc nL ret) (hd : decode cc pc = .ok (.astore_n i, 1)) (hn : (i : Nat) < nL) (hv : lv.set (i : Nat) (some (.ref x)) = lv') (k : zJg E Γ R nL Q cx sx P σ (pc + 1) lv' rest) : zJg E Γ R nL Q cx sx P σ pc lv (.ref x :: rest) := by
  obtain ⟨p, e, s, m, args, below, meth, c⟩ := Γ
  obtain ⟨hx, hb, hml, hr, hown, hts, hK, hAp, hlk⟩ := C
  intro z hz H locs ls hP hS hl
  subst hv
  exact lv_astore_n hx hb hd rfl hl.has hn rfl (fun ls' h' => k z hz H locs ls' hP hS (hl.put rfl h'))
theorem r_astore {x : Nat} {i : Nat} {lv' : List (Option Value)} (C : zO E Γ own cc nL ret) (hd : decode cc pc = .ok (.astore i, 2)) (hn : i < nL) (hv : lv.set i (some (.ref x)) = lv') (k : zJg E Γ R nL Q cx sx P σ (pc + 2) lv' rest) : zJg E Γ R nL Q cx sx P σ pc lv (.ref x :: rest) := by
  obtain ⟨p, e, s, m, args, below, meth, c⟩ := Γ
  obtain ⟨hx, hb, hml, hr, hown, hts, hK, hAp, hlk⟩ := C
  intro z hz H locs ls hP hS hl
  subst hv
  exact lv_astore hx hb hd hl.has hn rfl (fun ls' h' => k z hz H locs ls' hP hS (hl.put rfl h'))
theorem r_aload_nN {i : Fin 4} (C : zO E Γ own cc nL ret) (hd : decode cc pc = .ok (.aload_n i, 1)) (hv : lv[(i : Nat)]? = some (some .null)) (k : zJg E Γ R nL Q cx sx P σ (pc + 1) lv (.null :: rest)) : zJg E Γ R nL Q cx sx P σ pc lv rest := by
  obtain ⟨p, e, s, m, args, below, meth, c⟩ := Γ
  obtain ⟨hx, hb, hml, hr, hown, hts, hK, hAp, hlk⟩ := C
  intro z hz H locs ls hP hS hl
  exact lv_aload_nN hx hb hd rfl (hl.2.2 _ _ hv).1 (k z hz H locs ls hP hS hl)
theorem r_aloadN {i : Nat} (C : zO E Γ own cc nL ret) (hd : decode cc pc = .ok (.aload i, 2)) (hv : lv[i]? = some (some .null)) (k : zJg E Γ R nL Q cx sx P σ (pc + 2) lv (.null :: rest)) : zJg E Γ R nL Q cx sx P σ pc lv rest := by
  obtain ⟨p, e, s, m, args, below, meth, c⟩ := Γ
  obtain ⟨hx, hb, hml, hr, hown, hts, hK, hAp, hlk⟩ := C
  intro z hz H locs ls hP hS hl
  exact lv_aloadN hx hb hd (hl.2.2 _ _ hv).1 (k z hz H locs ls hP hS hl)
theorem r_astore_nN {i : Fin 4} {lv' : List (Option Value)} (C : zO E Γ own cc nL ret) (hd : decode cc pc = .ok (.astore_n i, 1)) (hn : (i : Nat) < nL) (hv : lv.set (i : Nat) (some .null) = lv') (k : zJg E Γ R nL Q cx sx P σ (pc + 1) lv' rest) : zJg E Γ R nL Q cx sx P σ pc lv (.null :: rest) := by
  obtain ⟨p, e, s, m, args, below, meth, c⟩ := Γ
  obtain ⟨hx, hb, hml, hr, hown, hts, hK, hAp, hlk⟩ := C
  intro z hz H locs ls hP hS hl
  subst hv
  exact lv_astore_nN hx hb hd rfl hl.has hn rfl (fun ls' h' => k z hz H locs ls' hP hS (hl.put rfl h'))
theorem r_astoreN {i : Nat} {lv' : List (Option Value)} (C : zO E Γ own cc nL ret) (hd : decode cc pc = .ok (.astore i, 2)) (hn : i < nL) (hv : lv.set i (some .null) = lv') (k : zJg E Γ R nL Q cx sx P σ (pc + 2) lv' rest) : zJg E Γ R nL Q cx sx P σ pc lv (.null :: rest) := by
  obtain ⟨p, e, s, m, args, below, meth, c⟩ := Γ
  obtain ⟨hx, hb, hml, hr, hown, hts, hK, hAp, hlk⟩ := C
  intro z hz H locs ls hP hS hl
  subst hv
  exact lv_astoreN hx hb hd hl.has hn rfl (fun ls' h' => k z hz H locs ls' hP hS (hl.put rfl h'))
theorem r_iinc {x v : Int32} {i : Nat} {n : Int} {lv' : List (Option Value)} (C : zO E Γ own cc nL ret) (hd : decode cc pc = .ok (.iinc i n, 3)) (hn : i < nL) (hg : lv[i]? = some (some (.int x))) (hx2 : x + Int32.ofInt n = v) (hv : lv.set i (some (.int v)) = lv') (k : zJg E Γ R nL Q cx sx P σ (pc + 3) lv' rest) : zJg E Γ R nL Q cx sx P σ pc lv rest := by
  obtain ⟨p, e, s, m, args, below, meth, c⟩ := Γ
  obtain ⟨hx, hb, hml, hr, hown, hts, hK, hAp, hlk⟩ := C
  intro z hz H locs ls hP hS hl
  subst hv
  obtain ⟨j, hj⟩ := List.getElem?_of_mem (zP_mem.mpr hg)
  exact lv_iinc hx hb hd hl.has hj hx2 hn rfl (fun ls' h' => k z hz H locs ls' hP hS (hl.put rfl h'))
theorem r_iadd {x y : Int32} (C : zO E Γ own cc nL ret) (hd : decode cc pc = .ok (.iadd, 1)) (k : zJg E Γ R nL Q cx sx P σ (pc + 1) lv (.int (x + y) :: rest)) : zJg E Γ R nL Q cx sx P σ pc lv (.int y :: .int x :: rest) := by
  obtain ⟨p, e, s, m, args, below, meth, c⟩ := Γ
  obtain ⟨hx, hb, hml, hr, hown, hts, hK, hAp, hlk⟩ := C
  intro z hz H locs ls hP hS hl
  exact lv_iadd hx hb hd (k z hz H locs ls hP hS hl)
theorem r_isub {x y : Int32} (C : zO E Γ own cc nL ret) (hd : decode cc pc = .ok (.isub, 1)) (k : zJg E Γ R nL Q cx sx P σ (pc + 1) lv (.int (x - y) :: rest)) : zJg E Γ R nL Q cx sx P σ pc lv (.int y :: .int x :: rest) := by
  obtain ⟨p, e, s, m, args, below, meth, c⟩ := Γ
  obtain ⟨hx, hb, hml, hr, hown, hts, hK, hAp, hlk⟩ := C
  intro z hz H locs ls hP hS hl
  exact lv_isub hx hb hd (k z hz H locs ls hP hS hl)
theorem r_imul {x y : Int32} (C : zO E Γ own cc nL ret) (hd : decode cc pc = .ok (.imul, 1)) (k : zJg E Γ R nL Q cx sx P σ (pc + 1) lv (.int (x * y) :: rest)) : zJg E Γ R nL Q cx sx P σ pc lv (.int y :: .int x :: rest) := by
  obtain ⟨p, e, s, m, args, below, meth, c⟩ := Γ
  obtain ⟨hx, hb, hml, hr, hown, hts, hK, hAp, hlk⟩ := C
  intro z hz H locs ls hP hS hl
  exact lv_imul hx hb hd (k z hz H locs ls hP hS hl)
theorem r_iand {x y : Int32} (C : zO E Γ own cc nL ret) (hd : decode cc pc = .ok (.iand, 1)) (k : zJg E Γ R nL Q cx sx P σ (pc + 1) lv (.int (x &&& y) :: rest)) : zJg E Γ R nL Q cx sx P σ pc lv (.int y :: .int x :: rest) := by
  obtain ⟨p, e, s, m, args, below, meth, c⟩ := Γ
  obtain ⟨hx, hb, hml, hr, hown, hts, hK, hAp, hlk⟩ := C
  intro z hz H locs ls hP hS hl
  exact lv_iand hx hb hd (k z hz H locs ls hP hS hl)
theorem r_ior {x y : Int32} (C : zO E Γ own cc nL ret) (hd : decode cc pc = .ok (.ior, 1)) (k : zJg E Γ R nL Q cx sx P σ (pc + 1) lv (.int (x ||| y) :: rest)) : zJg E Γ R nL Q cx sx P σ pc lv (.int y :: .int x :: rest) := by
  obtain ⟨p, e, s, m, args, below, meth, c⟩ := Γ
  obtain ⟨hx, hb, hml, hr, hown, hts, hK, hAp, hlk⟩ := C
  intro z hz H locs ls hP hS hl
  exact lv_ior hx hb hd (k z hz H locs ls hP hS hl)
theorem r_ixor {x y : Int32} (C : zO E Γ own cc nL ret) (hd : decode cc pc = .ok (.ixor, 1)) (k : zJg E Γ R nL Q cx sx P σ (pc + 1) lv (.int (x ^^^ y) :: rest)) : zJg E Γ R nL Q cx sx P σ pc lv (.int y :: .int x :: rest) := by
  obtain ⟨p, e, s, m, args, below, meth, c⟩ := Γ
  obtain ⟨hx, hb, hml, hr, hown, hts, hK, hAp, hlk⟩ := C
  intro z hz H locs ls hP hS hl
  exact lv_ixor hx hb hd (k z hz H locs ls hP hS hl)
theorem r_ishl {x y : Int32} (C : zO E Γ own cc nL ret) (hd : decode cc pc = .ok (.ishl, 1)) (k : zJg E Γ R nL Q cx sx P σ (pc + 1) lv (.int (x <<< (y &&& 31)) :: rest)) : zJg E Γ R nL Q cx sx P σ pc lv (.int y :: .int x :: rest) := by
  obtain ⟨p, e, s, m, args, below, meth, c⟩ := Γ
  obtain ⟨hx, hb, hml, hr, hown, hts, hK, hAp, hlk⟩ := C
  intro z hz H locs ls hP hS hl
  exact lv_ishl hx hb hd (k z hz H locs ls hP hS hl)
theorem r_ishr {x y : Int32} (C : zO E Γ own cc nL ret) (hd : decode cc pc = .ok (.ishr, 1)) (k : zJg E Γ R nL Q cx sx P σ (pc + 1) lv (.int (x >>> (y &&& 31)) :: rest)) : zJg E Γ R nL Q cx sx P σ pc lv (.int y :: .int x :: rest) := by
  obtain ⟨p, e, s, m, args, below, meth, c⟩ := Γ
  obtain ⟨hx, hb, hml, hr, hown, hts, hK, hAp, hlk⟩ := C
  intro z hz H locs ls hP hS hl
  exact lv_ishr hx hb hd (k z hz H locs ls hP hS hl)
theorem r_ineg {x : Int32} (C : zO E Γ own cc nL ret) (hd : decode cc pc = .ok (.ineg, 1)) (k : zJg E Γ R nL Q cx sx P σ (pc + 1) lv (.int (-x) :: rest)) : zJg E Γ R nL Q cx sx P σ pc lv (.int x :: rest) := by
  obtain ⟨p, e, s, m, args, below, meth, c⟩ := Γ
  obtain ⟨hx, hb, hml, hr, hown, hts, hK, hAp, hlk⟩ := C
  intro z hz H locs ls hP hS hl
  exact lv_ineg hx hb hd (k z hz H locs ls hP hS hl)
theorem r_iushr {x y : Int32} (C : zO E Γ own cc nL ret) (hd : decode cc pc = .ok (.iushr, 1)) (k : zJg E Γ R nL Q cx sx P σ (pc + 1) lv (.int (zushr x y) :: rest)) : zJg E Γ R nL Q cx sx P σ pc lv (.int y :: .int x :: rest) := by
  obtain ⟨p, e, s, m, args, below, meth, c⟩ := Γ
  obtain ⟨hx, hb, hml, hr, hown, hts, hK, hAp, hlk⟩ := C
  intro z hz H locs ls hP hS hl
  exact lv_iushr hx hb hd rfl (k z hz H locs ls hP hS hl)
theorem r_i2s {x : Int32} (C : zO E Γ own cc nL ret) (hd : decode cc pc = .ok (.i2s, 1)) (k : zJg E Γ R nL Q cx sx P σ (pc + 1) lv (.int (x.toInt16.toInt32) :: rest)) : zJg E Γ R nL Q cx sx P σ pc lv (.int x :: rest) := by
  obtain ⟨p, e, s, m, args, below, meth, c⟩ := Γ
  obtain ⟨hx, hb, hml, hr, hown, hts, hK, hAp, hlk⟩ := C
  intro z hz H locs ls hP hS hl
  exact lv_i2s hx hb hd rfl (k z hz H locs ls hP hS hl)
theorem r_i2b {x : Int32} (C : zO E Γ own cc nL ret) (hd : decode cc pc = .ok (.i2b, 1)) (k : zJg E Γ R nL Q cx sx P σ (pc + 1) lv (.int (x.toInt8.toInt32) :: rest)) : zJg E Γ R nL Q cx sx P σ pc lv (.int x :: rest) := by
  obtain ⟨p, e, s, m, args, below, meth, c⟩ := Γ
  obtain ⟨hx, hb, hml, hr, hown, hts, hK, hAp, hlk⟩ := C
  intro z hz H locs ls hP hS hl
  exact lv_i2b hx hb hd rfl (k z hz H locs ls hP hS hl)
theorem r_i2c {x : Int32} (C : zO E Γ own cc nL ret) (hd : decode cc pc = .ok (.i2c, 1)) (k : zJg E Γ R nL Q cx sx P σ (pc + 1) lv (.int ((x.toUInt32 % 65536).toInt32) :: rest)) : zJg E Γ R nL Q cx sx P σ pc lv (.int x :: rest) := by
  obtain ⟨p, e, s, m, args, below, meth, c⟩ := Γ
  obtain ⟨hx, hb, hml, hr, hown, hts, hK, hAp, hlk⟩ := C
  intro z hz H locs ls hP hS hl
  exact lv_i2c hx hb hd rfl (k z hz H locs ls hP hS hl)
theorem r_i2l {x : Int32} (C : zO E Γ own cc nL ret) (hd : decode cc pc = .ok (.i2l, 1)) (k : zJg E Γ R nL Q cx sx P σ (pc + 1) lv (.long x.toInt64 :: rest)) : zJg E Γ R nL Q cx sx P σ pc lv (.int x :: rest) := by
  obtain ⟨p, e, s, m, args, below, meth, c⟩ := Γ
  obtain ⟨hx, hb, hml, hr, hown, hts, hK, hAp, hlk⟩ := C
  intro z hz H locs ls hP hS hl
  exact lv_i2l hx hb hd rfl (k z hz H locs ls hP hS hl)
theorem r_ladd {x y : Int64} (C : zO E Γ own cc nL ret) (hd : decode cc pc = .ok (.ladd, 1)) (k : zJg E Γ R nL Q cx sx P σ (pc + 1) lv (.long (x + y) :: rest)) : zJg E Γ R nL Q cx sx P σ pc lv (.long y :: .long x :: rest) := by
  obtain ⟨p, e, s, m, args, below, meth, c⟩ := Γ
  obtain ⟨hx, hb, hml, hr, hown, hts, hK, hAp, hlk⟩ := C
  intro z hz H locs ls hP hS hl
  exact lv_ladd hx hb hd (k z hz H locs ls hP hS hl)
theorem r_lcmp {x y : Int64} (C : zO E Γ own cc nL ret) (hd : decode cc pc = .ok (.lcmp, 1)) (k : zJg E Γ R nL Q cx sx P σ (pc + 1) lv (.int (lg_cmp x y) :: rest)) : zJg E Γ R nL Q cx sx P σ pc lv (.long y :: .long x :: rest) := by
  obtain ⟨p, e, s, m, args, below, meth, c⟩ := Γ
  obtain ⟨hx, hb, hml, hr, hown, hts, hK, hAp, hlk⟩ := C
  intro z hz H locs ls hP hS hl
  exact W.lcmp hx hb hd (k z hz H locs ls hP hS hl)
theorem r_idiv {x y : Int32} (C : zO E Γ own cc nL ret) (hd : decode cc pc = .ok (.idiv, 1)) (k : zJg E Γ R nL Q cx sx P σ (pc + 1) lv (.int (x / y) :: rest)) : zJg E Γ R nL Q cx sx (zd y P) σ pc lv (.int y :: .int x :: rest) := by
  obtain ⟨p, e, s, m, args, below, meth, c⟩ := Γ
  obtain ⟨hx, hb, hml, hr, hown, hts, hK, hAp, hlk⟩ := C
  intro z hz H locs ls hP hS hl
  obtain ⟨h0, hz⟩ := zd_some hz
  exact lv_idiv hx hb hd h0 (k z hz H locs ls hP hS hl)
theorem r_irem {x y : Int32} (C : zO E Γ own cc nL ret) (hd : decode cc pc = .ok (.irem, 1)) (k : zJg E Γ R nL Q cx sx P σ (pc + 1) lv (.int (x - x / y * y) :: rest)) : zJg E Γ R nL Q cx sx (zd y P) σ pc lv (.int y :: .int x :: rest) := by
  obtain ⟨p, e, s, m, args, below, meth, c⟩ := Γ
  obtain ⟨hx, hb, hml, hr, hown, hts, hK, hAp, hlk⟩ := C
  intro z hz H locs ls hP hS hl
  obtain ⟨h0, hz⟩ := zd_some hz
  exact lv_irem hx hb hd h0 (k z hz H locs ls hP hS hl)
theorem r_dup {va : Value} (C : zO E Γ own cc nL ret) (hd : decode cc pc = .ok (.dup, 1)) (h1 : va.category = 1) (k : zJg E Γ R nL Q cx sx P σ (pc + 1) lv (va :: va :: rest)) : zJg E Γ R nL Q cx sx P σ pc lv (va :: rest) := by
  obtain ⟨p, e, s, m, args, below, meth, c⟩ := Γ
  obtain ⟨hx, hb, hml, hr, hown, hts, hK, hAp, hlk⟩ := C
  intro z hz H locs ls hP hS hl
  exact lv_dup hx hb hd h1 (k z hz H locs ls hP hS hl)
theorem r_pop {va : Value} (C : zO E Γ own cc nL ret) (hd : decode cc pc = .ok (.pop, 1)) (h1 : va.category = 1) (k : zJg E Γ R nL Q cx sx P σ (pc + 1) lv (rest)) : zJg E Γ R nL Q cx sx P σ pc lv (va :: rest) := by
  obtain ⟨p, e, s, m, args, below, meth, c⟩ := Γ
  obtain ⟨hx, hb, hml, hr, hown, hts, hK, hAp, hlk⟩ := C
  intro z hz H locs ls hP hS hl
  exact lv_pop hx hb hd h1 (k z hz H locs ls hP hS hl)
theorem r_dup2 {va vb : Value} (C : zO E Γ own cc nL ret) (hd : decode cc pc = .ok (.dup2, 1)) (h1 : va.category = 1) (h2 : vb.category = 1) (k : zJg E Γ R nL Q cx sx P σ (pc + 1) lv (va :: vb :: va :: vb :: rest)) : zJg E Γ R nL Q cx sx P σ pc lv (va :: vb :: rest) := by
  obtain ⟨p, e, s, m, args, below, meth, c⟩ := Γ
  obtain ⟨hx, hb, hml, hr, hown, hts, hK, hAp, hlk⟩ := C
  intro z hz H locs ls hP hS hl
  exact lv_dup2_11 hx hb hd h1 h2 (k z hz H locs ls hP hS hl)
theorem r_dup_x1 {va vb : Value} (C : zO E Γ own cc nL ret) (hd : decode cc pc = .ok (.dup_x1, 1)) (h1 : va.category = 1) (h2 : vb.category = 1) (k : zJg E Γ R nL Q cx sx P σ (pc + 1) lv (va :: vb :: va :: rest)) : zJg E Γ R nL Q cx sx P σ pc lv (va :: vb :: rest) := by
  obtain ⟨p, e, s, m, args, below, meth, c⟩ := Γ
  obtain ⟨hx, hb, hml, hr, hown, hts, hK, hAp, hlk⟩ := C
  intro z hz H locs ls hP hS hl
  exact lv_dup_x1 hx hb hd h1 h2 (k z hz H locs ls hP hS hl)
theorem r_dup_x2 {va vb vd : Value} (C : zO E Γ own cc nL ret) (hd : decode cc pc = .ok (.dup_x2, 1)) (h1 : va.category = 1) (h2 : vb.category = 1) (h3 : vd.category = 1) (k : zJg E Γ R nL Q cx sx P σ (pc + 1) lv (va :: vb :: vd :: va :: rest)) : zJg E Γ R nL Q cx sx P σ pc lv (va :: vb :: vd :: rest) := by
  obtain ⟨p, e, s, m, args, below, meth, c⟩ := Γ
  obtain ⟨hx, hb, hml, hr, hown, hts, hK, hAp, hlk⟩ := C
  intro z hz H locs ls hP hS hl
  exact lv_dup_x2 hx hb hd h1 h2 h3 (k z hz H locs ls hP hS hl)
theorem r_if_eq {x : Int32} {off : Int} {tgt : Nat} (C : zO E Γ own cc nL ret) (hd : decode cc pc = .ok (.ifCond .eq off, 3)) (ht : (pc : Int) + off = (tgt : Int)) (kt : x = 0 → zJg E Γ R nL Q cx sx P1 σ tgt lv rest) (kf : ¬ x = 0 → zJg E Γ R nL Q cx sx P2 σ (pc + 3) lv rest) : zJg E Γ R nL Q cx sx (if x = 0 then P1 else P2) σ pc lv (.int x :: rest) := by
  obtain ⟨p, e, s, m, args, below, meth, c⟩ := Γ
  obtain ⟨hx, hb, hml, hr, hown, hts, hK, hAp, hlk⟩ := C
  intro z hz H locs ls hP hS hl
  exact lv_if_eq hx hb hd ht (fun q => kt q z (by rw [if_pos q] at hz; exact hz) H locs ls hP hS hl) (fun q => kf q z (by rw [if_neg q] at hz; exact hz) H locs ls hP hS hl)
theorem r_icmp_eq {x y : Int32} {off : Int} {tgt : Nat} (C : zO E Γ own cc nL ret) (hd : decode cc pc = .ok (.if_icmp .eq off, 3)) (ht : (pc : Int) + off = (tgt : Int)) (kt : x = y → zJg E Γ R nL Q cx sx P1 σ tgt lv rest) (kf : ¬ x = y → zJg E Γ R nL Q cx sx P2 σ (pc + 3) lv rest) : zJg E Γ R nL Q cx sx (if x = y then P1 else P2) σ pc lv (.int y :: .int x :: rest) := by
  obtain ⟨p, e, s, m, args, below, meth, c⟩ := Γ
  obtain ⟨hx, hb, hml, hr, hown, hts, hK, hAp, hlk⟩ := C
  intro z hz H locs ls hP hS hl
  exact lv_icmp_eq hx hb hd ht (fun q => kt q z (by rw [if_pos q] at hz; exact hz) H locs ls hP hS hl) (fun q => kf q z (by rw [if_neg q] at hz; exact hz) H locs ls hP hS hl)
theorem r_if_ne {x : Int32} {off : Int} {tgt : Nat} (C : zO E Γ own cc nL ret) (hd : decode cc pc = .ok (.ifCond .ne off, 3)) (ht : (pc : Int) + off = (tgt : Int)) (kf : x = 0 → zJg E Γ R nL Q cx sx P2 σ (pc + 3) lv rest) (kt : ¬ x = 0 → zJg E Γ R nL Q cx sx P1 σ tgt lv rest) : zJg E Γ R nL Q cx sx (if x = 0 then P2 else P1) σ pc lv (.int x :: rest) := by
  obtain ⟨p, e, s, m, args, below, meth, c⟩ := Γ
  obtain ⟨hx, hb, hml, hr, hown, hts, hK, hAp, hlk⟩ := C
  intro z hz H locs ls hP hS hl
  exact lv_if_ne hx hb hd ht (fun q => kt q z (by rw [if_neg q] at hz; exact hz) H locs ls hP hS hl) (fun q => kf q z (by rw [if_pos q] at hz; exact hz) H locs ls hP hS hl)
theorem r_icmp_ne {x y : Int32} {off : Int} {tgt : Nat} (C : zO E Γ own cc nL ret) (hd : decode cc pc = .ok (.if_icmp .ne off, 3)) (ht : (pc : Int) + off = (tgt : Int)) (kf : x = y → zJg E Γ R nL Q cx sx P2 σ (pc + 3) lv rest) (kt : ¬ x = y → zJg E Γ R nL Q cx sx P1 σ tgt lv rest) : zJg E Γ R nL Q cx sx (if x = y then P2 else P1) σ pc lv (.int y :: .int x :: rest) := by
  obtain ⟨p, e, s, m, args, below, meth, c⟩ := Γ
  obtain ⟨hx, hb, hml, hr, hown, hts, hK, hAp, hlk⟩ := C
  intro z hz H locs ls hP hS hl
  exact lv_icmp_ne hx hb hd ht (fun q => kt q z (by rw [if_neg q] at hz; exact hz) H locs ls hP hS hl) (fun q => kf q z (by rw [if_pos q] at hz; exact hz) H locs ls hP hS hl)
theorem r_if_lt {x : Int32} {off : Int} {tgt : Nat} (C : zO E Γ own cc nL ret) (hd : decode cc pc = .ok (.ifCond .lt off, 3)) (ht : (pc : Int) + off = (tgt : Int)) (kt : x < 0 → zJg E Γ R nL Q cx sx P1 σ tgt lv rest) (kf : ¬ x < 0 → zJg E Γ R nL Q cx sx P2 σ (pc + 3) lv rest) : zJg E Γ R nL Q cx sx (if x < 0 then P1 else P2) σ pc lv (.int x :: rest) := by
  obtain ⟨p, e, s, m, args, below, meth, c⟩ := Γ
  obtain ⟨hx, hb, hml, hr, hown, hts, hK, hAp, hlk⟩ := C
  intro z hz H locs ls hP hS hl
  exact lv_if_lt hx hb hd ht (fun q => kt q z (by rw [if_pos q] at hz; exact hz) H locs ls hP hS hl) (fun q => kf q z (by rw [if_neg q] at hz; exact hz) H locs ls hP hS hl)
theorem r_icmp_lt {x y : Int32} {off : Int} {tgt : Nat} (C : zO E Γ own cc nL ret) (hd : decode cc pc = .ok (.if_icmp .lt off, 3)) (ht : (pc : Int) + off = (tgt : Int)) (kt : x < y → zJg E Γ R nL Q cx sx P1 σ tgt lv rest) (kf : ¬ x < y → zJg E Γ R nL Q cx sx P2 σ (pc + 3) lv rest) : zJg E Γ R nL Q cx sx (if x < y then P1 else P2) σ pc lv (.int y :: .int x :: rest) := by
  obtain ⟨p, e, s, m, args, below, meth, c⟩ := Γ
  obtain ⟨hx, hb, hml, hr, hown, hts, hK, hAp, hlk⟩ := C
  intro z hz H locs ls hP hS hl
  exact lv_icmp_lt hx hb hd ht (fun q => kt q z (by rw [if_pos q] at hz; exact hz) H locs ls hP hS hl) (fun q => kf q z (by rw [if_neg q] at hz; exact hz) H locs ls hP hS hl)
theorem r_if_ge {x : Int32} {off : Int} {tgt : Nat} (C : zO E Γ own cc nL ret) (hd : decode cc pc = .ok (.ifCond .ge off, 3)) (ht : (pc : Int) + off = (tgt : Int)) (kt : 0 ≤ x → zJg E Γ R nL Q cx sx P1 σ tgt lv rest) (kf : ¬ 0 ≤ x → zJg E Γ R nL Q cx sx P2 σ (pc + 3) lv rest) : zJg E Γ R nL Q cx sx (if 0 ≤ x then P1 else P2) σ pc lv (.int x :: rest) := by
  obtain ⟨p, e, s, m, args, below, meth, c⟩ := Γ
  obtain ⟨hx, hb, hml, hr, hown, hts, hK, hAp, hlk⟩ := C
  intro z hz H locs ls hP hS hl
  exact lv_if_ge hx hb hd ht (fun q => kt q z (by rw [if_pos q] at hz; exact hz) H locs ls hP hS hl) (fun q => kf q z (by rw [if_neg q] at hz; exact hz) H locs ls hP hS hl)
theorem r_icmp_ge {x y : Int32} {off : Int} {tgt : Nat} (C : zO E Γ own cc nL ret) (hd : decode cc pc = .ok (.if_icmp .ge off, 3)) (ht : (pc : Int) + off = (tgt : Int)) (kt : y ≤ x → zJg E Γ R nL Q cx sx P1 σ tgt lv rest) (kf : ¬ y ≤ x → zJg E Γ R nL Q cx sx P2 σ (pc + 3) lv rest) : zJg E Γ R nL Q cx sx (if y ≤ x then P1 else P2) σ pc lv (.int y :: .int x :: rest) := by
  obtain ⟨p, e, s, m, args, below, meth, c⟩ := Γ
  obtain ⟨hx, hb, hml, hr, hown, hts, hK, hAp, hlk⟩ := C
  intro z hz H locs ls hP hS hl
  exact lv_icmp_ge hx hb hd ht (fun q => kt q z (by rw [if_pos q] at hz; exact hz) H locs ls hP hS hl) (fun q => kf q z (by rw [if_neg q] at hz; exact hz) H locs ls hP hS hl)
theorem r_if_gt {x : Int32} {off : Int} {tgt : Nat} (C : zO E Γ own cc nL ret) (hd : decode cc pc = .ok (.ifCond .gt off, 3)) (ht : (pc : Int) + off = (tgt : Int)) (kt : 0 < x → zJg E Γ R nL Q cx sx P1 σ tgt lv rest) (kf : ¬ 0 < x → zJg E Γ R nL Q cx sx P2 σ (pc + 3) lv rest) : zJg E Γ R nL Q cx sx (if 0 < x then P1 else P2) σ pc lv (.int x :: rest) := by
  obtain ⟨p, e, s, m, args, below, meth, c⟩ := Γ
  obtain ⟨hx, hb, hml, hr, hown, hts, hK, hAp, hlk⟩ := C
  intro z hz H locs ls hP hS hl
  exact lv_if_gt hx hb hd ht (fun q => kt q z (by rw [if_pos q] at hz; exact hz) H locs ls hP hS hl) (fun q => kf q z (by rw [if_neg q] at hz; exact hz) H locs ls hP hS hl)
theorem r_icmp_gt {x y : Int32} {off : Int} {tgt : Nat} (C : zO E Γ own cc nL ret) (hd : decode cc pc = .ok (.if_icmp .gt off, 3)) (ht : (pc : Int) + off = (tgt : Int)) (kt : y < x → zJg E Γ R nL Q cx sx P1 σ tgt lv rest) (kf : ¬ y < x → zJg E Γ R nL Q cx sx P2 σ (pc + 3) lv rest) : zJg E Γ R nL Q cx sx (if y < x then P1 else P2) σ pc lv (.int y :: .int x :: rest) := by
  obtain ⟨p, e, s, m, args, below, meth, c⟩ := Γ
  obtain ⟨hx, hb, hml, hr, hown, hts, hK, hAp, hlk⟩ := C
  intro z hz H locs ls hP hS hl
  exact lv_icmp_gt hx hb hd ht (fun q => kt q z (by rw [if_pos q] at hz; exact hz) H locs ls hP hS hl) (fun q => kf q z (by rw [if_neg q] at hz; exact hz) H locs ls hP hS hl)
theorem r_if_le {x : Int32} {off : Int} {tgt : Nat} (C : zO E Γ own cc nL ret) (hd : decode cc pc = .ok (.ifCond .le off, 3)) (ht : (pc : Int) + off = (tgt : Int)) (kt : x ≤ 0 → zJg E Γ R nL Q cx sx P1 σ tgt lv rest) (kf : ¬ x ≤ 0 → zJg E Γ R nL Q cx sx P2 σ (pc + 3) lv rest) : zJg E Γ R nL Q cx sx (if x ≤ 0 then P1 else P2) σ pc lv (.int x :: rest) := by
  obtain ⟨p, e, s, m, args, below, meth, c⟩ := Γ
  obtain ⟨hx, hb, hml, hr, hown, hts, hK, hAp, hlk⟩ := C
  intro z hz H locs ls hP hS hl
  exact lv_if_le hx hb hd ht (fun q => kt q z (by rw [if_pos q] at hz; exact hz) H locs ls hP hS hl) (fun q => kf q z (by rw [if_neg q] at hz; exact hz) H locs ls hP hS hl)
theorem r_icmp_le {x y : Int32} {off : Int} {tgt : Nat} (C : zO E Γ own cc nL ret) (hd : decode cc pc = .ok (.if_icmp .le off, 3)) (ht : (pc : Int) + off = (tgt : Int)) (kt : x ≤ y → zJg E Γ R nL Q cx sx P1 σ tgt lv rest) (kf : ¬ x ≤ y → zJg E Γ R nL Q cx sx P2 σ (pc + 3) lv rest) : zJg E Γ R nL Q cx sx (if x ≤ y then P1 else P2) σ pc lv (.int y :: .int x :: rest) := by
  obtain ⟨p, e, s, m, args, below, meth, c⟩ := Γ
  obtain ⟨hx, hb, hml, hr, hown, hts, hK, hAp, hlk⟩ := C
  intro z hz H locs ls hP hS hl
  exact lv_icmp_le hx hb hd ht (fun q => kt q z (by rw [if_pos q] at hz; exact hz) H locs ls hP hS hl) (fun q => kf q z (by rw [if_neg q] at hz; exact hz) H locs ls hP hS hl)
theorem r_goto {off : Int} {tgt : Nat} (C : zO E Γ own cc nL ret) (hd : decode cc pc = .ok (.goto off, 3)) (ht : (pc : Int) + off = (tgt : Int)) (k : zJg E Γ R nL Q cx sx P σ tgt lv rest) : zJg E Γ R nL Q cx sx P σ pc lv rest := by
  obtain ⟨p, e, s, m, args, below, meth, c⟩ := Γ
  obtain ⟨hx, hb, hml, hr, hown, hts, hK, hAp, hlk⟩ := C
  intro z hz H locs ls hP hS hl
  exact lv_goto hx hb hd ht (k z hz H locs ls hP hS hl)
theorem r_ifnull {x : Nat} {off : Int} (C : zO E Γ own cc nL ret) (hd : decode cc pc = .ok (.ifnull off, 3)) (k : zJg E Γ R nL Q cx sx P σ (pc + 3) lv rest) : zJg E Γ R nL Q cx sx P σ pc lv (.ref x :: rest) := by
  obtain ⟨p, e, s, m, args, below, meth, c⟩ := Γ
  obtain ⟨hx, hb, hml, hr, hown, hts, hK, hAp, hlk⟩ := C
  intro z hz H locs ls hP hS hl
  exact lv_ifnull hx hb hd (k z hz H locs ls hP hS hl)
theorem r_ifnonnull {x : Nat} {off : Int} {tgt : Nat} (C : zO E Γ own cc nL ret) (hd : decode cc pc = .ok (.ifnonnull off, 3)) (ht : (pc : Int) + off = (tgt : Int)) (k : zJg E Γ R nL Q cx sx P σ tgt lv rest) : zJg E Γ R nL Q cx sx P σ pc lv (.ref x :: rest) := by
  obtain ⟨p, e, s, m, args, below, meth, c⟩ := Γ
  obtain ⟨hx, hb, hml, hr, hown, hts, hK, hAp, hlk⟩ := C
  intro z hz H locs ls hP hS hl
  exact lv_ifnonnull hx hb hd ht (k z hz H locs ls hP hS hl)
theorem r_ifnullN {off : Int} {tgt : Nat} (C : zO E Γ own cc nL ret) (hd : decode cc pc = .ok (.ifnull off, 3)) (ht : (pc : Int) + off = (tgt : Int)) (k : zJg E Γ R nL Q cx sx P σ tgt lv rest) : zJg E Γ R nL Q cx sx P σ pc lv (.null :: rest) := by
  obtain ⟨p, e, s, m, args, below, meth, c⟩ := Γ
  obtain ⟨hx, hb, hml, hr, hown, hts, hK, hAp, hlk⟩ := C
  intro z hz H locs ls hP hS hl
  exact lv_ifnullN hx hb hd ht (k z hz H locs ls hP hS hl)
theorem r_ifnonnullN {off : Int} (C : zO E Γ own cc nL ret) (hd : decode cc pc = .ok (.ifnonnull off, 3)) (k : zJg E Γ R nL Q cx sx P σ (pc + 3) lv rest) : zJg E Γ R nL Q cx sx P σ pc lv (.null :: rest) := by
  obtain ⟨p, e, s, m, args, below, meth, c⟩ := Γ
  obtain ⟨hx, hb, hml, hr, hown, hts, hK, hAp, hlk⟩ := C
  intro z hz H locs ls hP hS hl
  exact lv_ifnonnullN hx hb hd (k z hz H locs ls hP hS hl)
theorem r_split {q : Prop} [Decidable q] (k1 : q → zJg E Γ R nL Q cx sx P1 σ pc lv rest) (k2 : ¬ q → zJg E Γ R nL Q cx sx P2 σ pc lv rest) : zJg E Γ R nL Q cx sx (if q then P1 else P2) σ pc lv rest := by
  by_cases h : q
  · rw [if_pos h]; exact k1 h
  · rw [if_neg h]; exact k2 h
theorem r_tabIn {dflt lo hi : Int} {offs : Array Int} {len : Nat} {x v : Int32} {off : Int} {tgt : Nat} (C : zO E Γ own cc nL ret) (hd : decode cc pc = .ok (.tableswitch dflt lo hi offs, len)) (hxv : x = v) (h1 : ¬ v.toInt < lo) (h2 : ¬ hi < v.toInt) (ho : offs[(v.toInt - lo).toNat]? = some off) (ht : (pc : Int) + off = (tgt : Int)) (k : zJg E Γ R nL Q cx sx P σ tgt lv rest) : zJg E Γ R nL Q cx sx P σ pc lv (.int x :: rest) := by
  obtain ⟨p, e, s, m, args, below, meth, c⟩ := Γ
  obtain ⟨hx, hb, hml, hr, hown, hts, hK, hAp, hlk⟩ := C
  intro z hz H locs ls hP hS hl
  subst hxv
  exact lv_tableIn hx hb hd h1 h2 ho ht (k z hz H locs ls hP hS hl)
theorem r_tabOut {dflt lo hi : Int} {offs : Array Int} {len : Nat} {x : Int32} {tgt : Nat} (C : zO E Γ own cc nL ret) (hd : decode cc pc = .ok (.tableswitch dflt lo hi offs, len)) (h : x.toInt < lo ∨ hi < x.toInt) (ht : (pc : Int) + dflt = (tgt : Int)) (k : zJg E Γ R nL Q cx sx P σ tgt lv rest) : zJg E Γ R nL Q cx sx P σ pc lv (.int x :: rest) := by
  obtain ⟨p, e, s, m, args, below, meth, c⟩ := Γ
  obtain ⟨hx, hb, hml, hr, hown, hts, hK, hAp, hlk⟩ := C
  intro z hz H locs ls hP hS hl
  exact lv_tableOut hx hb hd h ht (k z hz H locs ls hP hS hl)
theorem r_get {ci N index : Nat} {Cn : String} {T : u_T} {ty : Nat → FieldType} {v : Value} {fs : List Value} (C : zO E Γ own cc nL ret) (K : zCl ci Cn T N ty) (i j : Nat) (hi : i < z_N) (he : z_E E i (σ i) = .inr (ci, fs)) (hj : j < N) (hlink : Cond.fieldLink own index (T j).1 (T j).2.1 (T j).2.2.1 ∈ lw_good) (hv : fs[j]? = some v) (hd : decode cc pc = .ok (.getfield index, 3)) (k : zJg E Γ R nL Q cx sx P σ (pc + 3) lv (v :: rest)) : zJg E Γ R nL Q cx sx P σ pc lv (.ref (zad E i) :: rest) := by
  obtain ⟨p, e, s, m, args, below, meth, c⟩ := Γ
  obtain ⟨hx, hb, hml, hr, hown, hts, hK, hAp, hlk⟩ := C
  intro z hz H locs ls hP hS hl
  exact va_get (D := zD E) hx hb hts K.1 hown hK.1 hP i (by rw [zW_at hi, he]) K.2.1 j hj (hts _ hlink) (fun _ h => h) hv hd (k z hz H locs ls hP hS hl)
theorem r_getN {ci N index : Nat} {Cn : String} {T : u_T} {ty : Nat → FieldType} {v : Value} {fs : List Value} {host : String} (C : zO E Γ own cc nL ret) (K : zCl ci Cn T N ty) (i j : Nat) (hi : i < z_N) (he : z_E E i (σ i) = .inr (ci, fs)) (hj : j < N) (hlink : Cond.fieldLinkNest own index (T j).1 (T j).2.1 (T j).2.2.1 host ∈ z_nest) (hv : fs[j]? = some v) (hd : decode cc pc = .ok (.getfield index, 3)) (k : zJg E Γ R nL Q cx sx P σ (pc + 3) lv (v :: rest)) : zJg E Γ R nL Q cx sx P σ pc lv (.ref (zad E i) :: rest) := by
  obtain ⟨p, e, s, m, args, below, meth, c⟩ := Γ
  obtain ⟨hx, hb, hml, hr, hown, hts, hK, hAp, hlk⟩ := C
  intro z hz H locs ls hP hS hl
  exact va_getN (D := zD E) hx hb hts K.1 hown hK.1 hP i (by rw [zW_at hi, he]) K.2.1 j hj (va_Nw.use rfl (hK.2.1 _ hlink)) (fun _ h => h) hv hd (k z hz H locs ls hP hS hl)
theorem r_put {ci N index : Nat} {Cn : String} {T : u_T} {ty : Nat → FieldType} {x : Int32} {fs : List Value} (C : zO E Γ own cc nL ret) (K : zCl ci Cn T N ty) (i j : Nat) (hi : i < z_N) (he : z_E E i (σ i) = .inr (ci, fs)) (hj : j < N) (hlink : Cond.fieldLink own index (T j).1 (T j).2.1 (T j).2.2.1 ∈ lw_good) (hfin : (T j).2.2.2 = false) (hty : ty j = .int) (hl2 : j < fs.length) (he2 : z_E E i (upd (σ i) j x) = .inr (ci, fs.set j (.int x))) (hd : decode cc pc = .ok (.putfield index, 3)) (k : ∀ σ1, σ1 = zu σ i j x → zJg E Γ R nL Q cx sx (K2 σ1) σ1 (pc + 3) lv rest) : zJg E Γ R nL Q cx sx (zlet (zu σ i j x) K2) σ pc lv (.int x :: .ref (zad E i) :: rest) := by
  obtain ⟨p, e, s, m, args, below, meth, c⟩ := Γ
  obtain ⟨hx, hb, hml, hr, hown, hts, hK, hAp, hlk⟩ := C
  intro z hz H locs ls hP hS hl
  refine va_put (D := zD E) (ty := .int) hx hb hts K.1 ty K.2.2.1 K.2.2.2 hown hK.1 hP (zW_D hAp σ) hS i (by rw [zW_at hi, he]) K.2.1 j hj (hts _ hlink) (fun _ h => h) hfin (by rw [K.2.2.1 j hj, hty]) rfl rfl hl2 hd (fun H1 locs1 hP1 hD1 hS1 => ?_)
  rw [← he2, zW_set hi] at hP1
  exact k _ rfl z hz H1 locs1 ls hP1 hS1 hl
theorem r_putN {ci N index : Nat} {Cn : String} {T : u_T} {ty : Nat → FieldType} {x : Int32} {fs : List Value} {host : String} (C : zO E Γ own cc nL ret) (K : zCl ci Cn T N ty) (i j : Nat) (hi : i < z_N) (he : z_E E i (σ i) = .inr (ci, fs)) (hj : j < N) (hlink : Cond.fieldLinkNest own index (T j).1 (T j).2.1 (T j).2.2.1 host ∈ z_nest) (hfin : (T j).2.2.2 = false) (hty : ty j = .int) (hl2 : j < fs.length) (he2 : z_E E i (upd (σ i) j x) = .inr (ci, fs.set j (.int x))) (hd : decode cc pc = .ok (.putfield index, 3)) (k : ∀ σ1, σ1 = zu σ i j x → zJg E Γ R nL Q cx sx (K2 σ1) σ1 (pc + 3) lv rest) : zJg E Γ R nL Q cx sx (zlet (zu σ i j x) K2) σ pc lv (.int x :: .ref (zad E i) :: rest) := by
  obtain ⟨p, e, s, m, args, below, meth, c⟩ := Γ
  obtain ⟨hx, hb, hml, hr, hown, hts, hK, hAp, hlk⟩ := C
  intro z hz H locs ls hP hS hl
  refine va_putN (D := zD E) (ty := .int) hx hb hts K.1 ty K.2.2.1 K.2.2.2 hown hK.1 hP (zW_D hAp σ) hS i (by rw [zW_at hi, he]) K.2.1 j hj (va_Nw.use rfl (hK.2.1 _ hlink)) (fun _ h => h) hfin (by rw [K.2.2.1 j hj, hty]) rfl rfl hl2 hd (fun H1 locs1 hP1 hD1 hS1 => ?_)
  rw [← he2, zW_set hi] at hP1
  exact k _ rfl z hz H1 locs1 ls hP1 hS1 hl
theorem r_gets {index n : Nat} {Cn f d : String} {t : Nat} {g : Nat → Value} (C : zO E Γ own cc nL ret) (hq : (Cn, f, d, t, n, g) ∈ z_stat E) (hlink : Cond.fieldLink own index Cn f d ∈ lw_good) (hd : decode cc pc = .ok (.getstatic index, 3)) (k : zJg E Γ R nL Q cx sx P σ (pc + 3) lv (.ref t :: rest)) : zJg E Γ R nL Q cx sx P σ pc lv rest := by
  obtain ⟨p, e, s, m, args, below, meth, c⟩ := Γ
  obtain ⟨hx, hb, hml, hr, hown, hts, hK, hAp, hlk⟩ := C
  intro z hz H locs ls hP hS hl
  exact va_gets hx hb (hK.2.2.1 _ hq).1 hS hown (hts _ hlink) (fun _ h => h) hd (k z hz H locs ls hP hS hl)
theorem r_getsN {index n : Nat} {Cn f d host : String} {t : Nat} {g : Nat → Value} (C : zO E Γ own cc nL ret) (hq : (Cn, f, d, t, n, g) ∈ z_stat E) (hlink : Cond.fieldLinkNest own index Cn f d host ∈ z_nest) (hd : decode cc pc = .ok (.getstatic index, 3)) (k : zJg E Γ R nL Q cx sx P σ (pc + 3) lv (.ref t :: rest)) : zJg E Γ R nL Q cx sx P σ pc lv rest := by
  obtain ⟨p, e, s, m, args, below, meth, c⟩ := Γ
  obtain ⟨hx, hb, hml, hr, hown, hts, hK, hAp, hlk⟩ := C
  intro z hz H locs ls hP hS hl
  exact va_getsN hx hb (hK.2.2.1 _ hq).1 hS hown (va_Nw.use rfl (hK.2.1 _ hlink)) (fun _ h => h) hd (k z hz H locs ls hP hS hl)
theorem r_tload {n : Nat} {Cn f d : String} {t : Nat} {g : Nat → Int32} {i : Int32} (C : zO E Γ own cc nL ret) (hq : (Cn, f, d, t, n, (fun j => Value.int (g j))) ∈ z_stat E) (hd : decode cc pc = .ok (.iaload, 1)) (k : zJg E Γ R nL Q cx sx P σ (pc + 1) lv (.int (g i.toNatClampNeg) :: rest)) : zJg E Γ R nL Q cx sx (zc i n P) σ pc lv (.int i :: .ref t :: rest) := by
  obtain ⟨p, e, s, m, args, below, meth, c⟩ := Γ
  obtain ⟨hx, hb, hml, hr, hown, hts, hK, hAp, hlk⟩ := C
  intro z hz H locs ls hP hS hl
  obtain ⟨h0, hz⟩ := zc_some hz
  exact va_ti hx hb (hK.2.2.1 _ hq).2 hS h0 rfl hd (k z hz H locs ls hP hS hl)
theorem r_tlen {n : Nat} {Cn f d : String} {t : Nat} {g : Nat → Value} {v : Int32} (C : zO E Γ own cc nL ret) (hq : (Cn, f, d, t, n, g) ∈ z_stat E) (hv : Int32.ofNat n = v) (hd : decode cc pc = .ok (.arraylength, 1)) (k : zJg E Γ R nL Q cx sx P σ (pc + 1) lv (.int v :: rest)) : zJg E Γ R nL Q cx sx P σ pc lv (.ref t :: rest) := by
  obtain ⟨p, e, s, m, args, below, meth, c⟩ := Γ
  obtain ⟨hx, hb, hml, hr, hown, hts, hK, hAp, hlk⟩ := C
  intro z hz H locs ls hP hS hl
  exact va_tlen hx hb (hK.2.2.1 _ hq).2 hS hv hd (k z hz H locs ls hP hS hl)
theorem r_iald {n t0 : Nat} {cA : ClassId} {x : Int32} (C : zO E Γ own cc nL ret) (i : Nat) (hi : i < z_N) (he : z_E E i (σ i) = .inl (cA, n, .inl (σ i))) (ht : (z_ty E)[t0]? = some (cA, .int)) (hd : decode cc pc = .ok (.iaload, 1)) (k : zJg E Γ R nL Q cx sx P σ (pc + 1) lv (.int (σ i x.toNatClampNeg) :: rest)) : zJg E Γ R nL Q cx sx (zc x n P) σ pc lv (.int x :: .ref (zad E i) :: rest) := by
  obtain ⟨p, e, s, m, args, below, meth, c⟩ := Γ
  obtain ⟨hx, hb, hml, hr, hown, hts, hK, hAp, hlk⟩ := C
  intro z hz H locs ls hP hS hl
  obtain ⟨h0, hz⟩ := zc_some hz
  exact va_iald (D := zD E) hx hb hK.1 hP i t0 (by rw [zW_at hi, he]) ht h0 hd (k z hz H locs ls hP hS hl)
theorem r_zald {n t0 : Nat} {cA : ClassId} {x : Int32} (C : zO E Γ own cc nL ret) (i : Nat) (hi : i < z_N) (he : z_E E i (σ i) = .inl (cA, n, .inl (σ i))) (ht : (z_ty E)[t0]? = some (cA, .boolean)) (hd : decode cc pc = .ok (.baload, 1)) (k : zJg E Γ R nL Q cx sx P σ (pc + 1) lv (.int (σ i x.toNatClampNeg) :: rest)) : zJg E Γ R nL Q cx sx (zc x n P) σ pc lv (.int x :: .ref (zad E i) :: rest) := by
  obtain ⟨p, e, s, m, args, below, meth, c⟩ := Γ
  obtain ⟨hx, hb, hml, hr, hown, hts, hK, hAp, hlk⟩ := C
  intro z hz H locs ls hP hS hl
  obtain ⟨h0, hz⟩ := zc_some hz
  exact va_zald (D := zD E) hx hb hK.1 hP i t0 (by rw [zW_at hi, he]) ht h0 hd (k z hz H locs ls hP hS hl)
theorem r_iast {n t0 : Nat} {cA : ClassId} {x y : Int32} (C : zO E Γ own cc nL ret) (i : Nat) (hi : i < z_N) (he : z_E E i (σ i) = .inl (cA, n, .inl (σ i))) (he2 : ∀ f, z_E E i f = .inl (cA, n, .inl f)) (ht : (z_ty E)[t0]? = some (cA, .int)) (hd : decode cc pc = .ok (.iastore, 1)) (k : ∀ σ1, σ1 = zu σ i y.toNatClampNeg x → zJg E Γ R nL Q cx sx (K2 σ1) σ1 (pc + 1) lv rest) : zJg E Γ R nL Q cx sx (zc y n (zlet (zu σ i y.toNatClampNeg x) K2)) σ pc lv (.int x :: .int y :: .ref (zad E i) :: rest) := by
  obtain ⟨p, e, s, m, args, below, meth, c⟩ := Γ
  obtain ⟨hx, hb, hml, hr, hown, hts, hK, hAp, hlk⟩ := C
  intro z hz H locs ls hP hS hl
  obtain ⟨h0, hz⟩ := zc_some hz
  refine va_iast (D := zD E) hx hb hK.1 hP (zW_D hAp σ) hS i t0 (by rw [zW_at hi, he]) ht h0 hd (fun H1 locs1 hP1 hD1 hS1 => ?_)
  rw [← he2, zW_set hi] at hP1
  exact k _ rfl z hz H1 locs1 ls hP1 hS1 hl
theorem r_zast {n t0 : Nat} {cA : ClassId} {x y : Int32} (C : zO E Γ own cc nL ret) (i : Nat) (hi : i < z_N) (he : z_E E i (σ i) = .inl (cA, n, .inl (σ i))) (he2 : ∀ f, z_E E i f = .inl (cA, n, .inl f)) (ht : (z_ty E)[t0]? = some (cA, .boolean)) (hd : decode cc pc = .ok (.bastore, 1)) (k : ∀ σ1, σ1 = zu σ i y.toNatClampNeg (vp_nar .boolean x) → zJg E Γ R nL Q cx sx (K2 σ1) σ1 (pc + 1) lv rest) : zJg E Γ R nL Q cx sx (zc y n (zlet (zu σ i y.toNatClampNeg (vp_nar .boolean x)) K2)) σ pc lv (.int x :: .int y :: .ref (zad E i) :: rest) := by
  obtain ⟨p, e, s, m, args, below, meth, c⟩ := Γ
  obtain ⟨hx, hb, hml, hr, hown, hts, hK, hAp, hlk⟩ := C
  intro z hz H locs ls hP hS hl
  obtain ⟨h0, hz⟩ := zc_some hz
  refine va_zast (D := zD E) hx hb hK.1 hP (zW_D hAp σ) hS i t0 (by rw [zW_at hi, he]) ht h0 hd (fun H1 locs1 hP1 hD1 hS1 => ?_)
  rw [← he2, zW_set hi] at hP1
  exact k _ rfl z hz H1 locs1 ls hP1 hS1 hl
theorem r_alen {n t0 : Nat} {cA : ClassId} {v : Int32} {ty : FieldType} {q : (Nat → Int32) ⊕ (Nat → Int64) ⊕ (Nat → UInt32) ⊕ (Nat → UInt64) ⊕ (Nat → Option Nat)} (C : zO E Γ own cc nL ret) (i : Nat) (hi : i < z_N) (he : z_E E i (σ i) = .inl (cA, n, q)) (ht : (z_ty E)[t0]? = some (cA, ty)) (hv : Int32.ofNat n = v) (hd : decode cc pc = .ok (.arraylength, 1)) (k : zJg E Γ R nL Q cx sx P σ (pc + 1) lv (.int v :: rest)) : zJg E Γ R nL Q cx sx P σ pc lv (.ref (zad E i) :: rest) := by
  obtain ⟨p, e, s, m, args, below, meth, c⟩ := Γ
  obtain ⟨hx, hb, hml, hr, hown, hts, hK, hAp, hlk⟩ := C
  intro z hz H locs ls hP hS hl
  exact va_alen (D := zD E) hx hb hK.1 hP i t0 (by rw [zW_at hi, he]) ht hv hd (k z hz H locs ls hP hS hl)
theorem r_aald {n t0 : Nat} {cA : ClassId} {Cn : String} {x : Int32} {g : Nat → Option Nat} (C : zO E Γ own cc nL ret) (i : Nat) (hi : i < z_N) (he : z_E E i (σ i) = .inl (cA, n, .inr (.inr (.inr (.inr g))))) (ht : (z_ty E)[t0]? = some (cA, .object Cn)) (a : Nat) (hg : x.toNatClampNeg < n → g x.toNatClampNeg = some a) (hd : decode cc pc = .ok (.aaload, 1)) (k : x.toNatClampNeg < n → zJg E Γ R nL Q cx sx P σ (pc + 1) lv (.ref a :: rest)) : zJg E Γ R nL Q cx sx (zc x n P) σ pc lv (.int x :: .ref (zad E i) :: rest) := by
  obtain ⟨p, e, s, m, args, below, meth, c⟩ := Γ
  obtain ⟨hx, hb, hml, hr, hown, hts, hK, hAp, hlk⟩ := C
  intro z hz H locs ls hP hS hl
  obtain ⟨h0, hz⟩ := zc_some hz
  have h9 : x.toNatClampNeg < n := Nat.not_le.mp fun q => h0 (Or.inr q)
  refine va_aldq (D := zD E) hx hb hK.1 hP i t0 (by rw [zW_at hi, he]) ht h0 hd ?_
  rw [hg h9]
  exact k h9 z hz H locs ls hP hS hl
theorem zrun {R : Room} {Γ : zX} {pc : Nat} {lv : List (Option Value)} {st rest : List Value} {ρ' : Type} {rv' : ρ' → Option Value} {q : Option (ρ' × zS)} {K : ρ' → zS → Option (ρ × zS)} {free : Addr → Prop} {a : Array Value}
    (hf : ∀ x, free x → zA E x)
    (run : ∀ z', q = some z' → match Γ with | (p, e, s, m, args, below, meth, c) => ∀ (H : Heap) (locs : List Loc) (ls : Array Slot), va_P (zD E) z_cl (zW E σ) H → va_S (zA E) s.heap H locs → zL ls nL lv → va_Run p (zl E) e R s m args below meth c H locs cx sx 0 0 (F0 m pc ls st) rest (zQ E (rv' z'.1) z'.2 a) free)
    (k : ∀ r σ1, q = some (r, σ1) → zJg E Γ R nL Q cx sx (K r σ1) σ1 (pc + 3) lv ((rv' r).toList ++ rest)) : zJg E Γ R nL Q cx sx (zbind q K) σ pc lv st := by
  obtain ⟨p, e, s, m, args, below, meth, c⟩ := Γ
  intro z hz H locs ls hP hS hl
  obtain ⟨r, σ1, hq, hz⟩ := zb_some hz
  intro T hT X
  obtain ⟨v, st₀, t, T', L, h0, X', hL, e1, e2, ⟨hv, hP1, hF⟩, go⟩ := run (r, σ1) hq H locs ls hP hS hl T hT X
  have hv : v = rv' r := by cases hv; rfl
  subst hv
  rw [← e1] at hP1
  have hF1 : H.size ≤ T'.heap.size := by rw [e1, ← h0]; exact hF.1
  have hF2 : ∀ x : Nat, x < H.size → ¬ zA E x → T'.heap[x]? = H[x]? := fun x h1 h2 => by rw [e1, ← h0]; exact hF.2 x (by rw [h0]; exact h1) h2
  obtain ⟨t2, a1, b1⟩ := k r σ1 hq z hz T'.heap (locs ++ L) ls hP1 ⟨Nat.le_trans hS.1 hF1, fun x h1 h2 => (hF2 x (Nat.lt_of_lt_of_le h1 hS.1) h2).trans (hS.2.1 x h1 h2), fun x hx => by
      rcases List.mem_append.mp hx with h | h
      · exact hS.2.2 x h
      · exact hf _ (hL x h)⟩ hl T' rfl X'
  exact ⟨t2, go t2 a1, b1⟩
theorem zPre {E : zG} {s U : State} {H : Heap} {locs : List Loc} {σ : zS} (av : List Value) (hK : zK E s) (hP : va_P (zD E) z_cl (zW E σ) H) (hS : va_S (zA E) s.heap H locs) (hU : U.heap = H) (hW : s.WarmedH U.vm) : zPc E σ av av.toArray U :=
  ⟨rfl, by rw [hU]; exact hP, hK.go hW (fun a h1 h2 => by rw [hU]; exact hS.2.1 a h1 h2)⟩
theorem zgood : GoodIn lw_good lw_good := fun w hw => ⟨hw, lw_good_ok w hw⟩
theorem zgoods {y : MethodName} {bytes : ByteArray} {maxL : Nat} {ret' : Option FieldType} (h : Cond.code y bytes maxL ret' ∈ lw_good) : GoodIn lw_good (zws y bytes maxL ret') := fun w hw => by
  rcases List.mem_cons.mp hw with e | e
  · rw [e]; exact ⟨h, lw_good_ok _ h⟩
  · exact ⟨e, lw_good_ok w e⟩
theorem r_callV {y : MethodName} {bytes : ByteArray} {maxL index n : Nat} {ret' : Option FieldType} {rm : Room} {ρ' : Type} {rv' : ρ' → Option Value} {q : Option (ρ' × zS)} {K : ρ' → zS → Option (ρ × zS)} {As : List Value} {ci : Nat} {fs : List Value} {cq : vw_C} (C : zO E Γ own cc nL ret) (i : Nat) (hM : zM E y bytes maxL ret' rm rv' (.ref (zad E i) :: As) q σ) (hc : Cond.code y bytes maxL ret' ∈ lw_good) (hini : Cond.initialized y.cls ∈ lw_good) (hlink : Cond.methodLink own index y ∈ lw_good) (hinst : Cond.instanceMethod y ∈ lw_good) (hsel : Cond.selects y.cls y y ∈ lw_good) (hd2 : y.cls ≠ "java/lang/invoke/MethodHandle" ∧ y.cls ≠ "java/lang/invoke/VarHandle" ∧ (parseMethodDescriptor y.desc).map (fun d => d.parameters.length) = some n) (hn : As.length = n) (hrc : rm.cells = 0 ∧ rm.slots = 0) (hR : rm.frames + 1 ≤ R.frames ∧ 8 + (maxL + 11) + rm.locals ≤ R.locals) (hi : i < z_N) (he : z_E E i (σ i) = .inr (ci, fs)) (hcq : z_cl[ci]? = some cq) (hcn : cq.1 = y.cls) (hst : (rest.map fun v => v.category).sum ≤ 8) (hcs : cx ≤ R.cells ∧ sx ≤ R.slots) (hd : decode cc pc = .ok (.invokevirtual index, 3)) (k : ∀ r σ1, q = some (r, σ1) → zJg E Γ R nL Q cx sx (K r σ1) σ1 (pc + 3) lv ((rv' r).toList ++ rest)) : zJg E Γ R nL Q cx sx (zbind q K) σ pc lv (As.reverse ++ .ref (zad E i) :: rest) := by
  refine zrun (a := (Value.ref (zad E i) :: As).toArray) (free := zA E) (fun _ h => h) (fun z' hq => ?_) k
  obtain ⟨p, e, s, m, args, below, meth, c⟩ := Γ
  obtain ⟨hx, hb, hml, hr, hown, hts, hK, hAp, hlk⟩ := C
  intro H locs ls hP hS hl
  exact va_runV (Ts := lw_good) (As := As) (C := y.cls) ⟨hx, hb, hml, hown, hts⟩ (hM z' hq) ⟨⟨hrc.1, hrc.2, hR.1, hR.2, pay_in hts (zgoods hc), List.mem_cons_self, hts _ hc, hts _ hini, ⟨hd2.1, hd2.2.1⟩, fun sig h => by have h2 := hd2.2.2; rw [h] at h2; exact (Option.some.inj h2).symm, hts _ hlink⟩, hts _ hinst, hts _ hsel⟩ ⟨zPc_blind, by rw [← hcn]; exact va_recv hK.1 hP hcq (q0 := i) (by rw [zW_at hi, he]), fun U hU hW => zPre (.ref (zad E i) :: As) hK hP hS hU hW⟩ rfl hn hl.1 rfl (lv_room hst) hd hcs
theorem r_callVN {y : MethodName} {bytes : ByteArray} {maxL index n : Nat} {ret' : Option FieldType} {rm : Room} {ρ' : Type} {rv' : ρ' → Option Value} {q : Option (ρ' × zS)} {K : ρ' → zS → Option (ρ × zS)} {As : List Value} {host : String} {ci : Nat} {fs : List Value} {cq : vw_C} (C : zO E Γ own cc nL ret) (i : Nat) (hM : zM E y bytes maxL ret' rm rv' (.ref (zad E i) :: As) q σ) (hc : Cond.code y bytes maxL ret' ∈ lw_good) (hini : Cond.initialized y.cls ∈ lw_good) (hlink : Cond.methodLinkNest own index y host ∈ z_nest) (hinst : Cond.instanceMethod y ∈ lw_good) (hsel : Cond.selects y.cls y y ∈ lw_good) (hd2 : y.cls ≠ "java/lang/invoke/MethodHandle" ∧ y.cls ≠ "java/lang/invoke/VarHandle" ∧ (parseMethodDescriptor y.desc).map (fun d => d.parameters.length) = some n) (hn : As.length = n) (hrc : rm.cells = 0 ∧ rm.slots = 0) (hR : rm.frames + 1 ≤ R.frames ∧ 8 + (maxL + 11) + rm.locals ≤ R.locals) (hi : i < z_N) (he : z_E E i (σ i) = .inr (ci, fs)) (hcq : z_cl[ci]? = some cq) (hcn : cq.1 = y.cls) (hst : (rest.map fun v => v.category).sum ≤ 8) (hcs : cx ≤ R.cells ∧ sx ≤ R.slots) (hd : decode cc pc = .ok (.invokevirtual index, 3)) (k : ∀ r σ1, q = some (r, σ1) → zJg E Γ R nL Q cx sx (K r σ1) σ1 (pc + 3) lv ((rv' r).toList ++ rest)) : zJg E Γ R nL Q cx sx (zbind q K) σ pc lv (As.reverse ++ .ref (zad E i) :: rest) := by
  refine zrun (a := (Value.ref (zad E i) :: As).toArray) (free := zA E) (fun _ h => h) (fun z' hq => ?_) k
  obtain ⟨p, e, s, m, args, below, meth, c⟩ := Γ
  obtain ⟨hx, hb, hml, hr, hown, hts, hK, hAp, hlk⟩ := C
  intro H locs ls hP hS hl
  exact va_runVN (Ts := lw_good) (As := As) (C := y.cls) ⟨hx, hb, hml, hown, hts⟩ (hM z' hq) ⟨⟨⟨hrc.1, hrc.2, hR.1, hR.2, pay_in hts (zgoods hc), List.mem_cons_self⟩, hts _ hc, hts _ hini, ⟨hd2.1, hd2.2.1⟩, fun sig h => by have h2 := hd2.2.2; rw [h] at h2; exact (Option.some.inj h2).symm, va_Nw.use rfl (hK.2.1 _ hlink)⟩, hts _ hinst, hts _ hsel⟩ ⟨zPc_blind, by rw [← hcn]; exact va_recv hK.1 hP hcq (q0 := i) (by rw [zW_at hi, he]), fun U hU hW => zPre (.ref (zad E i) :: As) hK hP hS hU hW⟩ rfl hn hl.1 rfl (lv_room hst) hd hcs
theorem r_callS {y : MethodName} {bytes : ByteArray} {maxL index n : Nat} {ret' : Option FieldType} {rm : Room} {ρ' : Type} {rv' : ρ' → Option Value} {q : Option (ρ' × zS)} {K : ρ' → zS → Option (ρ × zS)} {As : List Value} (C : zO E Γ own cc nL ret) (hM : zM E y bytes maxL ret' rm rv' As q σ) (hc : Cond.code y bytes maxL ret' ∈ lw_good) (hini : Cond.initialized y.cls ∈ lw_good) (hlink : Cond.methodLink own index y ∈ lw_good) (hstat : Cond.static y ∈ lw_good) (hd2 : y.cls ≠ "java/lang/invoke/MethodHandle" ∧ y.cls ≠ "java/lang/invoke/VarHandle" ∧ (parseMethodDescriptor y.desc).map (fun d => d.parameters.length) = some n) (hn : As.length = n) (hrc : rm.cells = 0 ∧ rm.slots = 0) (hR : rm.frames + 1 ≤ R.frames ∧ 8 + (maxL + 11) + rm.locals ≤ R.locals) (hst : (rest.map fun v => v.category).sum ≤ 8) (hcs : cx ≤ R.cells ∧ sx ≤ R.slots) (hd : decode cc pc = .ok (.invokestatic index, 3)) (k : ∀ r σ1, q = some (r, σ1) → zJg E Γ R nL Q cx sx (K r σ1) σ1 (pc + 3) lv ((rv' r).toList ++ rest)) : zJg E Γ R nL Q cx sx (zbind q K) σ pc lv (As.reverse ++ rest) := by
  refine zrun (a := As.toArray) (free := zA E) (fun _ h => h) (fun z' hq => ?_) k
  obtain ⟨p, e, s, m, args, below, meth, c⟩ := Γ
  obtain ⟨hx, hb, hml, hr, hown, hts, hK, hAp, hlk⟩ := C
  intro H locs ls hP hS hl
  exact va_runS (Ts := lw_good) (As := As) ⟨hx, hb, hml, hown, hts⟩ (hM z' hq) ⟨⟨hrc.1, hrc.2, hR.1, hR.2, pay_in hts (zgoods hc), List.mem_cons_self, hts _ hc, hts _ hini, ⟨hd2.1, hd2.2.1⟩, fun sig h => by have h2 := hd2.2.2; rw [h] at h2; exact (Option.some.inj h2).symm, hts _ hlink⟩, hts _ hstat⟩ ⟨zPc_blind, fun U hU hW => zPre As hK hP hS hU hW⟩ rfl hn hl.1 rfl (lv_room hst) hd hcs
theorem r_callSN {y : MethodName} {bytes : ByteArray} {maxL index n : Nat} {ret' : Option FieldType} {rm : Room} {ρ' : Type} {rv' : ρ' → Option Value} {q : Option (ρ' × zS)} {K : ρ' → zS → Option (ρ × zS)} {As : List Value} {host : String} (C : zO E Γ own cc nL ret) (hM : zM E y bytes maxL ret' rm rv' As q σ) (hc : Cond.code y bytes maxL ret' ∈ lw_good) (hini : Cond.initialized y.cls ∈ lw_good) (hlink : Cond.methodLinkNest own index y host ∈ z_nest) (hstat : Cond.static y ∈ lw_good) (hd2 : y.cls ≠ "java/lang/invoke/MethodHandle" ∧ y.cls ≠ "java/lang/invoke/VarHandle" ∧ (parseMethodDescriptor y.desc).map (fun d => d.parameters.length) = some n) (hn : As.length = n) (hrc : rm.cells = 0 ∧ rm.slots = 0) (hR : rm.frames + 1 ≤ R.frames ∧ 8 + (maxL + 11) + rm.locals ≤ R.locals) (hst : (rest.map fun v => v.category).sum ≤ 8) (hcs : cx ≤ R.cells ∧ sx ≤ R.slots) (hd : decode cc pc = .ok (.invokestatic index, 3)) (k : ∀ r σ1, q = some (r, σ1) → zJg E Γ R nL Q cx sx (K r σ1) σ1 (pc + 3) lv ((rv' r).toList ++ rest)) : zJg E Γ R nL Q cx sx (zbind q K) σ pc lv (As.reverse ++ rest) := by
  refine zrun (a := As.toArray) (free := zA E) (fun _ h => h) (fun z' hq => ?_) k
  obtain ⟨p, e, s, m, args, below, meth, c⟩ := Γ
  obtain ⟨hx, hb, hml, hr, hown, hts, hK, hAp, hlk⟩ := C
  intro H locs ls hP hS hl
  exact va_runSN (Ts := lw_good) (As := As) ⟨hx, hb, hml, hown, hts⟩ (hM z' hq) ⟨⟨⟨hrc.1, hrc.2, hR.1, hR.2, pay_in hts (zgoods hc), List.mem_cons_self⟩, hts _ hc, hts _ hini, ⟨hd2.1, hd2.2.1⟩, fun sig h => by have h2 := hd2.2.2; rw [h] at h2; exact (Option.some.inj h2).symm, va_Nw.use rfl (hK.2.1 _ hlink)⟩, hts _ hstat, trivial⟩ ⟨zPc_blind, fun U hU hW => zPre As hK hP hS hU hW⟩ rfl hn hl.1 rfl (lv_room hst) hd hcs
theorem r_mmax {x y : Int32} {index : Nat} (C : zO E Γ own cc nL ret) (hlink : Cond.methodLink own index Lib.Math.max.name ∈ lw_good) (hstat : Cond.static Lib.Math.max.name ∈ lw_good) (hini : Cond.initialized "java/lang/Math" ∈ lw_good) (hcode : Cond.code Lib.Math.max.name Lib.Math.max.code 2 (some .int) ∈ lw_good) (hR : 1 ≤ R.frames) (hR2 : (rest.map fun v => v.category).sum + 13 ≤ R.locals) (hcs : cx ≤ R.cells ∧ sx ≤ R.slots) (hd : decode cc pc = .ok (.invokestatic index, 3)) (k : zJg E Γ R nL Q cx sx P σ (pc + 3) lv (.int (if x < y then y else x) :: rest)) : zJg E Γ R nL Q cx sx P σ pc lv (.int y :: .int x :: rest) := by
  obtain ⟨p, e, s, m, args, below, meth, c⟩ := Γ
  obtain ⟨hx, hb, hml, hr, hown, hts, hK, hAp, hlk⟩ := C
  intro z hz H locs ls hP hS hl
  exact va_mmax hx hb (hml.trans hl.1.symm) hown (hts _ hlink) (hts _ hstat) (hts _ hini) (hts _ hcode) hR hR2 hcs.1 hcs.2 hd (k z hz H locs ls hP hS hl)
theorem r_mmin {x y : Int32} {index : Nat} (C : zO E Γ own cc nL ret) (hlink : Cond.methodLink own index Lib.Math.min.name ∈ lw_good) (hstat : Cond.static Lib.Math.min.name ∈ lw_good) (hini : Cond.initialized "java/lang/Math" ∈ lw_good) (hcode : Cond.code Lib.Math.min.name Lib.Math.min.code 2 (some .int) ∈ lw_good) (hR : 1 ≤ R.frames) (hR2 : (rest.map fun v => v.category).sum + 13 ≤ R.locals) (hcs : cx ≤ R.cells ∧ sx ≤ R.slots) (hd : decode cc pc = .ok (.invokestatic index, 3)) (k : zJg E Γ R nL Q cx sx P σ (pc + 3) lv (.int (if y < x then y else x) :: rest)) : zJg E Γ R nL Q cx sx P σ pc lv (.int y :: .int x :: rest) := by
  obtain ⟨p, e, s, m, args, below, meth, c⟩ := Γ
  obtain ⟨hx, hb, hml, hr, hown, hts, hK, hAp, hlk⟩ := C
  intro z hz H locs ls hP hS hl
  exact va_mmin hx hb (hml.trans hl.1.symm) hown (hts _ hlink) (hts _ hstat) (hts _ hini) (hts _ hcode) hR hR2 hcs.1 hcs.2 hd (k z hz H locs ls hP hS hl)
theorem r_mabs {x : Int32} {index : Nat} (C : zO E Γ own cc nL ret) (hlink : Cond.methodLink own index Lib.Math.abs.name ∈ lw_good) (hstat : Cond.static Lib.Math.abs.name ∈ lw_good) (hini : Cond.initialized "java/lang/Math" ∈ lw_good) (hcode : Cond.code Lib.Math.abs.name Lib.Math.abs.code 1 (some .int) ∈ lw_good) (hR : 1 ≤ R.frames) (hR2 : (rest.map fun v => v.category).sum + 13 ≤ R.locals) (hcs : cx ≤ R.cells ∧ sx ≤ R.slots) (hd : decode cc pc = .ok (.invokestatic index, 3)) (k : zJg E Γ R nL Q cx sx P σ (pc + 3) lv (.int (if 0 ≤ x then x else 0 - x) :: rest)) : zJg E Γ R nL Q cx sx P σ pc lv (.int x :: rest) := by
  obtain ⟨p, e, s, m, args, below, meth, c⟩ := Γ
  obtain ⟨hx, hb, hml, hr, hown, hts, hK, hAp, hlk⟩ := C
  intro z hz H locs ls hP hS hl
  exact va_mabs hx hb (hml.trans hl.1.symm) hown (hts _ hlink) (hts _ hstat) (hts _ hini) (hts _ hcode) hR hR2 hcs.1 hcs.2 hd (k z hz H locs ls hP hS hl)
theorem r_acopy {index n0 n1 t0 t1 : Nat} {c0 c1 : ClassId} {sp dp n : Int32} (C : zO E Γ own cc nL ret) (i0 i1 : Nat) (hi0 : i0 < z_N) (hi1 : i1 < z_N) (he0 : z_E E i0 (σ i0) = .inl (c0, n0, .inl (σ i0))) (he1 : ∀ f, z_E E i1 f = .inl (c1, n1, .inl f)) (ht0 : (z_ty E)[t0]? = some (c0, .int)) (ht1 : (z_ty E)[t1]? = some (c1, .int)) (hlink : Cond.methodLink own index arraycopyName ∈ lw_good) (hnat : Cond.native arraycopyName ∈ lw_good) (hstat : Cond.static arraycopyName ∈ lw_good) (hini : Cond.initialized "java/lang/System" ∈ lw_good) (hR : 1 ≤ R.frames) (hR2 : (rest.map fun v => v.category).sum + (nativeFrameWords "java/lang/System" "arraycopy" 5 + 11) ≤ R.locals) (hd : decode cc pc = .ok (.invokestatic index, 3)) (k : ∀ σ1, σ1 = zr σ i1 (va_cpy (σ i0) (σ i1) sp.toNatClampNeg dp.toNatClampNeg n.toNatClampNeg) → zJg E Γ R nL Q cx sx (K2 σ1) σ1 (pc + 3) lv rest) : zJg E Γ R nL Q cx sx (zcp sp dp n n0 n1 (zlet (zr σ i1 (va_cpy (σ i0) (σ i1) sp.toNatClampNeg dp.toNatClampNeg n.toNatClampNeg)) K2)) σ pc lv (.int n :: .int dp :: .ref (zad E i1) :: .int sp :: .ref (zad E i0) :: rest) := by
  obtain ⟨p, e, s, m, args, below, meth, c⟩ := Γ
  obtain ⟨hx, hb, hml, hr, hown, hts, hK, hAp, hlk⟩ := C
  intro z hz H locs ls hP hS hl
  obtain ⟨h1, h2, h3, h4, h5, hz⟩ := zcp_some hz
  refine va_copyi (D := zD E) (ty := .int) hx hb (hml.trans hl.1.symm) hown (hts _ hlink) (hts _ hnat) (hts _ hstat) (hts _ hini) hK.1 hP (zW_D hAp σ) hS i0 i1 t0 t1 (by rw [zW_at hi0, he0]) (by rw [zW_at hi1, he1]) ht0 ht1 rfl h1 h2 h3 h4 h5 (fun _ _ => rfl) hR hR2 hd (fun H1 locs1 hP1 hD1 hS1 => ?_)
  rw [← he1, zW_set hi1] at hP1
  exact k _ rfl z hz H1 locs1 ls hP1 hS1 hl
theorem r_iret {v : Int32} (C : zO E Γ own cc nL (some .int)) (hd : decode cc pc = .ok (.ireturn, 1)) : zJ E Γ R nL (fun r : Int32 => some (.int r)) (some (v, σ)) σ pc lv [.int v] := by
  obtain ⟨p, e, s, m, args, below, meth, c⟩ := Γ
  obtain ⟨hx, hb, hml, hr, hown, hts, hK, hAp, hlk⟩ := C
  intro z hz H locs ls hP hS hl
  cases hz
  exact W.iret hx hb hr (fun t ht hW => ⟨rfl, by rw [ht]; exact hP, hS.F ht⟩) hS.2.2 hd hlk
theorem r_zret {v : Int32} (C : zO E Γ own cc nL (some .boolean)) (hn : narrow .boolean (.int v) = .int v) (hd : decode cc pc = .ok (.ireturn, 1)) : zJ E Γ R nL (fun r : Int32 => some (.int r)) (some (v, σ)) σ pc lv [.int v] := by
  obtain ⟨p, e, s, m, args, below, meth, c⟩ := Γ
  obtain ⟨hx, hb, hml, hr, hown, hts, hK, hAp, hlk⟩ := C
  intro z hz H locs ls hP hS hl
  cases hz
  exact W.zret hx hb hr hn (fun t ht hW => ⟨rfl, by rw [ht]; exact hP, hS.F ht⟩) hS.2.2 hd hlk
theorem r_vret (C : zO E Γ own cc nL none) (hd : decode cc pc = .ok (.return_, 1)) : zJ E Γ R nL (fun _ : Unit => none) (some ((), σ)) σ pc lv [] := by
  obtain ⟨p, e, s, m, args, below, meth, c⟩ := Γ
  obtain ⟨hx, hb, hml, hr, hown, hts, hK, hAp, hlk⟩ := C
  intro z hz H locs ls hP hS hl
  cases hz
  exact W.vret hx hb hr (fun t ht hW => ⟨rfl, by rw [ht]; exact hP, hS.F ht⟩) hS.2.2 hd hlk
theorem r_aret {rt : String} {v : Nat} {rv : Option Nat → Option Value} {a : Nat} (C : zO E Γ own cc nL (some (.object rt))) (hrv : rv (some v) = some (.ref a)) (hd : decode cc pc = .ok (.areturn, 1)) : zJ E Γ R nL rv (some (some v, σ)) σ pc lv [.ref a] := by
  obtain ⟨p, e, s, m, args, below, meth, c⟩ := Γ
  obtain ⟨hx, hb, hml, hr, hown, hts, hK, hAp, hlk⟩ := C
  intro z hz H locs ls hP hS hl
  cases hz
  exact W.aret hx hb hr (Or.inl ⟨_, rfl⟩) (Or.inr ⟨_, rfl⟩) (fun t ht hW => ⟨by rw [hrv], by rw [ht]; exact hP, hS.F ht⟩) hS.2.2 hd hlk
theorem r_aretN {rt : String} {rv : Option Nat → Option Value} (C : zO E Γ own cc nL (some (.object rt))) (hrv : rv none = some .null) (hd : decode cc pc = .ok (.areturn, 1)) : zJ E Γ R nL rv (some (none, σ)) σ pc lv [.null] := by
  obtain ⟨p, e, s, m, args, below, meth, c⟩ := Γ
  obtain ⟨hx, hb, hml, hr, hown, hts, hK, hAp, hlk⟩ := C
  intro z hz H locs ls hP hS hl
  cases hz
  exact W.aret hx hb hr (Or.inl ⟨_, rfl⟩) (Or.inl rfl) (fun t ht hW => ⟨by rw [hrv], by rw [ht]; exact hP, hS.F ht⟩) hS.2.2 hd hlk
theorem r_leti {x : Int32} {K : Int32 → Option (ρ × zS)} (k : ∀ y, zJg E Γ R nL Q cx sx (K y) σ pc lv (.int y :: rest)) : zJg E Γ R nL Q cx sx (zlet x K) σ pc lv (.int x :: rest) := k x
theorem r_op {r : Option Nat} {N b : Nat} {K : Nat → Option (ρ × zS)} (k1 : r = none → zJg E Γ R nL Q cx sx P σ pc lv (.null :: rest)) (k2 : ∀ i, i < N → r = some i → zJg E Γ R nL Q cx sx (K i) σ pc lv (.ref (zad E (b + 2 * i)) :: rest)) : zJg E Γ R nL Q cx sx (zop r N P K) σ pc lv ((zrf E b r).toList ++ rest) := by
  cases r with
  | none => exact k1 rfl
  | some i =>
    show zJg E Γ R nL Q cx sx (if i < N then K i else none) σ pc lv (.ref (zad E (b + 2 * i)) :: rest)
    by_cases h : i < N
    · rw [if_pos h]; exact k2 i h rfl
    · rw [if_neg h]
      obtain ⟨p, e, s, m, args, below, meth, c⟩ := Γ
      intro z hz
      cases hz
theorem r_none : zJg E Γ R nL Q cx sx none σ pc lv rest := by
  obtain ⟨p, e, s, m, args, below, meth, c⟩ := Γ
  intro z hz
  cases hz
theorem zJ_if {q : Prop} [Decidable q] (h : q) (k : zJg E Γ R nL Q cx sx (if q then P else P2) σ pc lv rest) : zJg E Γ R nL Q cx sx P σ pc lv rest := by
  rw [if_pos h] at k
  exact k
theorem zJ_nif {q : Prop} [Decidable q] (h : ¬ q) (k : zJg E Γ R nL Q cx sx (if q then P1 else P) σ pc lv rest) : zJg E Γ R nL Q cx sx P σ pc lv rest := by
  rw [if_neg h] at k
  exact k
theorem zJ_zc {i : Int32} {n : Nat} (h : vp_in i n) (k : zJg E Γ R nL Q cx sx (zc i n P) σ pc lv rest) : zJg E Γ R nL Q cx sx P σ pc lv rest := by
  rw [zc_in h] at k
  exact k
theorem zJ_zcl {i : Int32} {n : Nat} {α : Type} (a : α) (h : vp_in i n) (k : zJg E Γ R nL Q cx sx (zc i n (zlet a (fun _ => P))) σ pc lv rest) : zJg E Γ R nL Q cx sx P σ pc lv rest := by
  rw [zc_in h] at k
  exact k
theorem r_mask {lv' : List (Option Value)} (mk : List Bool) (h : zmask lv mk = lv') (k : zJg E Γ R nL Q cx sx P σ pc lv' rest) : zJg E Γ R nL Q cx sx P σ pc lv rest := by
  subst h
  obtain ⟨p, e, s, m, args, below, meth, c⟩ := Γ
  intro z hz H locs ls hP hS hl
  exact k z hz H locs ls hP hS ⟨hl.1, hl.2.1, fun i v hv => hl.2.2 i v (zmask_at lv mk i v hv)⟩
end zRows
theorem zargs {n : Nat} : ∀ (av : List Value) (k i : Nat) (v : Value), av.all (fun v => v.category == 1) = true → (av.map some ++ List.replicate n none)[i]? = some (some v) → (k + i, v) ∈ lv_args k av ∧ v.category = 1
  | [], k, i, v, _, h => by
    rw [List.map_nil, List.nil_append, List.getElem?_replicate] at h
    split at h
    · cases h
    · cases h
  | a :: av, k, 0, v, hc, h => by
    have e : a = v := by simpa using h
    subst e
    have hc1 : a.category = 1 := by
      have := List.all_eq_true.mp hc a List.mem_cons_self
      simpa using this
    exact ⟨List.mem_cons_self, hc1⟩
  | a :: av, k, i + 1, v, hc, h => by
    have hc1 : a.category = 1 := by
      have := List.all_eq_true.mp hc a List.mem_cons_self
      simpa using this
    have hc2 : av.all (fun v => v.category == 1) = true := by
      rw [List.all_cons, Bool.and_eq_true] at hc
      exact hc.2
    have h2 : (av.map some ++ List.replicate n none)[i]? = some (some v) := by simpa using h
    obtain ⟨q1, q2⟩ := zargs av (k + 1) i v hc2 h2
    refine ⟨?_, q2⟩
    unfold lv_args
    rw [if_neg (by rw [hc1]; decide)]
    refine List.mem_cons_of_mem _ ?_
    rw [show k + (i + 1) = k + 1 + i by omega]
    exact q1
theorem zM_of {E : zG} {y : MethodName} {bytes : ByteArray} {maxL : Nat} {ret : Option FieldType} {rm : Room} {ρ : Type} {rv : ρ → Option Value} {av : List Value} {q : Option (ρ × zS)} {σ : zS} {lv : List (Option Value)} (hAp : zAp E) (hy : plainName y.cls = true) (hlen : (lg_sl av).length ≤ maxL) {nn : Nat} (hcat : av.all (fun v => v.category == 1) = true) (hlv : av.map some ++ List.replicate nn none = lv)
    (k : ∀ Γ : zX, zO E Γ y.cls bytes maxL ret → zJ E Γ rm maxL rv q σ 0 lv []) : zM E y bytes maxL ret rm rv av q σ := by
  intro z hz
  refine Met.ofW (cc := bytes) (maxL := maxL) (ret := ret) hy rfl ?_
  intro p e s m args below meth c s₁ B hml hv
  obtain ⟨rfl, hP, hK⟩ := hv
  have hts0 := atoms_spec (ws := zws y bytes maxL ret) B.pre
  have hown : s.vm.findClass y.cls = some m.cls := findClass_of_methodNamed B.named
  have hl := lv_entry av (n := maxL) hlen
  rw [lg_entry_eq]
  generalize (lg_sl av ++ List.replicate (maxL - (lg_sl av).length) Slot.unset).toArray = ls at hl ⊢
  exact k (p, e, s, m, av.toArray, below, meth, c) ⟨B.exec, B.bytes, hml, B.returns, hown, fun w hw => hts0 w (List.mem_cons_of_mem _ hw), hK, hAp, B.notSynchronized⟩ z hz s.heap [] ls hP va_S.rf ⟨hl.1, hl.2.1, fun i v h => by
      have q := zargs (n := nn) av 0 i v hcat (by rw [hlv]; exact h)
      rw [Nat.zero_add] at q
      exact ⟨hl.2.2 (i, v) q.1, q.2⟩⟩
end
section
theorem lk_f_X0_22 : Cond.fieldLink RX0 22 "ZMemory$Chance" "taped" "I" ∈ lw_good := lg_r13 _ (List.mem_of_getElem? (i := 15) rfl)
theorem lk_f_X0_9 : Cond.fieldLink RX0 9 "ZMemory$Chance" "numbers" "[I" ∈ lw_good := lg_r2 _ (List.mem_of_getElem? (i := 13) rfl)
theorem lk_f_X0_25 : Cond.fieldLink RX0 25 "ZMemory$Chance" "first" "I" ∈ lw_good := lg_r14 _ (List.mem_of_getElem? (i := 0) rfl)
theorem lk_f_X0_15 : Cond.fieldLink RX0 15 "ZMemory$Chance" "way" "I" ∈ lw_good := lg_r2 _ (List.mem_of_getElem? (i := 14) rfl)
theorem lk_f_X0_19 : Cond.fieldLink RX0 19 "ZMemory$Chance" "seed" "I" ∈ lw_good := lg_r2 _ (List.mem_of_getElem? (i := 15) rfl)
theorem lk_f_X0_32 : Cond.fieldLink RX0 32 "ZMemory$Chance" "round" "I" ∈ lw_good := lg_r13 _ (List.mem_of_getElem? (i := 9) rfl)
theorem lk_f_X0_35 : Cond.fieldLink RX0 35 "ZMemory$Chance" "counted" "I" ∈ lw_good := lg_r13 _ (List.mem_of_getElem? (i := 10) rfl)
theorem lk_m_X0_28 : Cond.methodLink RX0 28 yX0_next ∈ lw_good := lg_r13 _ (List.mem_of_getElem? (i := 11) rfl)
theorem lk_m_X0_44 : Cond.methodLink RX0 44 yX0_nextOfSeed ∈ lw_good := lg_r14 _ (List.mem_of_getElem? (i := 1) rfl)
theorem lk_m_X0_41 : Cond.methodLink RX0 41 yX0_nextOfTape ∈ lw_good := lg_r13 _ (List.mem_of_getElem? (i := 20) rfl)
theorem lk_m_X0_38 : Cond.methodLink RX0 38 yX0_nextOfCount ∈ lw_good := lg_r13 _ (List.mem_of_getElem? (i := 16) rfl)
theorem lk_k_X0_47 : Cond.constant RX0 47 (1103515245) ∈ lw_good := lg_r14 _ (List.mem_of_getElem? (i := 5) rfl)
theorem lk_k_X0_48 : Cond.constant RX0 48 (2147483647) ∈ lw_good := lg_r14 _ (List.mem_of_getElem? (i := 6) rfl)
theorem lk_m_X1_15 : Cond.methodLink RX1 15 yX1_hasLocal ∈ lw_good := lg_r19 _ (List.mem_of_getElem? (i := 15) rfl)
theorem lk_f_X1_9 : Cond.fieldLink RX1 9 "ZMemory$Frame" "locals" "[I" ∈ lw_good := lg_r4 _ (List.mem_of_getElem? (i := 9) rfl)
theorem lk_f_X1_19 : Cond.fieldLink RX1 19 "ZMemory$Frame" "localCount" "I" ∈ lw_good := lg_r19 _ (List.mem_of_getElem? (i := 19) rfl)
theorem lk_f_X2_22 : Cond.fieldLink RX2 22 "ZMemory$Frames" "height" "I" ∈ lw_good := lg_r18 _ (List.mem_of_getElem? (i := 18) rfl)
theorem lk_f_X2_26 : Cond.fieldLink RX2 26 "ZMemory$Frames" "count" "I" ∈ lw_good := lg_r18 _ (List.mem_of_getElem? (i := 19) rfl)
theorem lk_f_X2_29 : Cond.fieldLink RX2 29 "ZMemory$Frames" "most" "I" ∈ lw_good := lg_r18 _ (List.mem_of_getElem? (i := 20) rfl)
theorem lk_f_X2_11 : Cond.fieldLink RX2 11 "ZMemory$Frames" "frames" "[LZMemory$Frame;" ∈ lw_good := lg_r4 _ (List.mem_of_getElem? (i := 2) rfl)
theorem lk_fn_X2_32 : Cond.fieldLinkNest RX2 32 "ZMemory$Frame" "locals" "[I" "ZMemory" ∈ z_nest := List.mem_of_getElem? (i := 7) rfl
theorem lk_fn_X2_41 : Cond.fieldLinkNest RX2 41 "ZMemory$Frame" "floor" "I" "ZMemory" ∈ z_nest := List.mem_of_getElem? (i := 12) rfl
theorem lk_m_X2_44 : Cond.methodLink RX2 44 Lib.Math.max.name ∈ lw_good := lg_r19 _ (List.mem_of_getElem? (i := 7) rfl)
theorem lk_m_X2_35 : Cond.methodLink RX2 35 yJ7_fill_53178 ∈ lw_good := lg_r19 _ (List.mem_of_getElem? (i := 10) rfl)
theorem lk_m_X2_50 : Cond.methodLink RX2 50 yX2_top ∈ lw_good := lg_r20 _ (List.mem_of_getElem? (i := 21) rfl)
theorem lk_f_X2_17 : Cond.fieldLink RX2 17 "ZMemory$Frames" "stack" "[I" ∈ lw_good := lg_r4 _ (List.mem_of_getElem? (i := 3) rfl)
theorem lk_f_X3_9 : Cond.fieldLink RX3 9 "ZMemory$Memory" "bytes" "[I" ∈ lw_good := lg_r2 _ (List.mem_of_getElem? (i := 9) rfl)
theorem lk_f_X3_21 : Cond.fieldLink RX3 21 "ZMemory$Memory" "length" "I" ∈ lw_good := lg_r5 _ (List.mem_of_getElem? (i := 22) rfl)
theorem lk_f_X3_25 : Cond.fieldLink RX3 25 "ZMemory$Memory" "dynamic" "I" ∈ lw_good := lg_r5 _ (List.mem_of_getElem? (i := 23) rfl)
theorem lk_m_X3_15 : Cond.methodLink RX3 15 yJ7_fill_53178 ∈ lw_good := lg_r6 _ (List.mem_of_getElem? (i := 0) rfl)
theorem lk_m_X3_28 : Cond.methodLink RX3 28 yX3_isOutside ∈ lw_good := lg_r6 _ (List.mem_of_getElem? (i := 19) rfl)
theorem lk_m_X3_46 : Cond.methodLink RX3 46 yX3_copyInTurn ∈ lw_good := lg_r11 _ (List.mem_of_getElem? (i := 14) rfl)
theorem lk_m_X3_42 : Cond.methodLink RX3 42 yX3_copyAtOnce ∈ lw_good := lg_r11 _ (List.mem_of_getElem? (i := 6) rfl)
theorem lk_m_X3_38 : Cond.methodLink RX3 38 yX3_wipe ∈ lw_good := lg_r11 _ (List.mem_of_getElem? (i := 2) rfl)
theorem lk_m_X3_32 : Cond.methodLink RX3 32 Lib.Math.abs.name ∈ lw_good := lg_r10 _ (List.mem_of_getElem? (i := 23) rfl)
theorem lk_m_X3_49 : Cond.methodLink RX3 49 arraycopyName ∈ lw_good := lg_r11 _ (List.mem_of_getElem? (i := 10) rfl)
theorem lk_m_X3_55 : Cond.methodLink RX3 55 yX3_byteAt ∈ lw_good := lg_r11 _ (List.mem_of_getElem? (i := 18) rfl)
theorem lk_m_X3_58 : Cond.methodLink RX3 58 yX3_setByte ∈ lw_good := lg_r11 _ (List.mem_of_getElem? (i := 19) rfl)
theorem lk_m_X3_65 : Cond.methodLink RX3 65 yX3_wordAt ∈ lw_good := lg_r12 _ (List.mem_of_getElem? (i := 16) rfl)
theorem lk_m_X3_62 : Cond.methodLink RX3 62 Lib.Math.min.name ∈ lw_good := lg_r12 _ (List.mem_of_getElem? (i := 15) rfl)
theorem lk_f_X4_15 : Cond.fieldLink RX4 15 "ZMemory$Page" "length" "I" ∈ lw_good := lg_r23 _ (List.mem_of_getElem? (i := 15) rfl)
theorem lk_f_X4_9 : Cond.fieldLink RX4 9 "ZMemory$Page" "characters" "[I" ∈ lw_good := lg_r4 _ (List.mem_of_getElem? (i := 13) rfl)
theorem lk_m_X4_19 : Cond.methodLink RX4 19 yX4_print ∈ lw_good := lg_r23 _ (List.mem_of_getElem? (i := 11) rfl)
theorem lk_m_X4_23 : Cond.methodLink RX4 23 Lib.Math.abs.name ∈ lw_good := lg_r23 _ (List.mem_of_getElem? (i := 10) rfl)
theorem lk_f_X5_34 : Cond.fieldLink RX5 34 "ZMemory$Program" "length" "I" ∈ lw_good := lg_r16 _ (List.mem_of_getElem? (i := 13) rfl)
theorem lk_f_X5_9 : Cond.fieldLink RX5 9 "ZMemory$Program" "ops" "[I" ∈ lw_good := lg_r2 _ (List.mem_of_getElem? (i := 19) rfl)
theorem lk_f_X5_15 : Cond.fieldLink RX5 15 "ZMemory$Program" "operands" "[I" ∈ lw_good := lg_r2 _ (List.mem_of_getElem? (i := 20) rfl)
theorem lk_f_X5_18 : Cond.fieldLink RX5 18 "ZMemory$Program" "stores" "[I" ∈ lw_good := lg_r2 _ (List.mem_of_getElem? (i := 21) rfl)
theorem lk_f_X5_21 : Cond.fieldLink RX5 21 "ZMemory$Program" "defined" "[Z" ∈ lw_good := lg_r2 _ (List.mem_of_getElem? (i := 23) rfl)
theorem lk_f_X5_25 : Cond.fieldLink RX5 25 "ZMemory$Program" "starts" "[I" ∈ lw_good := lg_r3 _ (List.mem_of_getElem? (i := 0) rfl)
theorem lk_f_X5_28 : Cond.fieldLink RX5 28 "ZMemory$Program" "locals" "[I" ∈ lw_good := lg_r3 _ (List.mem_of_getElem? (i := 1) rfl)
theorem lk_f_X5_31 : Cond.fieldLink RX5 31 "ZMemory$Program" "guards" "[Z" ∈ lw_good := lg_r3 _ (List.mem_of_getElem? (i := 2) rfl)
theorem lk_mn_X5_38 : Cond.methodLinkNest RX5 38 yX7_isWithin "ZMemory" ∈ z_nest := List.mem_of_getElem? (i := 33) rfl
theorem lk_f_X6_12 : Cond.fieldLink RX6 12 "ZMemory$Runner" "frames" "LZMemory$Frames;" ∈ lw_good := lg_r3 _ (List.mem_of_getElem? (i := 10) rfl)
theorem lk_m_X6_48 : Cond.methodLink RX6 48 yX2_begin ∈ lw_good := lg_r18 _ (List.mem_of_getElem? (i := 14) rfl)
theorem lk_f_X6_21 : Cond.fieldLink RX6 21 "ZMemory$Runner" "page" "LZMemory$Page;" ∈ lw_good := lg_r3 _ (List.mem_of_getElem? (i := 14) rfl)
theorem lk_fn_X6_51 : Cond.fieldLinkNest RX6 51 "ZMemory$Page" "length" "I" "ZMemory" ∈ z_nest := List.mem_of_getElem? (i := 15) rfl
theorem lk_f_X6_25 : Cond.fieldLink RX6 25 "ZMemory$Runner" "leavings" "[I" ∈ lw_good := lg_r3 _ (List.mem_of_getElem? (i := 15) rfl)
theorem lk_f_X6_60 : Cond.fieldLink RX6 60 "ZMemory$Runner" "ending" "I" ∈ lw_good := lg_r18 _ (List.mem_of_getElem? (i := 7) rfl)
theorem lk_f_X6_63 : Cond.fieldLink RX6 63 "ZMemory$Runner" "steps" "I" ∈ lw_good := lg_r18 _ (List.mem_of_getElem? (i := 8) rfl)
theorem lk_f_X6_66 : Cond.fieldLink RX6 66 "ZMemory$Runner" "mishaps" "I" ∈ lw_good := lg_r18 _ (List.mem_of_getElem? (i := 9) rfl)
theorem lk_f_X6_69 : Cond.fieldLink RX6 69 "ZMemory$Runner" "returned" "I" ∈ lw_good := lg_r18 _ (List.mem_of_getElem? (i := 10) rfl)
theorem lk_f_X6_72 : Cond.fieldLink RX6 72 "ZMemory$Runner" "unguarded" "I" ∈ lw_good := lg_r18 _ (List.mem_of_getElem? (i := 11) rfl)
theorem lk_f_X6_75 : Cond.fieldLink RX6 75 "ZMemory$Runner" "guarded" "I" ∈ lw_good := lg_r18 _ (List.mem_of_getElem? (i := 12) rfl)
theorem lk_f_X6_78 : Cond.fieldLink RX6 78 "ZMemory$Runner" "arrived" "I" ∈ lw_good := lg_r18 _ (List.mem_of_getElem? (i := 13) rfl)
theorem lk_m_X6_81 : Cond.methodLink RX6 81 yX6_enter ∈ lw_good := lg_r18 _ (List.mem_of_getElem? (i := 22) rfl)
theorem lk_m_X6_54 : Cond.methodLink RX6 54 yJ7_fill_53178 ∈ lw_good := lg_r18 _ (List.mem_of_getElem? (i := 21) rfl)
theorem lk_m_X6_85 : Cond.methodLink RX6 85 yX6_leaveDownTo ∈ lw_good := lg_r22 _ (List.mem_of_getElem? (i := 7) rfl)
theorem lk_f_X6_89 : Cond.fieldLink RX6 89 "ZMemory$Runner" "store" "I" ∈ lw_good := lg_r20 _ (List.mem_of_getElem? (i := 4) rfl)
theorem lk_m_X6_92 : Cond.methodLink RX6 92 yX2_top ∈ lw_good := lg_r20 _ (List.mem_of_getElem? (i := 5) rfl)
theorem lk_fn_X6_96 : Cond.fieldLinkNest RX6 96 "ZMemory$Frame" "next" "I" "ZMemory" ∈ z_nest := List.mem_of_getElem? (i := 10) rfl
theorem lk_f_X6_44 : Cond.fieldLink RX6 44 "ZMemory$Runner" "program" "LZMemory$Program;" ∈ lw_good := lg_r3 _ (List.mem_of_getElem? (i := 20) rfl)
theorem lk_m_X6_101 : Cond.methodLink RX6 101 yX5_opAt ∈ lw_good := lg_r20 _ (List.mem_of_getElem? (i := 9) rfl)
theorem lk_fn_X6_107 : Cond.fieldLinkNest RX6 107 "ZMemory" "OPERANDS" "[I" "ZMemory" ∈ z_nest := List.mem_of_getElem? (i := 27) rfl
theorem lk_fn_X6_116 : Cond.fieldLinkNest RX6 116 "ZMemory$Program" "stores" "[I" "ZMemory" ∈ z_nest := List.mem_of_getElem? (i := 2) rfl
theorem lk_f_X6_29 : Cond.fieldLink RX6 29 "ZMemory$Runner" "values" "[I" ∈ lw_good := lg_r3 _ (List.mem_of_getElem? (i := 16) rfl)
theorem lk_m_X6_119 : Cond.methodLink RX6 119 yX6_carryOut ∈ lw_good := lg_r21 _ (List.mem_of_getElem? (i := 8) rfl)
theorem lk_fn_X6_110 : Cond.fieldLinkNest RX6 110 "ZMemory$Program" "operands" "[I" "ZMemory" ∈ z_nest := List.mem_of_getElem? (i := 1) rfl
theorem lk_m_X6_113 : Cond.methodLink RX6 113 yX6_ask ∈ lw_good := lg_r20 _ (List.mem_of_getElem? (i := 13) rfl)
theorem lk_m_X6_123 : Cond.methodLink RX6 123 yX6_keep ∈ lw_good := lg_r24 _ (List.mem_of_getElem? (i := 1) rfl)
theorem lk_m_X6_126 : Cond.methodLink RX6 126 yX6_raise ∈ lw_good := lg_r24 _ (List.mem_of_getElem? (i := 9) rfl)
theorem lk_m_X6_129 : Cond.methodLink RX6 129 yX6_set ∈ lw_good := lg_r24 _ (List.mem_of_getElem? (i := 5) rfl)
theorem lk_m_X6_143 : Cond.methodLink RX6 143 yX6_goOnIf ∈ lw_good := lg_r21 _ (List.mem_of_getElem? (i := 16) rfl)
theorem lk_mn_X6_133 : Cond.methodLinkNest RX6 133 yX7_number "ZMemory" ∈ z_nest := List.mem_of_getElem? (i := 34) rfl
theorem lk_m_X6_147 : Cond.methodLink RX6 147 yX6_change ∈ lw_good := lg_r21 _ (List.mem_of_getElem? (i := 20) rfl)
theorem lk_f_X6_36 : Cond.fieldLink RX6 36 "ZMemory$Runner" "memory" "LZMemory$Memory;" ∈ lw_good := lg_r3 _ (List.mem_of_getElem? (i := 18) rfl)
theorem lk_m_X6_150 : Cond.methodLink RX6 150 yX3_wordAt ∈ lw_good := lg_r21 _ (List.mem_of_getElem? (i := 7) rfl)
theorem lk_m_X6_140 : Cond.methodLink RX6 140 yX6_tell ∈ lw_good := lg_r21 _ (List.mem_of_getElem? (i := 12) rfl)
theorem lk_m_X6_155 : Cond.methodLink RX6 155 yX3_byteAt ∈ lw_good := lg_r22 _ (List.mem_of_getElem? (i := 0) rfl)
theorem lk_m_X6_158 : Cond.methodLink RX6 158 yX3_setWord ∈ lw_good := lg_r22 _ (List.mem_of_getElem? (i := 1) rfl)
theorem lk_m_X6_162 : Cond.methodLink RX6 162 yX3_setByte ∈ lw_good := lg_r22 _ (List.mem_of_getElem? (i := 2) rfl)
theorem lk_m_X6_165 : Cond.methodLink RX6 165 yX6_giveBack ∈ lw_good := lg_r22 _ (List.mem_of_getElem? (i := 3) rfl)
theorem lk_m_X6_168 : Cond.methodLink RX6 168 yX2_push ∈ lw_good := lg_r22 _ (List.mem_of_getElem? (i := 19) rfl)
theorem lk_m_X6_171 : Cond.methodLink RX6 171 yX2_pop ∈ lw_good := lg_r20 _ (List.mem_of_getElem? (i := 17) rfl)
theorem lk_fn_X6_175 : Cond.fieldLinkNest RX6 175 "ZMemory$Frames" "count" "I" "ZMemory" ∈ z_nest := List.mem_of_getElem? (i := 13) rfl
theorem lk_m_X6_178 : Cond.methodLink RX6 178 yX6_throwTo ∈ lw_good := lg_r22 _ (List.mem_of_getElem? (i := 23) rfl)
theorem lk_m_X6_181 : Cond.methodLink RX6 181 yX3_copyTable ∈ lw_good := lg_r23 _ (List.mem_of_getElem? (i := 3) rfl)
theorem lk_f_X6_32 : Cond.fieldLink RX6 32 "ZMemory$Runner" "form" "I" ∈ lw_good := lg_r3 _ (List.mem_of_getElem? (i := 17) rfl)
theorem lk_m_X6_184 : Cond.methodLink RX6 184 yX3_find ∈ lw_good := lg_r23 _ (List.mem_of_getElem? (i := 4) rfl)
theorem lk_f_X6_40 : Cond.fieldLink RX6 40 "ZMemory$Runner" "chance" "LZMemory$Chance;" ∈ lw_good := lg_r3 _ (List.mem_of_getElem? (i := 19) rfl)
theorem lk_m_X6_187 : Cond.methodLink RX6 187 yX0_draw ∈ lw_good := lg_r23 _ (List.mem_of_getElem? (i := 5) rfl)
theorem lk_m_X6_192 : Cond.methodLink RX6 192 yX4_printNumber ∈ lw_good := lg_r23 _ (List.mem_of_getElem? (i := 6) rfl)
theorem lk_m_X6_195 : Cond.methodLink RX6 195 yX4_print ∈ lw_good := lg_r23 _ (List.mem_of_getElem? (i := 16) rfl)
theorem lk_m_X6_198 : Cond.methodLink RX6 198 yX6_printRows ∈ lw_good := lg_r23 _ (List.mem_of_getElem? (i := 17) rfl)
theorem lk_m_X6_201 : Cond.methodLink RX6 201 yX6_end ∈ lw_good := lg_r22 _ (List.mem_of_getElem? (i := 15) rfl)
theorem lk_mn_X6_136 : Cond.methodLinkNest RX6 136 yX7_arithmetic "ZMemory" ∈ z_nest := List.mem_of_getElem? (i := 35) rfl
theorem lk_mn_X6_204 : Cond.methodLinkNest RX6 204 yX7_word "ZMemory" ∈ z_nest := List.mem_of_getElem? (i := 36) rfl
theorem lk_m_X6_210 : Cond.methodLink RX6 210 yX6_placeOfGlobal ∈ lw_good := lg_r21 _ (List.mem_of_getElem? (i := 2) rfl)
theorem lk_m_X6_207 : Cond.methodLink RX6 207 yX1_local ∈ lw_good := lg_r20 _ (List.mem_of_getElem? (i := 22) rfl)
theorem lk_m_X6_213 : Cond.methodLink RX6 213 yX1_setLocal ∈ lw_good := lg_r19 _ (List.mem_of_getElem? (i := 11) rfl)
theorem lk_f_X6_216 : Cond.fieldLink RX6 216 "ZMemory$Runner" "globe" "I" ∈ lw_good := lg_r21 _ (List.mem_of_getElem? (i := 6) rfl)
theorem lk_m_X6_219 : Cond.methodLink RX6 219 yX5_hasRoutine ∈ lw_good := lg_r19 _ (List.mem_of_getElem? (i := 2) rfl)
theorem lk_m_X6_223 : Cond.methodLink RX6 223 yX2_enter ∈ lw_good := lg_r19 _ (List.mem_of_getElem? (i := 3) rfl)
theorem lk_fn_X6_225 : Cond.fieldLinkNest RX6 225 "ZMemory$Frame" "routine" "I" "ZMemory" ∈ z_nest := List.mem_of_getElem? (i := 9) rfl
theorem lk_fn_X6_228 : Cond.fieldLinkNest RX6 228 "ZMemory$Program" "starts" "[I" "ZMemory" ∈ z_nest := List.mem_of_getElem? (i := 4) rfl
theorem lk_fn_X6_231 : Cond.fieldLinkNest RX6 231 "ZMemory$Program" "locals" "[I" "ZMemory" ∈ z_nest := List.mem_of_getElem? (i := 5) rfl
theorem lk_fn_X6_234 : Cond.fieldLinkNest RX6 234 "ZMemory$Frame" "localCount" "I" "ZMemory" ∈ z_nest := List.mem_of_getElem? (i := 8) rfl
theorem lk_fn_X6_237 : Cond.fieldLinkNest RX6 237 "ZMemory$Frame" "store" "I" "ZMemory" ∈ z_nest := List.mem_of_getElem? (i := 11) rfl
theorem lk_m_X6_238 : Cond.methodLink RX6 238 yX2_leave ∈ lw_good := lg_r22 _ (List.mem_of_getElem? (i := 11) rfl)
theorem lk_fn_X6_241 : Cond.fieldLinkNest RX6 241 "ZMemory$Program" "guards" "[Z" "ZMemory" ∈ z_nest := List.mem_of_getElem? (i := 6) rfl
theorem lk_f_X7_12 : Cond.fieldLink RX7 12 "ZMemory" "memory" "LZMemory$Memory;" ∈ lw_good := lg_r1 _ (List.mem_of_getElem? (i := 16) rfl)
theorem lk_m_X7_39 : Cond.methodLink RX7 39 yX3_begin ∈ lw_good := lg_r5 _ (List.mem_of_getElem? (i := 18) rfl)
theorem lk_m_X7_47 : Cond.methodLink RX7 47 yX3_byteAt ∈ lw_good := lg_r6 _ (List.mem_of_getElem? (i := 23) rfl)
theorem lk_m_X7_43 : Cond.methodLink RX7 43 yX3_wordAt ∈ lw_good := lg_r6 _ (List.mem_of_getElem? (i := 15) rfl)
theorem lk_m_X7_54 : Cond.methodLink RX7 54 yX3_setByte ∈ lw_good := lg_r8 _ (List.mem_of_getElem? (i := 0) rfl)
theorem lk_m_X7_50 : Cond.methodLink RX7 50 yX3_setWord ∈ lw_good := lg_r7 _ (List.mem_of_getElem? (i := 20) rfl)
theorem lk_m_X7_76 : Cond.methodLink RX7 76 yX7_word ∈ lw_good := lg_r9 _ (List.mem_of_getElem? (i := 8) rfl)
theorem lk_m_X7_64 : Cond.methodLink RX7 64 yX7_number ∈ lw_good := lg_r9 _ (List.mem_of_getElem? (i := 2) rfl)
theorem lk_m_X7_79 : Cond.methodLink RX7 79 yX3_copyTable ∈ lw_good := lg_r10 _ (List.mem_of_getElem? (i := 19) rfl)
theorem lk_m_X7_82 : Cond.methodLink RX7 82 yX7_isWithin ∈ lw_good := lg_r12 _ (List.mem_of_getElem? (i := 8) rfl)
theorem lk_m_X7_86 : Cond.methodLink RX7 86 yX3_find ∈ lw_good := lg_r12 _ (List.mem_of_getElem? (i := 11) rfl)
theorem lk_f_X7_19 : Cond.fieldLink RX7 19 "ZMemory" "chance" "LZMemory$Chance;" ∈ lw_good := lg_r1 _ (List.mem_of_getElem? (i := 20) rfl)
theorem lk_m_X7_90 : Cond.methodLink RX7 90 yX0_draw ∈ lw_good := lg_r13 _ (List.mem_of_getElem? (i := 5) rfl)
theorem lk_k_X7_93 : Cond.constant RX7 93 (65535) ∈ lw_good := lg_r9 _ (List.mem_of_getElem? (i := 11) rfl)
theorem lk_m_X7_94 : Cond.methodLink RX7 94 yX0_record ∈ lw_good := lg_r15 _ (List.mem_of_getElem? (i := 1) rfl)
theorem lk_f_X7_35 : Cond.fieldLink RX7 35 "ZMemory" "runner" "LZMemory$Runner;" ∈ lw_good := lg_r2 _ (List.mem_of_getElem? (i := 4) rfl)
theorem lk_fn_X7_97 : Cond.fieldLinkNest RX7 97 "ZMemory$Runner" "globe" "I" "ZMemory" ∈ z_nest := List.mem_of_getElem? (i := 20) rfl
theorem lk_fn_X7_101 : Cond.fieldLinkNest RX7 101 "ZMemory$Runner" "form" "I" "ZMemory" ∈ z_nest := List.mem_of_getElem? (i := 21) rfl
theorem lk_m_X7_104 : Cond.methodLink RX7 104 yX7_isOperand ∈ lw_good := lg_r16 _ (List.mem_of_getElem? (i := 6) rfl)
theorem lk_f_X7_26 : Cond.fieldLink RX7 26 "ZMemory" "program" "LZMemory$Program;" ∈ lw_good := lg_r2 _ (List.mem_of_getElem? (i := 0) rfl)
theorem lk_m_X7_108 : Cond.methodLink RX7 108 yX5_append ∈ lw_good := lg_r16 _ (List.mem_of_getElem? (i := 9) rfl)
theorem lk_m_X7_112 : Cond.methodLink RX7 112 yX5_define ∈ lw_good := lg_r16 _ (List.mem_of_getElem? (i := 23) rfl)
theorem lk_m_X7_116 : Cond.methodLink RX7 116 yX5_forget ∈ lw_good := lg_r17 _ (List.mem_of_getElem? (i := 11) rfl)
theorem lk_m_X7_120 : Cond.methodLink RX7 120 yX5_hasRoutine ∈ lw_good := lg_r17 _ (List.mem_of_getElem? (i := 23) rfl)
theorem lk_m_X7_123 : Cond.methodLink RX7 123 yX6_begin ∈ lw_good := lg_r18 _ (List.mem_of_getElem? (i := 3) rfl)
theorem lk_m_X7_137 : Cond.methodLink RX7 137 yX6_finish ∈ lw_good := lg_r24 _ (List.mem_of_getElem? (i := 13) rfl)
theorem lk_m_X7_126 : Cond.methodLink RX7 126 yX6_isGoing ∈ lw_good := lg_r19 _ (List.mem_of_getElem? (i := 20) rfl)
theorem lk_m_X7_130 : Cond.methodLink RX7 130 yX6_step ∈ lw_good := lg_r20 _ (List.mem_of_getElem? (i := 0) rfl)
theorem lk_m_X7_133 : Cond.methodLink RX7 133 yX6_settle ∈ lw_good := lg_r23 _ (List.mem_of_getElem? (i := 21) rfl)
theorem lk_fn_X7_140 : Cond.fieldLinkNest RX7 140 "ZMemory$Runner" "steps" "I" "ZMemory" ∈ z_nest := List.mem_of_getElem? (i := 22) rfl
theorem lk_fn_X7_143 : Cond.fieldLinkNest RX7 143 "ZMemory$Runner" "returned" "I" "ZMemory" ∈ z_nest := List.mem_of_getElem? (i := 23) rfl
theorem lk_fn_X7_146 : Cond.fieldLinkNest RX7 146 "ZMemory$Runner" "unguarded" "I" "ZMemory" ∈ z_nest := List.mem_of_getElem? (i := 24) rfl
theorem lk_fn_X7_149 : Cond.fieldLinkNest RX7 149 "ZMemory$Runner" "guarded" "I" "ZMemory" ∈ z_nest := List.mem_of_getElem? (i := 25) rfl
theorem lk_fn_X7_152 : Cond.fieldLinkNest RX7 152 "ZMemory$Runner" "arrived" "I" "ZMemory" ∈ z_nest := List.mem_of_getElem? (i := 26) rfl
theorem lk_fn_X7_155 : Cond.fieldLinkNest RX7 155 "ZMemory$Runner" "page" "LZMemory$Page;" "ZMemory" ∈ z_nest := List.mem_of_getElem? (i := 18) rfl
theorem lk_fn_X7_159 : Cond.fieldLinkNest RX7 159 "ZMemory$Page" "length" "I" "ZMemory" ∈ z_nest := List.mem_of_getElem? (i := 16) rfl
theorem lk_fn_X7_164 : Cond.fieldLinkNest RX7 164 "ZMemory$Runner" "frames" "LZMemory$Frames;" "ZMemory" ∈ z_nest := List.mem_of_getElem? (i := 17) rfl
theorem lk_fn_X7_168 : Cond.fieldLinkNest RX7 168 "ZMemory$Frames" "most" "I" "ZMemory" ∈ z_nest := List.mem_of_getElem? (i := 14) rfl
theorem lk_fn_X7_173 : Cond.fieldLinkNest RX7 173 "ZMemory$Program" "length" "I" "ZMemory" ∈ z_nest := List.mem_of_getElem? (i := 3) rfl
theorem lk_fn_X7_174 : Cond.fieldLinkNest RX7 174 "ZMemory$Chance" "taped" "I" "ZMemory" ∈ z_nest := List.mem_of_getElem? (i := 0) rfl
theorem lk_m_X7_177 : Cond.methodLink RX7 177 yX4_characterAt ∈ lw_good := lg_r29 _ (List.mem_of_getElem? (i := 1) rfl)
theorem lk_fn_X7_185 : Cond.fieldLinkNest RX7 185 "ZMemory$Runner" "leavings" "[I" "ZMemory" ∈ z_nest := List.mem_of_getElem? (i := 19) rfl
theorem lk_m_X7_189 : Cond.methodLink RX7 189 yX7_shiftNumber ∈ lw_good := lg_r9 _ (List.mem_of_getElem? (i := 12) rfl)
theorem lk_m_X7_193 : Cond.methodLink RX7 193 yX7_shiftBits ∈ lw_good := lg_r9 _ (List.mem_of_getElem? (i := 19) rfl)
theorem lk_m_X7_196 : Cond.methodLink RX7 196 Lib.Math.min.name ∈ lw_good := lg_r9 _ (List.mem_of_getElem? (i := 15) rfl)
theorem lk_k_X8_75 : Cond.constant RX8 75 (65535) ∈ lw_good := lg_r10 _ (List.mem_of_getElem? (i := 5) rfl)
theorem lk_k_X8_76 : Cond.constant RX8 76 (32768) ∈ lw_good := lg_r10 _ (List.mem_of_getElem? (i := 6) rfl)
theorem lk_k_X8_77 : Cond.constant RX8 77 (65536) ∈ lw_good := lg_r10 _ (List.mem_of_getElem? (i := 7) rfl)
theorem lk_f_X8_81 : Cond.fieldLink RX8 81 "ZMemoryModel" "fault" "I" ∈ lw_good := lg_r7 _ (List.mem_of_getElem? (i := 7) rfl)
theorem lk_f_X8_78 : Cond.fieldLink RX8 78 "ZMemoryModel" "size" "I" ∈ lw_good := lg_r6 _ (List.mem_of_getElem? (i := 9) rfl)
theorem lk_m_X8_84 : Cond.methodLink RX8 84 yX8_isThere ∈ lw_good := lg_r7 _ (List.mem_of_getElem? (i := 12) rfl)
theorem lk_f_X8_7 : Cond.fieldLink RX8 7 "ZMemoryModel" "bytes" "[I" ∈ lw_good := lg_r4 _ (List.mem_of_getElem? (i := 18) rfl)
theorem lk_f_X8_88 : Cond.fieldLink RX8 88 "ZMemoryModel" "dynamic" "I" ∈ lw_good := lg_r6 _ (List.mem_of_getElem? (i := 10) rfl)
theorem lk_f_X8_72 : Cond.fieldLink RX8 72 "ZMemoryModel" "code" "I" ∈ lw_good := lg_r6 _ (List.mem_of_getElem? (i := 8) rfl)
theorem lk_m_X8_91 : Cond.methodLink RX8 91 yX8_read ∈ lw_good := lg_r7 _ (List.mem_of_getElem? (i := 8) rfl)
theorem lk_m_X8_95 : Cond.methodLink RX8 95 yX8_write ∈ lw_good := lg_r8 _ (List.mem_of_getElem? (i := 8) rfl)
theorem lk_m_X8_99 : Cond.methodLink RX8 99 yX8_signed ∈ lw_good := lg_r10 _ (List.mem_of_getElem? (i := 2) rfl)
theorem lk_m_X8_103 : Cond.methodLink RX8 103 yX8_shifted ∈ lw_good := lg_r10 _ (List.mem_of_getElem? (i := 12) rfl)
theorem lk_m_X8_107 : Cond.methodLink RX8 107 yX8_worked ∈ lw_good := lg_r10 _ (List.mem_of_getElem? (i := 8) rfl)
theorem lk_f_X8_23 : Cond.fieldLink RX8 23 "ZMemoryModel" "moved" "[I" ∈ lw_good := lg_r4 _ (List.mem_of_getElem? (i := 22) rfl)
theorem lk_m_X8_111 : Cond.methodLink RX8 111 yX8_copied ∈ lw_good := lg_r12 _ (List.mem_of_getElem? (i := 0) rfl)
theorem lk_m_X8_115 : Cond.methodLink RX8 115 yX8_looked ∈ lw_good := lg_r12 _ (List.mem_of_getElem? (i := 21) rfl)
theorem lk_f_X8_119 : Cond.fieldLink RX8 119 "ZMemoryModel" "way" "I" ∈ lw_good := lg_r14 _ (List.mem_of_getElem? (i := 15) rfl)
theorem lk_f_X8_17 : Cond.fieldLink RX8 17 "ZMemoryModel" "seed" "I" ∈ lw_good := lg_r4 _ (List.mem_of_getElem? (i := 20) rfl)
theorem lk_f_X8_125 : Cond.fieldLink RX8 125 "ZMemoryModel" "round" "I" ∈ lw_good := lg_r14 _ (List.mem_of_getElem? (i := 17) rfl)
theorem lk_f_X8_122 : Cond.fieldLink RX8 122 "ZMemoryModel" "count" "I" ∈ lw_good := lg_r14 _ (List.mem_of_getElem? (i := 16) rfl)
theorem lk_k_X8_131 : Cond.constant RX8 131 (1103515245) ∈ lw_good := lg_r14 _ (List.mem_of_getElem? (i := 19) rfl)
theorem lk_k_X8_132 : Cond.constant RX8 132 (2147483647) ∈ lw_good := lg_r14 _ (List.mem_of_getElem? (i := 20) rfl)
theorem lk_f_X8_128 : Cond.fieldLink RX8 128 "ZMemoryModel" "taped" "I" ∈ lw_good := lg_r14 _ (List.mem_of_getElem? (i := 18) rfl)
theorem lk_f_X8_20 : Cond.fieldLink RX8 20 "ZMemoryModel" "tape" "[I" ∈ lw_good := lg_r4 _ (List.mem_of_getElem? (i := 21) rfl)
theorem lk_m_X8_133 : Cond.methodLink RX8 133 yX8_drawn ∈ lw_good := lg_r14 _ (List.mem_of_getElem? (i := 11) rfl)
theorem lk_f_X8_136 : Cond.fieldLink RX8 136 "ZMemoryModel" "globe" "I" ∈ lw_good := lg_r15 _ (List.mem_of_getElem? (i := 17) rfl)
theorem lk_f_X8_13 : Cond.fieldLink RX8 13 "ZMemoryModel" "form" "I" ∈ lw_good := lg_r4 _ (List.mem_of_getElem? (i := 19) rfl)
theorem lk_f_X8_139 : Cond.fieldLink RX8 139 "ZMemoryModel" "many" "I" ∈ lw_good := lg_r16 _ (List.mem_of_getElem? (i := 18) rfl)
theorem lk_f_X8_26 : Cond.fieldLink RX8 26 "ZMemoryModel" "ops" "[I" ∈ lw_good := lg_r4 _ (List.mem_of_getElem? (i := 23) rfl)
theorem lk_f_X8_29 : Cond.fieldLink RX8 29 "ZMemoryModel" "operands" "[I" ∈ lw_good := lg_r5 _ (List.mem_of_getElem? (i := 0) rfl)
theorem lk_f_X8_32 : Cond.fieldLink RX8 32 "ZMemoryModel" "stores" "[I" ∈ lw_good := lg_r5 _ (List.mem_of_getElem? (i := 1) rfl)
theorem lk_f_X8_35 : Cond.fieldLink RX8 35 "ZMemoryModel" "isRoutine" "[Z" ∈ lw_good := lg_r5 _ (List.mem_of_getElem? (i := 2) rfl)
theorem lk_f_X8_39 : Cond.fieldLink RX8 39 "ZMemoryModel" "begins" "[I" ∈ lw_good := lg_r5 _ (List.mem_of_getElem? (i := 3) rfl)
theorem lk_f_X8_42 : Cond.fieldLink RX8 42 "ZMemoryModel" "locals" "[I" ∈ lw_good := lg_r5 _ (List.mem_of_getElem? (i := 4) rfl)
theorem lk_f_X8_45 : Cond.fieldLink RX8 45 "ZMemoryModel" "isGuarded" "[Z" ∈ lw_good := lg_r5 _ (List.mem_of_getElem? (i := 5) rfl)
theorem lk_f_X8_142 : Cond.fieldLink RX8 142 "ZMemoryModel" "frames" "I" ∈ lw_good := lg_r24 _ (List.mem_of_getElem? (i := 21) rfl)
theorem lk_f_X8_145 : Cond.fieldLink RX8 145 "ZMemoryModel" "high" "I" ∈ lw_good := lg_r24 _ (List.mem_of_getElem? (i := 22) rfl)
theorem lk_f_X8_57 : Cond.fieldLink RX8 57 "ZMemoryModel" "frameBase" "[I" ∈ lw_good := lg_r5 _ (List.mem_of_getElem? (i := 9) rfl)
theorem lk_m_X8_148 : Cond.methodLink RX8 148 yX8_top ∈ lw_good := lg_r25 _ (List.mem_of_getElem? (i := 16) rfl)
theorem lk_f_X8_63 : Cond.fieldLink RX8 63 "ZMemoryModel" "stack" "[I" ∈ lw_good := lg_r5 _ (List.mem_of_getElem? (i := 11) rfl)
theorem lk_f_X8_48 : Cond.fieldLink RX8 48 "ZMemoryModel" "frameRoutine" "[I" ∈ lw_good := lg_r5 _ (List.mem_of_getElem? (i := 6) rfl)
theorem lk_m_X8_155 : Cond.methodLink RX8 155 yX8_isLocal ∈ lw_good := lg_r26 _ (List.mem_of_getElem? (i := 7) rfl)
theorem lk_f_X8_60 : Cond.fieldLink RX8 60 "ZMemoryModel" "frameLocals" "[I" ∈ lw_good := lg_r5 _ (List.mem_of_getElem? (i := 10) rfl)
theorem lk_m_X8_152 : Cond.methodLink RX8 152 yX8_pop ∈ lw_good := lg_r26 _ (List.mem_of_getElem? (i := 3) rfl)
theorem lk_m_X8_159 : Cond.methodLink RX8 159 yX8_push ∈ lw_good := lg_r26 _ (List.mem_of_getElem? (i := 23) rfl)
theorem lk_m_X8_163 : Cond.methodLink RX8 163 yX8_ask ∈ lw_good := lg_r25 _ (List.mem_of_getElem? (i := 23) rfl)
theorem lk_m_X8_166 : Cond.methodLink RX8 166 yX8_set ∈ lw_good := lg_r26 _ (List.mem_of_getElem? (i := 19) rfl)
theorem lk_f_X8_170 : Cond.fieldLink RX8 170 "ZMemoryModel" "printed" "I" ∈ lw_good := lg_r24 _ (List.mem_of_getElem? (i := 23) rfl)
theorem lk_f_X8_66 : Cond.fieldLink RX8 66 "ZMemoryModel" "prints" "[I" ∈ lw_good := lg_r5 _ (List.mem_of_getElem? (i := 12) rfl)
theorem lk_m_X8_173 : Cond.methodLink RX8 173 yX8_print ∈ lw_good := lg_r27 _ (List.mem_of_getElem? (i := 19) rfl)
theorem lk_f_X8_51 : Cond.fieldLink RX8 51 "ZMemoryModel" "framePlace" "[I" ∈ lw_good := lg_r5 _ (List.mem_of_getElem? (i := 7) rfl)
theorem lk_f_X8_54 : Cond.fieldLink RX8 54 "ZMemoryModel" "frameStore" "[I" ∈ lw_good := lg_r5 _ (List.mem_of_getElem? (i := 8) rfl)
theorem lk_f_X8_176 : Cond.fieldLink RX8 176 "ZMemoryModel" "deepest" "I" ∈ lw_good := lg_r25 _ (List.mem_of_getElem? (i := 5) rfl)
theorem lk_f_X8_69 : Cond.fieldLink RX8 69 "ZMemoryModel" "lefts" "[I" ∈ lw_good := lg_r5 _ (List.mem_of_getElem? (i := 13) rfl)
theorem lk_m_X8_179 : Cond.methodLink RX8 179 yX8_leave ∈ lw_good := lg_r27 _ (List.mem_of_getElem? (i := 7) rfl)
theorem lk_f_X8_182 : Cond.fieldLink RX8 182 "ZMemoryModel" "returned" "I" ∈ lw_good := lg_r25 _ (List.mem_of_getElem? (i := 1) rfl)
theorem lk_f_X8_185 : Cond.fieldLink RX8 185 "ZMemoryModel" "end" "I" ∈ lw_good := lg_r25 _ (List.mem_of_getElem? (i := 7) rfl)
theorem lk_m_X8_188 : Cond.methodLink RX8 188 yX8_more ∈ lw_good := lg_r26 _ (List.mem_of_getElem? (i := 15) rfl)
theorem lk_m_X8_191 : Cond.methodLink RX8 191 yX8_enter ∈ lw_good := lg_r25 _ (List.mem_of_getElem? (i := 8) rfl)
theorem lk_m_X8_195 : Cond.methodLink RX8 195 yX8_back ∈ lw_good := lg_r27 _ (List.mem_of_getElem? (i := 3) rfl)
theorem lk_m_X8_198 : Cond.methodLink RX8 198 yX8_throwTo ∈ lw_good := lg_r27 _ (List.mem_of_getElem? (i := 11) rfl)
theorem lk_m_X8_201 : Cond.methodLink RX8 201 yX8_printNumber ∈ lw_good := lg_r27 _ (List.mem_of_getElem? (i := 15) rfl)
theorem lk_m_X8_204 : Cond.methodLink RX8 204 yX8_printRows ∈ lw_good := lg_r27 _ (List.mem_of_getElem? (i := 23) rfl)
theorem lk_f_X8_207 : Cond.fieldLink RX8 207 "ZMemoryModel" "counted" "I" ∈ lw_good := lg_r25 _ (List.mem_of_getElem? (i := 6) rfl)
theorem lk_f_X8_210 : Cond.fieldLink RX8 210 "ZMemoryModel" "throwsCame" "I" ∈ lw_good := lg_r25 _ (List.mem_of_getElem? (i := 4) rfl)
theorem lk_m_X8_213 : Cond.methodLink RX8 213 yX8_wants ∈ lw_good := lg_r25 _ (List.mem_of_getElem? (i := 20) rfl)
theorem lk_m_X8_216 : Cond.methodLink RX8 216 yX8_act ∈ lw_good := lg_r26 _ (List.mem_of_getElem? (i := 11) rfl)
theorem lk_f_X8_223 : Cond.fieldLink RX8 223 "ZMemoryModel" "guarded" "I" ∈ lw_good := lg_r25 _ (List.mem_of_getElem? (i := 3) rfl)
theorem lk_f_X8_220 : Cond.fieldLink RX8 220 "ZMemoryModel" "unguarded" "I" ∈ lw_good := lg_r25 _ (List.mem_of_getElem? (i := 2) rfl)
theorem lk_f_X8_226 : Cond.fieldLink RX8 226 "ZMemoryModel" "steps" "I" ∈ lw_good := lg_r25 _ (List.mem_of_getElem? (i := 0) rfl)
theorem lk_m_X8_229 : Cond.methodLink RX8 229 yX8_step ∈ lw_good := lg_r25 _ (List.mem_of_getElem? (i := 12) rfl)
theorem lk_m_X8_232 : Cond.methodLink RX8 232 yX8_up ∈ lw_good := lg_r28 _ (List.mem_of_getElem? (i := 3) rfl)
theorem lk_c_X7_arithmetic : Cond.code yX7_arithmetic cX7_arithmetic 3 (some .int) ∈ lw_good := lg_r9 _ (List.mem_of_getElem? (i := 7) rfl)
theorem lk_s_X7_arithmetic : Cond.static yX7_arithmetic ∈ lw_good := lg_r9 _ (List.mem_of_getElem? (i := 6) rfl)
theorem lk_c_X7_isOperand : Cond.code yX7_isOperand cX7_isOperand 1 (some .boolean) ∈ lw_good := lg_r16 _ (List.mem_of_getElem? (i := 8) rfl)
theorem lk_s_X7_isOperand : Cond.static yX7_isOperand ∈ lw_good := lg_r16 _ (List.mem_of_getElem? (i := 7) rfl)
theorem lk_c_X7_isWithin : Cond.code yX7_isWithin cX7_isWithin 2 (some .boolean) ∈ lw_good := lg_r12 _ (List.mem_of_getElem? (i := 10) rfl)
theorem lk_s_X7_isWithin : Cond.static yX7_isWithin ∈ lw_good := lg_r12 _ (List.mem_of_getElem? (i := 9) rfl)
theorem lk_c_X7_number : Cond.code yX7_number cX7_number 1 (some .int) ∈ lw_good := lg_r9 _ (List.mem_of_getElem? (i := 4) rfl)
theorem lk_s_X7_number : Cond.static yX7_number ∈ lw_good := lg_r9 _ (List.mem_of_getElem? (i := 3) rfl)
theorem lk_c_X7_shiftBits : Cond.code yX7_shiftBits cX7_shiftBits 2 (some .int) ∈ lw_good := lg_r9 _ (List.mem_of_getElem? (i := 21) rfl)
theorem lk_s_X7_shiftBits : Cond.static yX7_shiftBits ∈ lw_good := lg_r9 _ (List.mem_of_getElem? (i := 20) rfl)
theorem lk_c_X7_shiftNumber : Cond.code yX7_shiftNumber cX7_shiftNumber 2 (some .int) ∈ lw_good := lg_r9 _ (List.mem_of_getElem? (i := 14) rfl)
theorem lk_s_X7_shiftNumber : Cond.static yX7_shiftNumber ∈ lw_good := lg_r9 _ (List.mem_of_getElem? (i := 13) rfl)
theorem lk_c_X7_word : Cond.code yX7_word cX7_word 1 (some .int) ∈ lw_good := lg_r9 _ (List.mem_of_getElem? (i := 10) rfl)
theorem lk_s_X7_word : Cond.static yX7_word ∈ lw_good := lg_r9 _ (List.mem_of_getElem? (i := 9) rfl)
theorem lk_c_X0_draw : Cond.code yX0_draw cX0_draw 2 (some .int) ∈ lw_good := lg_r13 _ (List.mem_of_getElem? (i := 8) rfl)
theorem lk_n_X0_draw : Cond.instanceMethod yX0_draw ∈ lw_good := lg_r13 _ (List.mem_of_getElem? (i := 6) rfl)
theorem lk_v_X0_draw : Cond.selects RX0 yX0_draw yX0_draw ∈ lw_good := lg_r13 _ (List.mem_of_getElem? (i := 7) rfl)
theorem lk_c_X0_next : Cond.code yX0_next cX0_next 1 (some .int) ∈ lw_good := lg_r13 _ (List.mem_of_getElem? (i := 14) rfl)
theorem lk_n_X0_next : Cond.instanceMethod yX0_next ∈ lw_good := lg_r13 _ (List.mem_of_getElem? (i := 12) rfl)
theorem lk_v_X0_next : Cond.selects RX0 yX0_next yX0_next ∈ lw_good := lg_r13 _ (List.mem_of_getElem? (i := 13) rfl)
theorem lk_c_X0_nextOfCount : Cond.code yX0_nextOfCount cX0_nextOfCount 2 (some .int) ∈ lw_good := lg_r13 _ (List.mem_of_getElem? (i := 19) rfl)
theorem lk_n_X0_nextOfCount : Cond.instanceMethod yX0_nextOfCount ∈ lw_good := lg_r13 _ (List.mem_of_getElem? (i := 17) rfl)
theorem lk_v_X0_nextOfCount : Cond.selects RX0 yX0_nextOfCount yX0_nextOfCount ∈ lw_good := lg_r13 _ (List.mem_of_getElem? (i := 18) rfl)
theorem lk_c_X0_nextOfSeed : Cond.code yX0_nextOfSeed cX0_nextOfSeed 1 (some .int) ∈ lw_good := lg_r14 _ (List.mem_of_getElem? (i := 4) rfl)
theorem lk_n_X0_nextOfSeed : Cond.instanceMethod yX0_nextOfSeed ∈ lw_good := lg_r14 _ (List.mem_of_getElem? (i := 2) rfl)
theorem lk_v_X0_nextOfSeed : Cond.selects RX0 yX0_nextOfSeed yX0_nextOfSeed ∈ lw_good := lg_r14 _ (List.mem_of_getElem? (i := 3) rfl)
theorem lk_c_X0_nextOfTape : Cond.code yX0_nextOfTape cX0_nextOfTape 2 (some .int) ∈ lw_good := lg_r13 _ (List.mem_of_getElem? (i := 23) rfl)
theorem lk_n_X0_nextOfTape : Cond.instanceMethod yX0_nextOfTape ∈ lw_good := lg_r13 _ (List.mem_of_getElem? (i := 21) rfl)
theorem lk_v_X0_nextOfTape : Cond.selects RX0 yX0_nextOfTape yX0_nextOfTape ∈ lw_good := lg_r13 _ (List.mem_of_getElem? (i := 22) rfl)
theorem lk_c_X0_record : Cond.code yX0_record cX0_record 2 (some .int) ∈ lw_good := lg_r15 _ (List.mem_of_getElem? (i := 4) rfl)
theorem lk_n_X0_record : Cond.instanceMethod yX0_record ∈ lw_good := lg_r15 _ (List.mem_of_getElem? (i := 2) rfl)
theorem lk_v_X0_record : Cond.selects RX0 yX0_record yX0_record ∈ lw_good := lg_r15 _ (List.mem_of_getElem? (i := 3) rfl)
theorem lk_c_X1_hasLocal : Cond.code yX1_hasLocal cX1_hasLocal 2 (some .boolean) ∈ lw_good := lg_r19 _ (List.mem_of_getElem? (i := 18) rfl)
theorem lk_n_X1_hasLocal : Cond.instanceMethod yX1_hasLocal ∈ lw_good := lg_r19 _ (List.mem_of_getElem? (i := 16) rfl)
theorem lk_v_X1_hasLocal : Cond.selects RX1 yX1_hasLocal yX1_hasLocal ∈ lw_good := lg_r19 _ (List.mem_of_getElem? (i := 17) rfl)
theorem lk_c_X1_local : Cond.code yX1_local cX1_local 2 (some .int) ∈ lw_good := lg_r21 _ (List.mem_of_getElem? (i := 1) rfl)
theorem lk_n_X1_local : Cond.instanceMethod yX1_local ∈ lw_good := lg_r20 _ (List.mem_of_getElem? (i := 23) rfl)
theorem lk_v_X1_local : Cond.selects RX1 yX1_local yX1_local ∈ lw_good := lg_r21 _ (List.mem_of_getElem? (i := 0) rfl)
theorem lk_c_X1_setLocal : Cond.code yX1_setLocal cX1_setLocal 3 (some .int) ∈ lw_good := lg_r19 _ (List.mem_of_getElem? (i := 14) rfl)
theorem lk_n_X1_setLocal : Cond.instanceMethod yX1_setLocal ∈ lw_good := lg_r19 _ (List.mem_of_getElem? (i := 12) rfl)
theorem lk_v_X1_setLocal : Cond.selects RX1 yX1_setLocal yX1_setLocal ∈ lw_good := lg_r19 _ (List.mem_of_getElem? (i := 13) rfl)
theorem lk_c_X2_begin : Cond.code yX2_begin cX2_begin 1 none ∈ lw_good := lg_r18 _ (List.mem_of_getElem? (i := 17) rfl)
theorem lk_n_X2_begin : Cond.instanceMethod yX2_begin ∈ lw_good := lg_r18 _ (List.mem_of_getElem? (i := 15) rfl)
theorem lk_v_X2_begin : Cond.selects RX2 yX2_begin yX2_begin ∈ lw_good := lg_r18 _ (List.mem_of_getElem? (i := 16) rfl)
theorem lk_c_X2_enter : Cond.code yX2_enter cX2_enter 2 (some (.object "ZMemory$Frame")) ∈ lw_good := lg_r19 _ (List.mem_of_getElem? (i := 6) rfl)
theorem lk_n_X2_enter : Cond.instanceMethod yX2_enter ∈ lw_good := lg_r19 _ (List.mem_of_getElem? (i := 4) rfl)
theorem lk_v_X2_enter : Cond.selects RX2 yX2_enter yX2_enter ∈ lw_good := lg_r19 _ (List.mem_of_getElem? (i := 5) rfl)
theorem lk_c_X2_leave : Cond.code yX2_leave cX2_leave 1 none ∈ lw_good := lg_r22 _ (List.mem_of_getElem? (i := 14) rfl)
theorem lk_n_X2_leave : Cond.instanceMethod yX2_leave ∈ lw_good := lg_r22 _ (List.mem_of_getElem? (i := 12) rfl)
theorem lk_v_X2_leave : Cond.selects RX2 yX2_leave yX2_leave ∈ lw_good := lg_r22 _ (List.mem_of_getElem? (i := 13) rfl)
theorem lk_c_X2_pop : Cond.code yX2_pop cX2_pop 1 (some .int) ∈ lw_good := lg_r20 _ (List.mem_of_getElem? (i := 20) rfl)
theorem lk_n_X2_pop : Cond.instanceMethod yX2_pop ∈ lw_good := lg_r20 _ (List.mem_of_getElem? (i := 18) rfl)
theorem lk_v_X2_pop : Cond.selects RX2 yX2_pop yX2_pop ∈ lw_good := lg_r20 _ (List.mem_of_getElem? (i := 19) rfl)
theorem lk_c_X2_push : Cond.code yX2_push cX2_push 2 (some .int) ∈ lw_good := lg_r22 _ (List.mem_of_getElem? (i := 22) rfl)
theorem lk_n_X2_push : Cond.instanceMethod yX2_push ∈ lw_good := lg_r22 _ (List.mem_of_getElem? (i := 20) rfl)
theorem lk_v_X2_push : Cond.selects RX2 yX2_push yX2_push ∈ lw_good := lg_r22 _ (List.mem_of_getElem? (i := 21) rfl)
theorem lk_c_X2_top : Cond.code yX2_top cX2_top 1 (some (.object "ZMemory$Frame")) ∈ lw_good := lg_r20 _ (List.mem_of_getElem? (i := 8) rfl)
theorem lk_n_X2_top : Cond.instanceMethod yX2_top ∈ lw_good := lg_r20 _ (List.mem_of_getElem? (i := 6) rfl)
theorem lk_v_X2_top : Cond.selects RX2 yX2_top yX2_top ∈ lw_good := lg_r20 _ (List.mem_of_getElem? (i := 7) rfl)
theorem lk_c_X3_begin : Cond.code yX3_begin cX3_begin 3 none ∈ lw_good := lg_r5 _ (List.mem_of_getElem? (i := 21) rfl)
theorem lk_n_X3_begin : Cond.instanceMethod yX3_begin ∈ lw_good := lg_r5 _ (List.mem_of_getElem? (i := 19) rfl)
theorem lk_v_X3_begin : Cond.selects RX3 yX3_begin yX3_begin ∈ lw_good := lg_r5 _ (List.mem_of_getElem? (i := 20) rfl)
theorem lk_c_X3_byteAt : Cond.code yX3_byteAt cX3_byteAt 2 (some .int) ∈ lw_good := lg_r7 _ (List.mem_of_getElem? (i := 2) rfl)
theorem lk_n_X3_byteAt : Cond.instanceMethod yX3_byteAt ∈ lw_good := lg_r7 _ (List.mem_of_getElem? (i := 0) rfl)
theorem lk_v_X3_byteAt : Cond.selects RX3 yX3_byteAt yX3_byteAt ∈ lw_good := lg_r7 _ (List.mem_of_getElem? (i := 1) rfl)
theorem lk_c_X3_copyAtOnce : Cond.code yX3_copyAtOnce cX3_copyAtOnce 4 (some .int) ∈ lw_good := lg_r11 _ (List.mem_of_getElem? (i := 9) rfl)
theorem lk_n_X3_copyAtOnce : Cond.instanceMethod yX3_copyAtOnce ∈ lw_good := lg_r11 _ (List.mem_of_getElem? (i := 7) rfl)
theorem lk_v_X3_copyAtOnce : Cond.selects RX3 yX3_copyAtOnce yX3_copyAtOnce ∈ lw_good := lg_r11 _ (List.mem_of_getElem? (i := 8) rfl)
theorem lk_c_X3_copyInTurn : Cond.code yX3_copyInTurn cX3_copyInTurn 7 (some .int) ∈ lw_good := lg_r11 _ (List.mem_of_getElem? (i := 17) rfl)
theorem lk_n_X3_copyInTurn : Cond.instanceMethod yX3_copyInTurn ∈ lw_good := lg_r11 _ (List.mem_of_getElem? (i := 15) rfl)
theorem lk_v_X3_copyInTurn : Cond.selects RX3 yX3_copyInTurn yX3_copyInTurn ∈ lw_good := lg_r11 _ (List.mem_of_getElem? (i := 16) rfl)
theorem lk_c_X3_copyTable : Cond.code yX3_copyTable cX3_copyTable 4 (some .int) ∈ lw_good := lg_r10 _ (List.mem_of_getElem? (i := 22) rfl)
theorem lk_n_X3_copyTable : Cond.instanceMethod yX3_copyTable ∈ lw_good := lg_r10 _ (List.mem_of_getElem? (i := 20) rfl)
theorem lk_v_X3_copyTable : Cond.selects RX3 yX3_copyTable yX3_copyTable ∈ lw_good := lg_r10 _ (List.mem_of_getElem? (i := 21) rfl)
theorem lk_c_X3_find : Cond.code yX3_find cX3_find 10 (some .int) ∈ lw_good := lg_r12 _ (List.mem_of_getElem? (i := 14) rfl)
theorem lk_n_X3_find : Cond.instanceMethod yX3_find ∈ lw_good := lg_r12 _ (List.mem_of_getElem? (i := 12) rfl)
theorem lk_v_X3_find : Cond.selects RX3 yX3_find yX3_find ∈ lw_good := lg_r12 _ (List.mem_of_getElem? (i := 13) rfl)
theorem lk_c_X3_isOutside : Cond.code yX3_isOutside cX3_isOutside 2 (some .boolean) ∈ lw_good := lg_r6 _ (List.mem_of_getElem? (i := 22) rfl)
theorem lk_n_X3_isOutside : Cond.instanceMethod yX3_isOutside ∈ lw_good := lg_r6 _ (List.mem_of_getElem? (i := 20) rfl)
theorem lk_v_X3_isOutside : Cond.selects RX3 yX3_isOutside yX3_isOutside ∈ lw_good := lg_r6 _ (List.mem_of_getElem? (i := 21) rfl)
theorem lk_c_X3_setByte : Cond.code yX3_setByte cX3_setByte 4 (some .int) ∈ lw_good := lg_r8 _ (List.mem_of_getElem? (i := 3) rfl)
theorem lk_n_X3_setByte : Cond.instanceMethod yX3_setByte ∈ lw_good := lg_r8 _ (List.mem_of_getElem? (i := 1) rfl)
theorem lk_v_X3_setByte : Cond.selects RX3 yX3_setByte yX3_setByte ∈ lw_good := lg_r8 _ (List.mem_of_getElem? (i := 2) rfl)
theorem lk_c_X3_setWord : Cond.code yX3_setWord cX3_setWord 4 (some .int) ∈ lw_good := lg_r7 _ (List.mem_of_getElem? (i := 23) rfl)
theorem lk_n_X3_setWord : Cond.instanceMethod yX3_setWord ∈ lw_good := lg_r7 _ (List.mem_of_getElem? (i := 21) rfl)
theorem lk_v_X3_setWord : Cond.selects RX3 yX3_setWord yX3_setWord ∈ lw_good := lg_r7 _ (List.mem_of_getElem? (i := 22) rfl)
theorem lk_c_X3_wipe : Cond.code yX3_wipe cX3_wipe 4 (some .int) ∈ lw_good := lg_r11 _ (List.mem_of_getElem? (i := 5) rfl)
theorem lk_n_X3_wipe : Cond.instanceMethod yX3_wipe ∈ lw_good := lg_r11 _ (List.mem_of_getElem? (i := 3) rfl)
theorem lk_v_X3_wipe : Cond.selects RX3 yX3_wipe yX3_wipe ∈ lw_good := lg_r11 _ (List.mem_of_getElem? (i := 4) rfl)
theorem lk_c_X3_wordAt : Cond.code yX3_wordAt cX3_wordAt 2 (some .int) ∈ lw_good := lg_r6 _ (List.mem_of_getElem? (i := 18) rfl)
theorem lk_n_X3_wordAt : Cond.instanceMethod yX3_wordAt ∈ lw_good := lg_r6 _ (List.mem_of_getElem? (i := 16) rfl)
theorem lk_v_X3_wordAt : Cond.selects RX3 yX3_wordAt yX3_wordAt ∈ lw_good := lg_r6 _ (List.mem_of_getElem? (i := 17) rfl)
theorem lk_c_X4_characterAt : Cond.code yX4_characterAt cX4_characterAt 2 (some .int) ∈ lw_good := lg_r29 _ (List.mem_of_getElem? (i := 4) rfl)
theorem lk_n_X4_characterAt : Cond.instanceMethod yX4_characterAt ∈ lw_good := lg_r29 _ (List.mem_of_getElem? (i := 2) rfl)
theorem lk_v_X4_characterAt : Cond.selects RX4 yX4_characterAt yX4_characterAt ∈ lw_good := lg_r29 _ (List.mem_of_getElem? (i := 3) rfl)
theorem lk_c_X4_print : Cond.code yX4_print cX4_print 2 (some .int) ∈ lw_good := lg_r23 _ (List.mem_of_getElem? (i := 14) rfl)
theorem lk_n_X4_print : Cond.instanceMethod yX4_print ∈ lw_good := lg_r23 _ (List.mem_of_getElem? (i := 12) rfl)
theorem lk_v_X4_print : Cond.selects RX4 yX4_print yX4_print ∈ lw_good := lg_r23 _ (List.mem_of_getElem? (i := 13) rfl)
theorem lk_c_X4_printNumber : Cond.code yX4_printNumber cX4_printNumber 5 (some .int) ∈ lw_good := lg_r23 _ (List.mem_of_getElem? (i := 9) rfl)
theorem lk_n_X4_printNumber : Cond.instanceMethod yX4_printNumber ∈ lw_good := lg_r23 _ (List.mem_of_getElem? (i := 7) rfl)
theorem lk_v_X4_printNumber : Cond.selects RX4 yX4_printNumber yX4_printNumber ∈ lw_good := lg_r23 _ (List.mem_of_getElem? (i := 8) rfl)
theorem lk_c_X5_append : Cond.code yX5_append cX5_append 7 (some .int) ∈ lw_good := lg_r16 _ (List.mem_of_getElem? (i := 12) rfl)
theorem lk_n_X5_append : Cond.instanceMethod yX5_append ∈ lw_good := lg_r16 _ (List.mem_of_getElem? (i := 10) rfl)
theorem lk_v_X5_append : Cond.selects RX5 yX5_append yX5_append ∈ lw_good := lg_r16 _ (List.mem_of_getElem? (i := 11) rfl)
theorem lk_c_X5_define : Cond.code yX5_define cX5_define 5 none ∈ lw_good := lg_r17 _ (List.mem_of_getElem? (i := 2) rfl)
theorem lk_n_X5_define : Cond.instanceMethod yX5_define ∈ lw_good := lg_r17 _ (List.mem_of_getElem? (i := 0) rfl)
theorem lk_v_X5_define : Cond.selects RX5 yX5_define yX5_define ∈ lw_good := lg_r17 _ (List.mem_of_getElem? (i := 1) rfl)
theorem lk_c_X5_forget : Cond.code yX5_forget cX5_forget 3 (some .int) ∈ lw_good := lg_r17 _ (List.mem_of_getElem? (i := 14) rfl)
theorem lk_n_X5_forget : Cond.instanceMethod yX5_forget ∈ lw_good := lg_r17 _ (List.mem_of_getElem? (i := 12) rfl)
theorem lk_v_X5_forget : Cond.selects RX5 yX5_forget yX5_forget ∈ lw_good := lg_r17 _ (List.mem_of_getElem? (i := 13) rfl)
theorem lk_c_X5_hasRoutine : Cond.code yX5_hasRoutine cX5_hasRoutine 2 (some .boolean) ∈ lw_good := lg_r18 _ (List.mem_of_getElem? (i := 2) rfl)
theorem lk_n_X5_hasRoutine : Cond.instanceMethod yX5_hasRoutine ∈ lw_good := lg_r18 _ (List.mem_of_getElem? (i := 0) rfl)
theorem lk_v_X5_hasRoutine : Cond.selects RX5 yX5_hasRoutine yX5_hasRoutine ∈ lw_good := lg_r18 _ (List.mem_of_getElem? (i := 1) rfl)
theorem lk_c_X5_opAt : Cond.code yX5_opAt cX5_opAt 2 (some .int) ∈ lw_good := lg_r20 _ (List.mem_of_getElem? (i := 12) rfl)
theorem lk_n_X5_opAt : Cond.instanceMethod yX5_opAt ∈ lw_good := lg_r20 _ (List.mem_of_getElem? (i := 10) rfl)
theorem lk_v_X5_opAt : Cond.selects RX5 yX5_opAt yX5_opAt ∈ lw_good := lg_r20 _ (List.mem_of_getElem? (i := 11) rfl)
theorem lk_c_X6_ask : Cond.code yX6_ask cX6_ask 2 (some .int) ∈ lw_good := lg_r20 _ (List.mem_of_getElem? (i := 16) rfl)
theorem lk_n_X6_ask : Cond.instanceMethod yX6_ask ∈ lw_good := lg_r20 _ (List.mem_of_getElem? (i := 14) rfl)
theorem lk_v_X6_ask : Cond.selects RX6 yX6_ask yX6_ask ∈ lw_good := lg_r20 _ (List.mem_of_getElem? (i := 15) rfl)
theorem lk_c_X6_begin : Cond.code yX6_begin cX6_begin 4 none ∈ lw_good := lg_r18 _ (List.mem_of_getElem? (i := 6) rfl)
theorem lk_n_X6_begin : Cond.instanceMethod yX6_begin ∈ lw_good := lg_r18 _ (List.mem_of_getElem? (i := 4) rfl)
theorem lk_v_X6_begin : Cond.selects RX6 yX6_begin yX6_begin ∈ lw_good := lg_r18 _ (List.mem_of_getElem? (i := 5) rfl)
theorem lk_c_X6_carryOut : Cond.code yX6_carryOut cX6_carryOut 6 (some .int) ∈ lw_good := lg_r21 _ (List.mem_of_getElem? (i := 11) rfl)
theorem lk_n_X6_carryOut : Cond.instanceMethod yX6_carryOut ∈ lw_good := lg_r21 _ (List.mem_of_getElem? (i := 9) rfl)
theorem lk_v_X6_carryOut : Cond.selects RX6 yX6_carryOut yX6_carryOut ∈ lw_good := lg_r21 _ (List.mem_of_getElem? (i := 10) rfl)
theorem lk_c_X6_change : Cond.code yX6_change cX6_change 4 (some .int) ∈ lw_good := lg_r21 _ (List.mem_of_getElem? (i := 23) rfl)
theorem lk_n_X6_change : Cond.instanceMethod yX6_change ∈ lw_good := lg_r21 _ (List.mem_of_getElem? (i := 21) rfl)
theorem lk_v_X6_change : Cond.selects RX6 yX6_change yX6_change ∈ lw_good := lg_r21 _ (List.mem_of_getElem? (i := 22) rfl)
theorem lk_c_X6_end : Cond.code yX6_end cX6_end 2 (some .int) ∈ lw_good := lg_r22 _ (List.mem_of_getElem? (i := 18) rfl)
theorem lk_n_X6_end : Cond.instanceMethod yX6_end ∈ lw_good := lg_r22 _ (List.mem_of_getElem? (i := 16) rfl)
theorem lk_v_X6_end : Cond.selects RX6 yX6_end yX6_end ∈ lw_good := lg_r22 _ (List.mem_of_getElem? (i := 17) rfl)
theorem lk_c_X6_enter : Cond.code yX6_enter cX6_enter 6 (some .int) ∈ lw_good := lg_r19 _ (List.mem_of_getElem? (i := 1) rfl)
theorem lk_n_X6_enter : Cond.instanceMethod yX6_enter ∈ lw_good := lg_r18 _ (List.mem_of_getElem? (i := 23) rfl)
theorem lk_v_X6_enter : Cond.selects RX6 yX6_enter yX6_enter ∈ lw_good := lg_r19 _ (List.mem_of_getElem? (i := 0) rfl)
theorem lk_c_X6_finish : Cond.code yX6_finish cX6_finish 1 (some .int) ∈ lw_good := lg_r24 _ (List.mem_of_getElem? (i := 16) rfl)
theorem lk_n_X6_finish : Cond.instanceMethod yX6_finish ∈ lw_good := lg_r24 _ (List.mem_of_getElem? (i := 14) rfl)
theorem lk_v_X6_finish : Cond.selects RX6 yX6_finish yX6_finish ∈ lw_good := lg_r24 _ (List.mem_of_getElem? (i := 15) rfl)
theorem lk_c_X6_giveBack : Cond.code yX6_giveBack cX6_giveBack 3 (some .int) ∈ lw_good := lg_r22 _ (List.mem_of_getElem? (i := 6) rfl)
theorem lk_n_X6_giveBack : Cond.instanceMethod yX6_giveBack ∈ lw_good := lg_r22 _ (List.mem_of_getElem? (i := 4) rfl)
theorem lk_v_X6_giveBack : Cond.selects RX6 yX6_giveBack yX6_giveBack ∈ lw_good := lg_r22 _ (List.mem_of_getElem? (i := 5) rfl)
theorem lk_c_X6_goOnIf : Cond.code yX6_goOnIf cX6_goOnIf 3 (some .int) ∈ lw_good := lg_r21 _ (List.mem_of_getElem? (i := 19) rfl)
theorem lk_n_X6_goOnIf : Cond.instanceMethod yX6_goOnIf ∈ lw_good := lg_r21 _ (List.mem_of_getElem? (i := 17) rfl)
theorem lk_v_X6_goOnIf : Cond.selects RX6 yX6_goOnIf yX6_goOnIf ∈ lw_good := lg_r21 _ (List.mem_of_getElem? (i := 18) rfl)
theorem lk_c_X6_isGoing : Cond.code yX6_isGoing cX6_isGoing 1 (some .boolean) ∈ lw_good := lg_r19 _ (List.mem_of_getElem? (i := 23) rfl)
theorem lk_n_X6_isGoing : Cond.instanceMethod yX6_isGoing ∈ lw_good := lg_r19 _ (List.mem_of_getElem? (i := 21) rfl)
theorem lk_v_X6_isGoing : Cond.selects RX6 yX6_isGoing yX6_isGoing ∈ lw_good := lg_r19 _ (List.mem_of_getElem? (i := 22) rfl)
theorem lk_c_X6_keep : Cond.code yX6_keep cX6_keep 2 (some .int) ∈ lw_good := lg_r24 _ (List.mem_of_getElem? (i := 4) rfl)
theorem lk_n_X6_keep : Cond.instanceMethod yX6_keep ∈ lw_good := lg_r24 _ (List.mem_of_getElem? (i := 2) rfl)
theorem lk_v_X6_keep : Cond.selects RX6 yX6_keep yX6_keep ∈ lw_good := lg_r24 _ (List.mem_of_getElem? (i := 3) rfl)
theorem lk_c_X6_leaveDownTo : Cond.code yX6_leaveDownTo cX6_leaveDownTo 3 none ∈ lw_good := lg_r22 _ (List.mem_of_getElem? (i := 10) rfl)
theorem lk_n_X6_leaveDownTo : Cond.instanceMethod yX6_leaveDownTo ∈ lw_good := lg_r22 _ (List.mem_of_getElem? (i := 8) rfl)
theorem lk_v_X6_leaveDownTo : Cond.selects RX6 yX6_leaveDownTo yX6_leaveDownTo ∈ lw_good := lg_r22 _ (List.mem_of_getElem? (i := 9) rfl)
theorem lk_c_X6_placeOfGlobal : Cond.code yX6_placeOfGlobal cX6_placeOfGlobal 2 (some .int) ∈ lw_good := lg_r21 _ (List.mem_of_getElem? (i := 5) rfl)
theorem lk_n_X6_placeOfGlobal : Cond.instanceMethod yX6_placeOfGlobal ∈ lw_good := lg_r21 _ (List.mem_of_getElem? (i := 3) rfl)
theorem lk_v_X6_placeOfGlobal : Cond.selects RX6 yX6_placeOfGlobal yX6_placeOfGlobal ∈ lw_good := lg_r21 _ (List.mem_of_getElem? (i := 4) rfl)
theorem lk_c_X6_printRows : Cond.code yX6_printRows cX6_printRows 9 (some .int) ∈ lw_good := lg_r23 _ (List.mem_of_getElem? (i := 20) rfl)
theorem lk_n_X6_printRows : Cond.instanceMethod yX6_printRows ∈ lw_good := lg_r23 _ (List.mem_of_getElem? (i := 18) rfl)
theorem lk_v_X6_printRows : Cond.selects RX6 yX6_printRows yX6_printRows ∈ lw_good := lg_r23 _ (List.mem_of_getElem? (i := 19) rfl)
theorem lk_c_X6_raise : Cond.code yX6_raise cX6_raise 3 (some .int) ∈ lw_good := lg_r24 _ (List.mem_of_getElem? (i := 12) rfl)
theorem lk_n_X6_raise : Cond.instanceMethod yX6_raise ∈ lw_good := lg_r24 _ (List.mem_of_getElem? (i := 10) rfl)
theorem lk_v_X6_raise : Cond.selects RX6 yX6_raise yX6_raise ∈ lw_good := lg_r24 _ (List.mem_of_getElem? (i := 11) rfl)
theorem lk_c_X6_set : Cond.code yX6_set cX6_set 3 (some .int) ∈ lw_good := lg_r24 _ (List.mem_of_getElem? (i := 8) rfl)
theorem lk_n_X6_set : Cond.instanceMethod yX6_set ∈ lw_good := lg_r24 _ (List.mem_of_getElem? (i := 6) rfl)
theorem lk_v_X6_set : Cond.selects RX6 yX6_set yX6_set ∈ lw_good := lg_r24 _ (List.mem_of_getElem? (i := 7) rfl)
theorem lk_c_X6_settle : Cond.code yX6_settle cX6_settle 4 none ∈ lw_good := lg_r24 _ (List.mem_of_getElem? (i := 0) rfl)
theorem lk_n_X6_settle : Cond.instanceMethod yX6_settle ∈ lw_good := lg_r23 _ (List.mem_of_getElem? (i := 22) rfl)
theorem lk_v_X6_settle : Cond.selects RX6 yX6_settle yX6_settle ∈ lw_good := lg_r23 _ (List.mem_of_getElem? (i := 23) rfl)
theorem lk_c_X6_step : Cond.code yX6_step cX6_step 6 (some .int) ∈ lw_good := lg_r20 _ (List.mem_of_getElem? (i := 3) rfl)
theorem lk_n_X6_step : Cond.instanceMethod yX6_step ∈ lw_good := lg_r20 _ (List.mem_of_getElem? (i := 1) rfl)
theorem lk_v_X6_step : Cond.selects RX6 yX6_step yX6_step ∈ lw_good := lg_r20 _ (List.mem_of_getElem? (i := 2) rfl)
theorem lk_c_X6_tell : Cond.code yX6_tell cX6_tell 3 (some .int) ∈ lw_good := lg_r21 _ (List.mem_of_getElem? (i := 15) rfl)
theorem lk_n_X6_tell : Cond.instanceMethod yX6_tell ∈ lw_good := lg_r21 _ (List.mem_of_getElem? (i := 13) rfl)
theorem lk_v_X6_tell : Cond.selects RX6 yX6_tell yX6_tell ∈ lw_good := lg_r21 _ (List.mem_of_getElem? (i := 14) rfl)
theorem lk_c_X6_throwTo : Cond.code yX6_throwTo cX6_throwTo 3 (some .int) ∈ lw_good := lg_r23 _ (List.mem_of_getElem? (i := 2) rfl)
theorem lk_n_X6_throwTo : Cond.instanceMethod yX6_throwTo ∈ lw_good := lg_r23 _ (List.mem_of_getElem? (i := 0) rfl)
theorem lk_v_X6_throwTo : Cond.selects RX6 yX6_throwTo yX6_throwTo ∈ lw_good := lg_r23 _ (List.mem_of_getElem? (i := 1) rfl)
theorem lk_c_X8_act : Cond.code yX8_act cX8_act 9 none ∈ lw_good := lg_r26 _ (List.mem_of_getElem? (i := 14) rfl)
theorem lk_n_X8_act : Cond.instanceMethod yX8_act ∈ lw_good := lg_r26 _ (List.mem_of_getElem? (i := 12) rfl)
theorem lk_v_X8_act : Cond.selects RX8 yX8_act yX8_act ∈ lw_good := lg_r26 _ (List.mem_of_getElem? (i := 13) rfl)
theorem lk_c_X8_ask : Cond.code yX8_ask cX8_ask 2 (some .int) ∈ lw_good := lg_r26 _ (List.mem_of_getElem? (i := 2) rfl)
theorem lk_n_X8_ask : Cond.instanceMethod yX8_ask ∈ lw_good := lg_r26 _ (List.mem_of_getElem? (i := 0) rfl)
theorem lk_v_X8_ask : Cond.selects RX8 yX8_ask yX8_ask ∈ lw_good := lg_r26 _ (List.mem_of_getElem? (i := 1) rfl)
theorem lk_c_X8_back : Cond.code yX8_back cX8_back 3 none ∈ lw_good := lg_r27 _ (List.mem_of_getElem? (i := 6) rfl)
theorem lk_n_X8_back : Cond.instanceMethod yX8_back ∈ lw_good := lg_r27 _ (List.mem_of_getElem? (i := 4) rfl)
theorem lk_v_X8_back : Cond.selects RX8 yX8_back yX8_back ∈ lw_good := lg_r27 _ (List.mem_of_getElem? (i := 5) rfl)
theorem lk_c_X8_copied : Cond.code yX8_copied cX8_copied 7 none ∈ lw_good := lg_r12 _ (List.mem_of_getElem? (i := 3) rfl)
theorem lk_n_X8_copied : Cond.instanceMethod yX8_copied ∈ lw_good := lg_r12 _ (List.mem_of_getElem? (i := 1) rfl)
theorem lk_v_X8_copied : Cond.selects RX8 yX8_copied yX8_copied ∈ lw_good := lg_r12 _ (List.mem_of_getElem? (i := 2) rfl)
theorem lk_c_X8_drawn : Cond.code yX8_drawn cX8_drawn 4 (some .int) ∈ lw_good := lg_r14 _ (List.mem_of_getElem? (i := 14) rfl)
theorem lk_n_X8_drawn : Cond.instanceMethod yX8_drawn ∈ lw_good := lg_r14 _ (List.mem_of_getElem? (i := 12) rfl)
theorem lk_v_X8_drawn : Cond.selects RX8 yX8_drawn yX8_drawn ∈ lw_good := lg_r14 _ (List.mem_of_getElem? (i := 13) rfl)
theorem lk_c_X8_enter : Cond.code yX8_enter cX8_enter 6 none ∈ lw_good := lg_r25 _ (List.mem_of_getElem? (i := 11) rfl)
theorem lk_n_X8_enter : Cond.instanceMethod yX8_enter ∈ lw_good := lg_r25 _ (List.mem_of_getElem? (i := 9) rfl)
theorem lk_v_X8_enter : Cond.selects RX8 yX8_enter yX8_enter ∈ lw_good := lg_r25 _ (List.mem_of_getElem? (i := 10) rfl)
theorem lk_c_X8_isLocal : Cond.code yX8_isLocal cX8_isLocal 2 (some .boolean) ∈ lw_good := lg_r26 _ (List.mem_of_getElem? (i := 10) rfl)
theorem lk_n_X8_isLocal : Cond.instanceMethod yX8_isLocal ∈ lw_good := lg_r26 _ (List.mem_of_getElem? (i := 8) rfl)
theorem lk_v_X8_isLocal : Cond.selects RX8 yX8_isLocal yX8_isLocal ∈ lw_good := lg_r26 _ (List.mem_of_getElem? (i := 9) rfl)
theorem lk_c_X8_isThere : Cond.code yX8_isThere cX8_isThere 3 (some .boolean) ∈ lw_good := lg_r7 _ (List.mem_of_getElem? (i := 15) rfl)
theorem lk_n_X8_isThere : Cond.instanceMethod yX8_isThere ∈ lw_good := lg_r7 _ (List.mem_of_getElem? (i := 13) rfl)
theorem lk_v_X8_isThere : Cond.selects RX8 yX8_isThere yX8_isThere ∈ lw_good := lg_r7 _ (List.mem_of_getElem? (i := 14) rfl)
theorem lk_c_X8_leave : Cond.code yX8_leave cX8_leave 1 none ∈ lw_good := lg_r27 _ (List.mem_of_getElem? (i := 10) rfl)
theorem lk_n_X8_leave : Cond.instanceMethod yX8_leave ∈ lw_good := lg_r27 _ (List.mem_of_getElem? (i := 8) rfl)
theorem lk_v_X8_leave : Cond.selects RX8 yX8_leave yX8_leave ∈ lw_good := lg_r27 _ (List.mem_of_getElem? (i := 9) rfl)
theorem lk_c_X8_looked : Cond.code yX8_looked cX8_looked 9 (some .int) ∈ lw_good := lg_r13 _ (List.mem_of_getElem? (i := 0) rfl)
theorem lk_n_X8_looked : Cond.instanceMethod yX8_looked ∈ lw_good := lg_r12 _ (List.mem_of_getElem? (i := 22) rfl)
theorem lk_v_X8_looked : Cond.selects RX8 yX8_looked yX8_looked ∈ lw_good := lg_r12 _ (List.mem_of_getElem? (i := 23) rfl)
theorem lk_c_X8_more : Cond.code yX8_more cX8_more 4 none ∈ lw_good := lg_r26 _ (List.mem_of_getElem? (i := 18) rfl)
theorem lk_n_X8_more : Cond.instanceMethod yX8_more ∈ lw_good := lg_r26 _ (List.mem_of_getElem? (i := 16) rfl)
theorem lk_v_X8_more : Cond.selects RX8 yX8_more yX8_more ∈ lw_good := lg_r26 _ (List.mem_of_getElem? (i := 17) rfl)
theorem lk_c_X8_pop : Cond.code yX8_pop cX8_pop 1 (some .int) ∈ lw_good := lg_r26 _ (List.mem_of_getElem? (i := 6) rfl)
theorem lk_n_X8_pop : Cond.instanceMethod yX8_pop ∈ lw_good := lg_r26 _ (List.mem_of_getElem? (i := 4) rfl)
theorem lk_v_X8_pop : Cond.selects RX8 yX8_pop yX8_pop ∈ lw_good := lg_r26 _ (List.mem_of_getElem? (i := 5) rfl)
theorem lk_c_X8_print : Cond.code yX8_print cX8_print 2 none ∈ lw_good := lg_r27 _ (List.mem_of_getElem? (i := 22) rfl)
theorem lk_n_X8_print : Cond.instanceMethod yX8_print ∈ lw_good := lg_r27 _ (List.mem_of_getElem? (i := 20) rfl)
theorem lk_v_X8_print : Cond.selects RX8 yX8_print yX8_print ∈ lw_good := lg_r27 _ (List.mem_of_getElem? (i := 21) rfl)
theorem lk_c_X8_printNumber : Cond.code yX8_printNumber cX8_printNumber 4 none ∈ lw_good := lg_r27 _ (List.mem_of_getElem? (i := 18) rfl)
theorem lk_n_X8_printNumber : Cond.instanceMethod yX8_printNumber ∈ lw_good := lg_r27 _ (List.mem_of_getElem? (i := 16) rfl)
theorem lk_v_X8_printNumber : Cond.selects RX8 yX8_printNumber yX8_printNumber ∈ lw_good := lg_r27 _ (List.mem_of_getElem? (i := 17) rfl)
theorem lk_c_X8_printRows : Cond.code yX8_printRows cX8_printRows 7 none ∈ lw_good := lg_r28 _ (List.mem_of_getElem? (i := 2) rfl)
theorem lk_n_X8_printRows : Cond.instanceMethod yX8_printRows ∈ lw_good := lg_r28 _ (List.mem_of_getElem? (i := 0) rfl)
theorem lk_v_X8_printRows : Cond.selects RX8 yX8_printRows yX8_printRows ∈ lw_good := lg_r28 _ (List.mem_of_getElem? (i := 1) rfl)
theorem lk_c_X8_push : Cond.code yX8_push cX8_push 2 none ∈ lw_good := lg_r27 _ (List.mem_of_getElem? (i := 2) rfl)
theorem lk_n_X8_push : Cond.instanceMethod yX8_push ∈ lw_good := lg_r27 _ (List.mem_of_getElem? (i := 0) rfl)
theorem lk_v_X8_push : Cond.selects RX8 yX8_push yX8_push ∈ lw_good := lg_r27 _ (List.mem_of_getElem? (i := 1) rfl)
theorem lk_c_X8_read : Cond.code yX8_read cX8_read 3 (some .int) ∈ lw_good := lg_r7 _ (List.mem_of_getElem? (i := 11) rfl)
theorem lk_n_X8_read : Cond.instanceMethod yX8_read ∈ lw_good := lg_r7 _ (List.mem_of_getElem? (i := 9) rfl)
theorem lk_v_X8_read : Cond.selects RX8 yX8_read yX8_read ∈ lw_good := lg_r7 _ (List.mem_of_getElem? (i := 10) rfl)
theorem lk_c_X8_set : Cond.code yX8_set cX8_set 3 none ∈ lw_good := lg_r26 _ (List.mem_of_getElem? (i := 22) rfl)
theorem lk_n_X8_set : Cond.instanceMethod yX8_set ∈ lw_good := lg_r26 _ (List.mem_of_getElem? (i := 20) rfl)
theorem lk_v_X8_set : Cond.selects RX8 yX8_set yX8_set ∈ lw_good := lg_r26 _ (List.mem_of_getElem? (i := 21) rfl)
theorem lk_c_X8_shifted : Cond.code yX8_shifted cX8_shifted 6 (some .int) ∈ lw_good := lg_r10 _ (List.mem_of_getElem? (i := 14) rfl)
theorem lk_s_X8_shifted : Cond.static yX8_shifted ∈ lw_good := lg_r10 _ (List.mem_of_getElem? (i := 13) rfl)
theorem lk_c_X8_signed : Cond.code yX8_signed cX8_signed 2 (some .int) ∈ lw_good := lg_r10 _ (List.mem_of_getElem? (i := 4) rfl)
theorem lk_s_X8_signed : Cond.static yX8_signed ∈ lw_good := lg_r10 _ (List.mem_of_getElem? (i := 3) rfl)
theorem lk_c_X8_step : Cond.code yX8_step cX8_step 9 none ∈ lw_good := lg_r25 _ (List.mem_of_getElem? (i := 15) rfl)
theorem lk_n_X8_step : Cond.instanceMethod yX8_step ∈ lw_good := lg_r25 _ (List.mem_of_getElem? (i := 13) rfl)
theorem lk_v_X8_step : Cond.selects RX8 yX8_step yX8_step ∈ lw_good := lg_r25 _ (List.mem_of_getElem? (i := 14) rfl)
theorem lk_c_X8_throwTo : Cond.code yX8_throwTo cX8_throwTo 3 none ∈ lw_good := lg_r27 _ (List.mem_of_getElem? (i := 14) rfl)
theorem lk_n_X8_throwTo : Cond.instanceMethod yX8_throwTo ∈ lw_good := lg_r27 _ (List.mem_of_getElem? (i := 12) rfl)
theorem lk_v_X8_throwTo : Cond.selects RX8 yX8_throwTo yX8_throwTo ∈ lw_good := lg_r27 _ (List.mem_of_getElem? (i := 13) rfl)
theorem lk_c_X8_top : Cond.code yX8_top cX8_top 1 (some .int) ∈ lw_good := lg_r25 _ (List.mem_of_getElem? (i := 19) rfl)
theorem lk_n_X8_top : Cond.instanceMethod yX8_top ∈ lw_good := lg_r25 _ (List.mem_of_getElem? (i := 17) rfl)
theorem lk_v_X8_top : Cond.selects RX8 yX8_top yX8_top ∈ lw_good := lg_r25 _ (List.mem_of_getElem? (i := 18) rfl)
theorem lk_c_X8_up : Cond.code yX8_up cX8_up 2 none ∈ lw_good := lg_r28 _ (List.mem_of_getElem? (i := 6) rfl)
theorem lk_n_X8_up : Cond.instanceMethod yX8_up ∈ lw_good := lg_r28 _ (List.mem_of_getElem? (i := 4) rfl)
theorem lk_v_X8_up : Cond.selects RX8 yX8_up yX8_up ∈ lw_good := lg_r28 _ (List.mem_of_getElem? (i := 5) rfl)
theorem lk_c_X8_wants : Cond.code yX8_wants cX8_wants 1 (some .int) ∈ lw_good := lg_r25 _ (List.mem_of_getElem? (i := 22) rfl)
theorem lk_s_X8_wants : Cond.static yX8_wants ∈ lw_good := lg_r25 _ (List.mem_of_getElem? (i := 21) rfl)
theorem lk_c_X8_worked : Cond.code yX8_worked cX8_worked 4 (some .int) ∈ lw_good := lg_r10 _ (List.mem_of_getElem? (i := 11) rfl)
theorem lk_n_X8_worked : Cond.instanceMethod yX8_worked ∈ lw_good := lg_r10 _ (List.mem_of_getElem? (i := 9) rfl)
theorem lk_v_X8_worked : Cond.selects RX8 yX8_worked yX8_worked ∈ lw_good := lg_r10 _ (List.mem_of_getElem? (i := 10) rfl)
theorem lk_c_X8_write : Cond.code yX8_write cX8_write 5 none ∈ lw_good := lg_r8 _ (List.mem_of_getElem? (i := 11) rfl)
theorem lk_n_X8_write : Cond.instanceMethod yX8_write ∈ lw_good := lg_r8 _ (List.mem_of_getElem? (i := 9) rfl)
theorem lk_v_X8_write : Cond.selects RX8 yX8_write yX8_write ∈ lw_good := lg_r8 _ (List.mem_of_getElem? (i := 10) rfl)
theorem lk_i_X7 : Cond.initialized RX7 ∈ lw_good := lg_r1 _ (List.mem_of_getElem? (i := 2) rfl)
theorem lk_i_X0 : Cond.initialized RX0 ∈ lw_good := lg_r1 _ (List.mem_of_getElem? (i := 19) rfl)
theorem lk_i_X1 : Cond.initialized RX1 ∈ lw_good := lg_r4 _ (List.mem_of_getElem? (i := 5) rfl)
theorem lk_i_X2 : Cond.initialized RX2 ∈ lw_good := lg_r3 _ (List.mem_of_getElem? (i := 9) rfl)
theorem lk_i_X3 : Cond.initialized RX3 ∈ lw_good := lg_r1 _ (List.mem_of_getElem? (i := 15) rfl)
theorem lk_i_X4 : Cond.initialized RX4 ∈ lw_good := lg_r3 _ (List.mem_of_getElem? (i := 13) rfl)
theorem lk_i_X5 : Cond.initialized RX5 ∈ lw_good := lg_r1 _ (List.mem_of_getElem? (i := 23) rfl)
theorem lk_i_X6 : Cond.initialized RX6 ∈ lw_good := lg_r2 _ (List.mem_of_getElem? (i := 3) rfl)
theorem lk_i_X8 : Cond.initialized RX8 ∈ lw_good := lg_r1 _ (List.mem_of_getElem? (i := 5) rfl)
theorem lk_ms_abs : Cond.static Lib.Math.abs.name ∈ lw_good := lg_r11 _ (List.mem_of_getElem? (i := 0) rfl)
theorem lk_mc_abs : Cond.code Lib.Math.abs.name Lib.Math.abs.code 1 (some .int) ∈ lw_good := lg_r11 _ (List.mem_of_getElem? (i := 1) rfl)
theorem lk_ms_max : Cond.static Lib.Math.max.name ∈ lw_good := lg_r19 _ (List.mem_of_getElem? (i := 8) rfl)
theorem lk_mc_max : Cond.code Lib.Math.max.name Lib.Math.max.code 2 (some .int) ∈ lw_good := lg_r19 _ (List.mem_of_getElem? (i := 9) rfl)
theorem lk_ms_min : Cond.static Lib.Math.min.name ∈ lw_good := lg_r9 _ (List.mem_of_getElem? (i := 16) rfl)
theorem lk_mc_min : Cond.code Lib.Math.min.name Lib.Math.min.code 2 (some .int) ∈ lw_good := lg_r9 _ (List.mem_of_getElem? (i := 18) rfl)
theorem lk_mi : Cond.initialized "java/lang/Math" ∈ lw_good := lg_r9 _ (List.mem_of_getElem? (i := 17) rfl)
theorem lk_acn : Cond.native arraycopyName ∈ lw_good := lg_r11 _ (List.mem_of_getElem? (i := 11) rfl)
theorem lk_acs : Cond.static arraycopyName ∈ lw_good := lg_r11 _ (List.mem_of_getElem? (i := 12) rfl)
theorem lk_aci : Cond.initialized "java/lang/System" ∈ lw_good := lg_r11 _ (List.mem_of_getElem? (i := 13) rfl)
theorem lk_fc : Cond.code yJ7_fill_53178 cJ7_fill_53178 4 none ∈ lw_good := lg_r6 _ (List.mem_of_getElem? (i := 3) rfl)
theorem lk_fs : Cond.static yJ7_fill_53178 ∈ lw_good := lg_r6 _ (List.mem_of_getElem? (i := 1) rfl)
theorem lk_fi : Cond.initialized RJ7 ∈ lw_good := lg_r6 _ (List.mem_of_getElem? (i := 2) rfl)
theorem lk_mn_X7_11 : Cond.methodLinkNest RX7 11 yX3_init "ZMemory" ∈ z_nest := List.mem_of_getElem? (i := 28) rfl
theorem lk_mn_X7_18 : Cond.methodLinkNest RX7 18 yX0_init "ZMemory" ∈ z_nest := List.mem_of_getElem? (i := 29) rfl
theorem lk_mn_X7_25 : Cond.methodLinkNest RX7 25 yX5_init "ZMemory" ∈ z_nest := List.mem_of_getElem? (i := 30) rfl
theorem lk_mn_X2_21 : Cond.methodLinkNest RX2 21 yX1_init "ZMemory" ∈ z_nest := List.mem_of_getElem? (i := 31) rfl
theorem lk_mn_X6_20 : Cond.methodLinkNest RX6 20 yX4_init "ZMemory" ∈ z_nest := List.mem_of_getElem? (i := 32) rfl
theorem lb_m_X7_3 : Cond.methodLink RX7 3 objectInit ∈ lw_good := lg_r1 _ (List.mem_of_getElem? (i := 10) rfl)
theorem lb_oi : Cond.instanceMethod objectInit ∈ lw_good := lg_r1 _ (List.mem_of_getElem? (i := 11) rfl)
theorem lb_oc : Cond.code objectInit ⟨#[0xb1]⟩ 1 none ∈ lw_good := lg_r1 _ (List.mem_of_getElem? (i := 12) rfl)
theorem lb_c_X7_9 : Cond.classLink RX7 9 RX3 ∈ lw_good := lg_r1 _ (List.mem_of_getElem? (i := 13) rfl)
theorem lb_n_X3 : Cond.instantiable RX3 3 ∈ lw_good := lg_r1 _ (List.mem_of_getElem? (i := 14) rfl)
theorem lb_i_X3 : Cond.initialized RX3 ∈ lw_good := lg_r1 _ (List.mem_of_getElem? (i := 15) rfl)
theorem lb_m_X3_3 : Cond.methodLink RX3 3 objectInit ∈ lw_good := lg_r2 _ (List.mem_of_getElem? (i := 7) rfl)
theorem lb_ac_int : Cond.arrayClass .int ∈ lw_good := lg_r2 _ (List.mem_of_getElem? (i := 8) rfl)
theorem lb_f_X3_9 : Cond.fieldLink RX3 9 "ZMemory$Memory" "bytes" "[I" ∈ lw_good := lg_r2 _ (List.mem_of_getElem? (i := 9) rfl)
theorem lb_cc_X3_init : Cond.code yX3_init cX3_init 1 none ∈ lw_good := lg_r2 _ (List.mem_of_getElem? (i := 6) rfl)
theorem lb_im_X3_init : Cond.instanceMethod yX3_init ∈ lw_good := lg_r2 _ (List.mem_of_getElem? (i := 5) rfl)
theorem lb_f_X7_12 : Cond.fieldLink RX7 12 "ZMemory" "memory" "LZMemory$Memory;" ∈ lw_good := lg_r1 _ (List.mem_of_getElem? (i := 16) rfl)
theorem lb_c_X7_16 : Cond.classLink RX7 16 RX0 ∈ lw_good := lg_r1 _ (List.mem_of_getElem? (i := 17) rfl)
theorem lb_n_X0 : Cond.instantiable RX0 7 ∈ lw_good := lg_r1 _ (List.mem_of_getElem? (i := 18) rfl)
theorem lb_i_X0 : Cond.initialized RX0 ∈ lw_good := lg_r1 _ (List.mem_of_getElem? (i := 19) rfl)
theorem lb_m_X0_3 : Cond.methodLink RX0 3 objectInit ∈ lw_good := lg_r2 _ (List.mem_of_getElem? (i := 12) rfl)
theorem lb_f_X0_9 : Cond.fieldLink RX0 9 "ZMemory$Chance" "numbers" "[I" ∈ lw_good := lg_r2 _ (List.mem_of_getElem? (i := 13) rfl)
theorem lb_f_X0_15 : Cond.fieldLink RX0 15 "ZMemory$Chance" "way" "I" ∈ lw_good := lg_r2 _ (List.mem_of_getElem? (i := 14) rfl)
theorem lb_f_X0_19 : Cond.fieldLink RX0 19 "ZMemory$Chance" "seed" "I" ∈ lw_good := lg_r2 _ (List.mem_of_getElem? (i := 15) rfl)
theorem lb_cc_X0_init : Cond.code yX0_init cX0_init 1 none ∈ lw_good := lg_r2 _ (List.mem_of_getElem? (i := 11) rfl)
theorem lb_im_X0_init : Cond.instanceMethod yX0_init ∈ lw_good := lg_r2 _ (List.mem_of_getElem? (i := 10) rfl)
theorem lb_f_X7_19 : Cond.fieldLink RX7 19 "ZMemory" "chance" "LZMemory$Chance;" ∈ lw_good := lg_r1 _ (List.mem_of_getElem? (i := 20) rfl)
theorem lb_c_X7_23 : Cond.classLink RX7 23 RX5 ∈ lw_good := lg_r1 _ (List.mem_of_getElem? (i := 21) rfl)
theorem lb_n_X5 : Cond.instantiable RX5 8 ∈ lw_good := lg_r1 _ (List.mem_of_getElem? (i := 22) rfl)
theorem lb_i_X5 : Cond.initialized RX5 ∈ lw_good := lg_r1 _ (List.mem_of_getElem? (i := 23) rfl)
theorem lb_m_X5_3 : Cond.methodLink RX5 3 objectInit ∈ lw_good := lg_r2 _ (List.mem_of_getElem? (i := 18) rfl)
theorem lb_f_X5_9 : Cond.fieldLink RX5 9 "ZMemory$Program" "ops" "[I" ∈ lw_good := lg_r2 _ (List.mem_of_getElem? (i := 19) rfl)
theorem lb_f_X5_15 : Cond.fieldLink RX5 15 "ZMemory$Program" "operands" "[I" ∈ lw_good := lg_r2 _ (List.mem_of_getElem? (i := 20) rfl)
theorem lb_f_X5_18 : Cond.fieldLink RX5 18 "ZMemory$Program" "stores" "[I" ∈ lw_good := lg_r2 _ (List.mem_of_getElem? (i := 21) rfl)
theorem lb_ac_boolean : Cond.arrayClass .boolean ∈ lw_good := lg_r2 _ (List.mem_of_getElem? (i := 22) rfl)
theorem lb_f_X5_21 : Cond.fieldLink RX5 21 "ZMemory$Program" "defined" "[Z" ∈ lw_good := lg_r2 _ (List.mem_of_getElem? (i := 23) rfl)
theorem lb_f_X5_25 : Cond.fieldLink RX5 25 "ZMemory$Program" "starts" "[I" ∈ lw_good := lg_r3 _ (List.mem_of_getElem? (i := 0) rfl)
theorem lb_f_X5_28 : Cond.fieldLink RX5 28 "ZMemory$Program" "locals" "[I" ∈ lw_good := lg_r3 _ (List.mem_of_getElem? (i := 1) rfl)
theorem lb_f_X5_31 : Cond.fieldLink RX5 31 "ZMemory$Program" "guards" "[Z" ∈ lw_good := lg_r3 _ (List.mem_of_getElem? (i := 2) rfl)
theorem lb_cc_X5_init : Cond.code yX5_init cX5_init 1 none ∈ lw_good := lg_r2 _ (List.mem_of_getElem? (i := 17) rfl)
theorem lb_im_X5_init : Cond.instanceMethod yX5_init ∈ lw_good := lg_r2 _ (List.mem_of_getElem? (i := 16) rfl)
theorem lb_f_X7_26 : Cond.fieldLink RX7 26 "ZMemory" "program" "LZMemory$Program;" ∈ lw_good := lg_r2 _ (List.mem_of_getElem? (i := 0) rfl)
theorem lb_c_X7_30 : Cond.classLink RX7 30 RX6 ∈ lw_good := lg_r2 _ (List.mem_of_getElem? (i := 1) rfl)
theorem lb_n_X6 : Cond.instantiable RX6 17 ∈ lw_good := lg_r2 _ (List.mem_of_getElem? (i := 2) rfl)
theorem lb_i_X6 : Cond.initialized RX6 ∈ lw_good := lg_r2 _ (List.mem_of_getElem? (i := 3) rfl)
theorem lb_m_X6_3 : Cond.methodLink RX6 3 objectInit ∈ lw_good := lg_r3 _ (List.mem_of_getElem? (i := 6) rfl)
theorem lb_c_X6_9 : Cond.classLink RX6 9 RX2 ∈ lw_good := lg_r3 _ (List.mem_of_getElem? (i := 7) rfl)
theorem lb_n_X2 : Cond.instantiable RX2 5 ∈ lw_good := lg_r3 _ (List.mem_of_getElem? (i := 8) rfl)
theorem lb_i_X2 : Cond.initialized RX2 ∈ lw_good := lg_r3 _ (List.mem_of_getElem? (i := 9) rfl)
theorem lb_m_X2_3 : Cond.methodLink RX2 3 objectInit ∈ lw_good := lg_r4 _ (List.mem_of_getElem? (i := 0) rfl)
theorem lb_c_X2_9 : Cond.classLink RX2 9 RX1 ∈ lw_good := lg_r4 _ (List.mem_of_getElem? (i := 1) rfl)
theorem lb_f_X2_11 : Cond.fieldLink RX2 11 "ZMemory$Frames" "frames" "[LZMemory$Frame;" ∈ lw_good := lg_r4 _ (List.mem_of_getElem? (i := 2) rfl)
theorem lb_f_X2_17 : Cond.fieldLink RX2 17 "ZMemory$Frames" "stack" "[I" ∈ lw_good := lg_r4 _ (List.mem_of_getElem? (i := 3) rfl)
theorem lb_n_X1 : Cond.instantiable RX1 6 ∈ lw_good := lg_r4 _ (List.mem_of_getElem? (i := 4) rfl)
theorem lb_i_X1 : Cond.initialized RX1 ∈ lw_good := lg_r4 _ (List.mem_of_getElem? (i := 5) rfl)
theorem lb_m_X1_3 : Cond.methodLink RX1 3 objectInit ∈ lw_good := lg_r4 _ (List.mem_of_getElem? (i := 8) rfl)
theorem lb_f_X1_9 : Cond.fieldLink RX1 9 "ZMemory$Frame" "locals" "[I" ∈ lw_good := lg_r4 _ (List.mem_of_getElem? (i := 9) rfl)
theorem lb_cc_X1_init : Cond.code yX1_init cX1_init 1 none ∈ lw_good := lg_r4 _ (List.mem_of_getElem? (i := 7) rfl)
theorem lb_im_X1_init : Cond.instanceMethod yX1_init ∈ lw_good := lg_r4 _ (List.mem_of_getElem? (i := 6) rfl)
theorem lb_m_X6_11 : Cond.methodLink RX6 11 yX2_init ∈ lw_good := lg_r3 _ (List.mem_of_getElem? (i := 21) rfl)
theorem lb_cc_X2_init : Cond.code yX2_init cX2_init 2 none ∈ lw_good := lg_r3 _ (List.mem_of_getElem? (i := 23) rfl)
theorem lb_im_X2_init : Cond.instanceMethod yX2_init ∈ lw_good := lg_r3 _ (List.mem_of_getElem? (i := 22) rfl)
theorem lb_f_X6_12 : Cond.fieldLink RX6 12 "ZMemory$Runner" "frames" "LZMemory$Frames;" ∈ lw_good := lg_r3 _ (List.mem_of_getElem? (i := 10) rfl)
theorem lb_c_X6_18 : Cond.classLink RX6 18 RX4 ∈ lw_good := lg_r3 _ (List.mem_of_getElem? (i := 11) rfl)
theorem lb_n_X4 : Cond.instantiable RX4 2 ∈ lw_good := lg_r3 _ (List.mem_of_getElem? (i := 12) rfl)
theorem lb_i_X4 : Cond.initialized RX4 ∈ lw_good := lg_r3 _ (List.mem_of_getElem? (i := 13) rfl)
theorem lb_m_X4_3 : Cond.methodLink RX4 3 objectInit ∈ lw_good := lg_r4 _ (List.mem_of_getElem? (i := 12) rfl)
theorem lb_f_X4_9 : Cond.fieldLink RX4 9 "ZMemory$Page" "characters" "[I" ∈ lw_good := lg_r4 _ (List.mem_of_getElem? (i := 13) rfl)
theorem lb_cc_X4_init : Cond.code yX4_init cX4_init 1 none ∈ lw_good := lg_r4 _ (List.mem_of_getElem? (i := 11) rfl)
theorem lb_im_X4_init : Cond.instanceMethod yX4_init ∈ lw_good := lg_r4 _ (List.mem_of_getElem? (i := 10) rfl)
theorem lb_f_X6_21 : Cond.fieldLink RX6 21 "ZMemory$Runner" "page" "LZMemory$Page;" ∈ lw_good := lg_r3 _ (List.mem_of_getElem? (i := 14) rfl)
theorem lb_f_X6_25 : Cond.fieldLink RX6 25 "ZMemory$Runner" "leavings" "[I" ∈ lw_good := lg_r3 _ (List.mem_of_getElem? (i := 15) rfl)
theorem lb_f_X6_29 : Cond.fieldLink RX6 29 "ZMemory$Runner" "values" "[I" ∈ lw_good := lg_r3 _ (List.mem_of_getElem? (i := 16) rfl)
theorem lb_f_X6_32 : Cond.fieldLink RX6 32 "ZMemory$Runner" "form" "I" ∈ lw_good := lg_r3 _ (List.mem_of_getElem? (i := 17) rfl)
theorem lb_f_X6_36 : Cond.fieldLink RX6 36 "ZMemory$Runner" "memory" "LZMemory$Memory;" ∈ lw_good := lg_r3 _ (List.mem_of_getElem? (i := 18) rfl)
theorem lb_f_X6_40 : Cond.fieldLink RX6 40 "ZMemory$Runner" "chance" "LZMemory$Chance;" ∈ lw_good := lg_r3 _ (List.mem_of_getElem? (i := 19) rfl)
theorem lb_f_X6_44 : Cond.fieldLink RX6 44 "ZMemory$Runner" "program" "LZMemory$Program;" ∈ lw_good := lg_r3 _ (List.mem_of_getElem? (i := 20) rfl)
theorem lb_m_X7_32 : Cond.methodLink RX7 32 yX6_init ∈ lw_good := lg_r3 _ (List.mem_of_getElem? (i := 3) rfl)
theorem lb_cc_X6_init : Cond.code yX6_init cX6_init 4 none ∈ lw_good := lg_r3 _ (List.mem_of_getElem? (i := 5) rfl)
theorem lb_im_X6_init : Cond.instanceMethod yX6_init ∈ lw_good := lg_r3 _ (List.mem_of_getElem? (i := 4) rfl)
theorem lb_f_X7_35 : Cond.fieldLink RX7 35 "ZMemory" "runner" "LZMemory$Runner;" ∈ lw_good := lg_r2 _ (List.mem_of_getElem? (i := 4) rfl)
theorem lb_m_X8_1 : Cond.methodLink RX8 1 objectInit ∈ lw_good := lg_r4 _ (List.mem_of_getElem? (i := 17) rfl)
theorem lb_f_X8_7 : Cond.fieldLink RX8 7 "ZMemoryModel" "bytes" "[I" ∈ lw_good := lg_r4 _ (List.mem_of_getElem? (i := 18) rfl)
theorem lb_f_X8_13 : Cond.fieldLink RX8 13 "ZMemoryModel" "form" "I" ∈ lw_good := lg_r4 _ (List.mem_of_getElem? (i := 19) rfl)
theorem lb_f_X8_17 : Cond.fieldLink RX8 17 "ZMemoryModel" "seed" "I" ∈ lw_good := lg_r4 _ (List.mem_of_getElem? (i := 20) rfl)
theorem lb_f_X8_20 : Cond.fieldLink RX8 20 "ZMemoryModel" "tape" "[I" ∈ lw_good := lg_r4 _ (List.mem_of_getElem? (i := 21) rfl)
theorem lb_f_X8_23 : Cond.fieldLink RX8 23 "ZMemoryModel" "moved" "[I" ∈ lw_good := lg_r4 _ (List.mem_of_getElem? (i := 22) rfl)
theorem lb_f_X8_26 : Cond.fieldLink RX8 26 "ZMemoryModel" "ops" "[I" ∈ lw_good := lg_r4 _ (List.mem_of_getElem? (i := 23) rfl)
theorem lb_f_X8_29 : Cond.fieldLink RX8 29 "ZMemoryModel" "operands" "[I" ∈ lw_good := lg_r5 _ (List.mem_of_getElem? (i := 0) rfl)
theorem lb_f_X8_32 : Cond.fieldLink RX8 32 "ZMemoryModel" "stores" "[I" ∈ lw_good := lg_r5 _ (List.mem_of_getElem? (i := 1) rfl)
theorem lb_f_X8_35 : Cond.fieldLink RX8 35 "ZMemoryModel" "isRoutine" "[Z" ∈ lw_good := lg_r5 _ (List.mem_of_getElem? (i := 2) rfl)
theorem lb_f_X8_39 : Cond.fieldLink RX8 39 "ZMemoryModel" "begins" "[I" ∈ lw_good := lg_r5 _ (List.mem_of_getElem? (i := 3) rfl)
theorem lb_f_X8_42 : Cond.fieldLink RX8 42 "ZMemoryModel" "locals" "[I" ∈ lw_good := lg_r5 _ (List.mem_of_getElem? (i := 4) rfl)
theorem lb_f_X8_45 : Cond.fieldLink RX8 45 "ZMemoryModel" "isGuarded" "[Z" ∈ lw_good := lg_r5 _ (List.mem_of_getElem? (i := 5) rfl)
theorem lb_f_X8_48 : Cond.fieldLink RX8 48 "ZMemoryModel" "frameRoutine" "[I" ∈ lw_good := lg_r5 _ (List.mem_of_getElem? (i := 6) rfl)
theorem lb_f_X8_51 : Cond.fieldLink RX8 51 "ZMemoryModel" "framePlace" "[I" ∈ lw_good := lg_r5 _ (List.mem_of_getElem? (i := 7) rfl)
theorem lb_f_X8_54 : Cond.fieldLink RX8 54 "ZMemoryModel" "frameStore" "[I" ∈ lw_good := lg_r5 _ (List.mem_of_getElem? (i := 8) rfl)
theorem lb_f_X8_57 : Cond.fieldLink RX8 57 "ZMemoryModel" "frameBase" "[I" ∈ lw_good := lg_r5 _ (List.mem_of_getElem? (i := 9) rfl)
theorem lb_f_X8_60 : Cond.fieldLink RX8 60 "ZMemoryModel" "frameLocals" "[I" ∈ lw_good := lg_r5 _ (List.mem_of_getElem? (i := 10) rfl)
theorem lb_f_X8_63 : Cond.fieldLink RX8 63 "ZMemoryModel" "stack" "[I" ∈ lw_good := lg_r5 _ (List.mem_of_getElem? (i := 11) rfl)
theorem lb_f_X8_66 : Cond.fieldLink RX8 66 "ZMemoryModel" "prints" "[I" ∈ lw_good := lg_r5 _ (List.mem_of_getElem? (i := 12) rfl)
theorem lb_f_X8_69 : Cond.fieldLink RX8 69 "ZMemoryModel" "lefts" "[I" ∈ lw_good := lg_r5 _ (List.mem_of_getElem? (i := 13) rfl)
end
section
theorem dX0_init_0 : decode cX0_init 0 = .ok (.aload_n 0, 1) := by decide +kernel
theorem dX0_init_1 : decode cX0_init 1 = .ok (.invokespecial 3, 3) := by decide +kernel
theorem dX0_init_4 : decode cX0_init 4 = .ok (.aload_n 0, 1) := by decide +kernel
theorem dX0_init_5 : decode cX0_init 5 = .ok (.bipush 50, 2) := by decide +kernel
theorem dX0_init_7 : decode cX0_init 7 = .ok (.newarray .int, 2) := by decide +kernel
theorem dX0_init_9 : decode cX0_init 9 = .ok (.putfield 9, 3) := by decide +kernel
theorem dX0_init_12 : decode cX0_init 12 = .ok (.aload_n 0, 1) := by decide +kernel
theorem dX0_init_13 : decode cX0_init 13 = .ok (.iconst 0, 1) := by decide +kernel
theorem dX0_init_14 : decode cX0_init 14 = .ok (.putfield 15, 3) := by decide +kernel
theorem dX0_init_17 : decode cX0_init 17 = .ok (.aload_n 0, 1) := by decide +kernel
theorem dX0_init_18 : decode cX0_init 18 = .ok (.iconst 1, 1) := by decide +kernel
theorem dX0_init_19 : decode cX0_init 19 = .ok (.putfield 19, 3) := by decide +kernel
theorem dX0_init_22 : decode cX0_init 22 = .ok (.return_, 1) := by decide +kernel
theorem dX0_record_0 : decode cX0_record 0 = .ok (.aload_n 0, 1) := by decide +kernel
theorem dX0_record_1 : decode cX0_record 1 = .ok (.getfield 22, 3) := by decide +kernel
theorem dX0_record_4 : decode cX0_record 4 = .ok (.bipush 50, 2) := by decide +kernel
theorem dX0_record_6 : decode cX0_record 6 = .ok (.if_icmp .lt 6, 3) := by decide +kernel
theorem dX0_record_9 : decode cX0_record 9 = .ok (.bipush (-3), 2) := by decide +kernel
theorem dX0_record_11 : decode cX0_record 11 = .ok (.ireturn, 1) := by decide +kernel
theorem dX0_record_12 : decode cX0_record 12 = .ok (.aload_n 0, 1) := by decide +kernel
theorem dX0_record_13 : decode cX0_record 13 = .ok (.getfield 9, 3) := by decide +kernel
theorem dX0_record_16 : decode cX0_record 16 = .ok (.aload_n 0, 1) := by decide +kernel
theorem dX0_record_17 : decode cX0_record 17 = .ok (.getfield 25, 3) := by decide +kernel
theorem dX0_record_20 : decode cX0_record 20 = .ok (.aload_n 0, 1) := by decide +kernel
theorem dX0_record_21 : decode cX0_record 21 = .ok (.getfield 22, 3) := by decide +kernel
theorem dX0_record_24 : decode cX0_record 24 = .ok (.iadd, 1) := by decide +kernel
theorem dX0_record_25 : decode cX0_record 25 = .ok (.bipush 50, 2) := by decide +kernel
theorem dX0_record_27 : decode cX0_record 27 = .ok (.irem, 1) := by decide +kernel
theorem dX0_record_28 : decode cX0_record 28 = .ok (.iload_n 1, 1) := by decide +kernel
theorem dX0_record_29 : decode cX0_record 29 = .ok (.iastore, 1) := by decide +kernel
theorem dX0_record_30 : decode cX0_record 30 = .ok (.aload_n 0, 1) := by decide +kernel
theorem dX0_record_31 : decode cX0_record 31 = .ok (.dup, 1) := by decide +kernel
theorem dX0_record_32 : decode cX0_record 32 = .ok (.getfield 22, 3) := by decide +kernel
theorem dX0_record_35 : decode cX0_record 35 = .ok (.iconst 1, 1) := by decide +kernel
theorem dX0_record_36 : decode cX0_record 36 = .ok (.iadd, 1) := by decide +kernel
theorem dX0_record_37 : decode cX0_record 37 = .ok (.putfield 22, 3) := by decide +kernel
theorem dX0_record_40 : decode cX0_record 40 = .ok (.aload_n 0, 1) := by decide +kernel
theorem dX0_record_41 : decode cX0_record 41 = .ok (.getfield 22, 3) := by decide +kernel
theorem dX0_record_44 : decode cX0_record 44 = .ok (.ireturn, 1) := by decide +kernel
theorem dX0_draw_0 : decode cX0_draw 0 = .ok (.iload_n 1, 1) := by decide +kernel
theorem dX0_draw_1 : decode cX0_draw 1 = .ok (.ifCond .le 12, 3) := by decide +kernel
theorem dX0_draw_4 : decode cX0_draw 4 = .ok (.aload_n 0, 1) := by decide +kernel
theorem dX0_draw_5 : decode cX0_draw 5 = .ok (.invokevirtual 28, 3) := by decide +kernel
theorem dX0_draw_8 : decode cX0_draw 8 = .ok (.iload_n 1, 1) := by decide +kernel
theorem dX0_draw_9 : decode cX0_draw 9 = .ok (.irem, 1) := by decide +kernel
theorem dX0_draw_10 : decode cX0_draw 10 = .ok (.iconst 1, 1) := by decide +kernel
theorem dX0_draw_11 : decode cX0_draw 11 = .ok (.iadd, 1) := by decide +kernel
theorem dX0_draw_12 : decode cX0_draw 12 = .ok (.ireturn, 1) := by decide +kernel
theorem dX0_draw_13 : decode cX0_draw 13 = .ok (.iload_n 1, 1) := by decide +kernel
theorem dX0_draw_14 : decode cX0_draw 14 = .ok (.ifCond .ne 11, 3) := by decide +kernel
theorem dX0_draw_17 : decode cX0_draw 17 = .ok (.aload_n 0, 1) := by decide +kernel
theorem dX0_draw_18 : decode cX0_draw 18 = .ok (.iconst 2, 1) := by decide +kernel
theorem dX0_draw_19 : decode cX0_draw 19 = .ok (.putfield 15, 3) := by decide +kernel
theorem dX0_draw_22 : decode cX0_draw 22 = .ok (.goto 41, 3) := by decide +kernel
theorem dX0_draw_25 : decode cX0_draw 25 = .ok (.iload_n 1, 1) := by decide +kernel
theorem dX0_draw_26 : decode cX0_draw 26 = .ok (.ineg, 1) := by decide +kernel
theorem dX0_draw_27 : decode cX0_draw 27 = .ok (.sipush 1000, 3) := by decide +kernel
theorem dX0_draw_30 : decode cX0_draw 30 = .ok (.if_icmp .ge 22, 3) := by decide +kernel
theorem dX0_draw_33 : decode cX0_draw 33 = .ok (.aload_n 0, 1) := by decide +kernel
theorem dX0_draw_34 : decode cX0_draw 34 = .ok (.iconst 1, 1) := by decide +kernel
theorem dX0_draw_35 : decode cX0_draw 35 = .ok (.putfield 15, 3) := by decide +kernel
theorem dX0_draw_38 : decode cX0_draw 38 = .ok (.aload_n 0, 1) := by decide +kernel
theorem dX0_draw_39 : decode cX0_draw 39 = .ok (.iload_n 1, 1) := by decide +kernel
theorem dX0_draw_40 : decode cX0_draw 40 = .ok (.ineg, 1) := by decide +kernel
theorem dX0_draw_41 : decode cX0_draw 41 = .ok (.putfield 32, 3) := by decide +kernel
theorem dX0_draw_44 : decode cX0_draw 44 = .ok (.aload_n 0, 1) := by decide +kernel
theorem dX0_draw_45 : decode cX0_draw 45 = .ok (.iconst 0, 1) := by decide +kernel
theorem dX0_draw_46 : decode cX0_draw 46 = .ok (.putfield 35, 3) := by decide +kernel
theorem dX0_draw_49 : decode cX0_draw 49 = .ok (.goto 14, 3) := by decide +kernel
theorem dX0_draw_52 : decode cX0_draw 52 = .ok (.aload_n 0, 1) := by decide +kernel
theorem dX0_draw_53 : decode cX0_draw 53 = .ok (.iconst 0, 1) := by decide +kernel
theorem dX0_draw_54 : decode cX0_draw 54 = .ok (.putfield 15, 3) := by decide +kernel
theorem dX0_draw_57 : decode cX0_draw 57 = .ok (.aload_n 0, 1) := by decide +kernel
theorem dX0_draw_58 : decode cX0_draw 58 = .ok (.iload_n 1, 1) := by decide +kernel
theorem dX0_draw_59 : decode cX0_draw 59 = .ok (.ineg, 1) := by decide +kernel
theorem dX0_draw_60 : decode cX0_draw 60 = .ok (.putfield 19, 3) := by decide +kernel
theorem dX0_draw_63 : decode cX0_draw 63 = .ok (.iconst 0, 1) := by decide +kernel
theorem dX0_draw_64 : decode cX0_draw 64 = .ok (.ireturn, 1) := by decide +kernel
theorem dX0_next_0 : decode cX0_next 0 = .ok (.aload_n 0, 1) := by decide +kernel
theorem dX0_next_1 : decode cX0_next 1 = .ok (.getfield 15, 3) := by decide +kernel
theorem dX0_next_4 : decode cX0_next 4 = .ok (.iconst 1, 1) := by decide +kernel
theorem dX0_next_5 : decode cX0_next 5 = .ok (.if_icmp .ne 8, 3) := by decide +kernel
theorem dX0_next_8 : decode cX0_next 8 = .ok (.aload_n 0, 1) := by decide +kernel
theorem dX0_next_9 : decode cX0_next 9 = .ok (.invokevirtual 38, 3) := by decide +kernel
theorem dX0_next_12 : decode cX0_next 12 = .ok (.ireturn, 1) := by decide +kernel
theorem dX0_next_13 : decode cX0_next 13 = .ok (.aload_n 0, 1) := by decide +kernel
theorem dX0_next_14 : decode cX0_next 14 = .ok (.getfield 15, 3) := by decide +kernel
theorem dX0_next_17 : decode cX0_next 17 = .ok (.iconst 2, 1) := by decide +kernel
theorem dX0_next_18 : decode cX0_next 18 = .ok (.if_icmp .ne 17, 3) := by decide +kernel
theorem dX0_next_21 : decode cX0_next 21 = .ok (.aload_n 0, 1) := by decide +kernel
theorem dX0_next_22 : decode cX0_next 22 = .ok (.getfield 22, 3) := by decide +kernel
theorem dX0_next_25 : decode cX0_next 25 = .ok (.ifCond .le 10, 3) := by decide +kernel
theorem dX0_next_28 : decode cX0_next 28 = .ok (.aload_n 0, 1) := by decide +kernel
theorem dX0_next_29 : decode cX0_next 29 = .ok (.invokevirtual 41, 3) := by decide +kernel
theorem dX0_next_32 : decode cX0_next 32 = .ok (.goto 7, 3) := by decide +kernel
theorem dX0_next_35 : decode cX0_next 35 = .ok (.aload_n 0, 1) := by decide +kernel
theorem dX0_next_36 : decode cX0_next 36 = .ok (.invokevirtual 44, 3) := by decide +kernel
theorem dX0_next_39 : decode cX0_next 39 = .ok (.ireturn, 1) := by decide +kernel
theorem dX0_nextOfCount_0 : decode cX0_nextOfCount 0 = .ok (.aload_n 0, 1) := by decide +kernel
theorem dX0_nextOfCount_1 : decode cX0_nextOfCount 1 = .ok (.getfield 35, 3) := by decide +kernel
theorem dX0_nextOfCount_4 : decode cX0_nextOfCount 4 = .ok (.istore_n 1, 1) := by decide +kernel
theorem dX0_nextOfCount_5 : decode cX0_nextOfCount 5 = .ok (.aload_n 0, 1) := by decide +kernel
theorem dX0_nextOfCount_6 : decode cX0_nextOfCount 6 = .ok (.iload_n 1, 1) := by decide +kernel
theorem dX0_nextOfCount_7 : decode cX0_nextOfCount 7 = .ok (.iconst 1, 1) := by decide +kernel
theorem dX0_nextOfCount_8 : decode cX0_nextOfCount 8 = .ok (.iadd, 1) := by decide +kernel
theorem dX0_nextOfCount_9 : decode cX0_nextOfCount 9 = .ok (.aload_n 0, 1) := by decide +kernel
theorem dX0_nextOfCount_10 : decode cX0_nextOfCount 10 = .ok (.getfield 32, 3) := by decide +kernel
theorem dX0_nextOfCount_13 : decode cX0_nextOfCount 13 = .ok (.if_icmp .ge 9, 3) := by decide +kernel
theorem dX0_nextOfCount_16 : decode cX0_nextOfCount 16 = .ok (.iload_n 1, 1) := by decide +kernel
theorem dX0_nextOfCount_17 : decode cX0_nextOfCount 17 = .ok (.iconst 1, 1) := by decide +kernel
theorem dX0_nextOfCount_18 : decode cX0_nextOfCount 18 = .ok (.iadd, 1) := by decide +kernel
theorem dX0_nextOfCount_19 : decode cX0_nextOfCount 19 = .ok (.goto 4, 3) := by decide +kernel
theorem dX0_nextOfCount_22 : decode cX0_nextOfCount 22 = .ok (.iconst 0, 1) := by decide +kernel
theorem dX0_nextOfCount_23 : decode cX0_nextOfCount 23 = .ok (.putfield 35, 3) := by decide +kernel
theorem dX0_nextOfCount_26 : decode cX0_nextOfCount 26 = .ok (.iload_n 1, 1) := by decide +kernel
theorem dX0_nextOfCount_27 : decode cX0_nextOfCount 27 = .ok (.ireturn, 1) := by decide +kernel
theorem dX0_nextOfTape_0 : decode cX0_nextOfTape 0 = .ok (.aload_n 0, 1) := by decide +kernel
theorem dX0_nextOfTape_1 : decode cX0_nextOfTape 1 = .ok (.getfield 9, 3) := by decide +kernel
theorem dX0_nextOfTape_4 : decode cX0_nextOfTape 4 = .ok (.aload_n 0, 1) := by decide +kernel
theorem dX0_nextOfTape_5 : decode cX0_nextOfTape 5 = .ok (.getfield 25, 3) := by decide +kernel
theorem dX0_nextOfTape_8 : decode cX0_nextOfTape 8 = .ok (.iaload, 1) := by decide +kernel
theorem dX0_nextOfTape_9 : decode cX0_nextOfTape 9 = .ok (.istore_n 1, 1) := by decide +kernel
theorem dX0_nextOfTape_10 : decode cX0_nextOfTape 10 = .ok (.aload_n 0, 1) := by decide +kernel
theorem dX0_nextOfTape_11 : decode cX0_nextOfTape 11 = .ok (.aload_n 0, 1) := by decide +kernel
theorem dX0_nextOfTape_12 : decode cX0_nextOfTape 12 = .ok (.getfield 25, 3) := by decide +kernel
theorem dX0_nextOfTape_15 : decode cX0_nextOfTape 15 = .ok (.iconst 1, 1) := by decide +kernel
theorem dX0_nextOfTape_16 : decode cX0_nextOfTape 16 = .ok (.iadd, 1) := by decide +kernel
theorem dX0_nextOfTape_17 : decode cX0_nextOfTape 17 = .ok (.bipush 50, 2) := by decide +kernel
theorem dX0_nextOfTape_19 : decode cX0_nextOfTape 19 = .ok (.irem, 1) := by decide +kernel
theorem dX0_nextOfTape_20 : decode cX0_nextOfTape 20 = .ok (.putfield 25, 3) := by decide +kernel
theorem dX0_nextOfTape_23 : decode cX0_nextOfTape 23 = .ok (.aload_n 0, 1) := by decide +kernel
theorem dX0_nextOfTape_24 : decode cX0_nextOfTape 24 = .ok (.dup, 1) := by decide +kernel
theorem dX0_nextOfTape_25 : decode cX0_nextOfTape 25 = .ok (.getfield 22, 3) := by decide +kernel
theorem dX0_nextOfTape_28 : decode cX0_nextOfTape 28 = .ok (.iconst 1, 1) := by decide +kernel
theorem dX0_nextOfTape_29 : decode cX0_nextOfTape 29 = .ok (.isub, 1) := by decide +kernel
theorem dX0_nextOfTape_30 : decode cX0_nextOfTape 30 = .ok (.putfield 22, 3) := by decide +kernel
theorem dX0_nextOfTape_33 : decode cX0_nextOfTape 33 = .ok (.iload_n 1, 1) := by decide +kernel
theorem dX0_nextOfTape_34 : decode cX0_nextOfTape 34 = .ok (.ireturn, 1) := by decide +kernel
theorem dX0_nextOfSeed_0 : decode cX0_nextOfSeed 0 = .ok (.aload_n 0, 1) := by decide +kernel
theorem dX0_nextOfSeed_1 : decode cX0_nextOfSeed 1 = .ok (.aload_n 0, 1) := by decide +kernel
theorem dX0_nextOfSeed_2 : decode cX0_nextOfSeed 2 = .ok (.getfield 19, 3) := by decide +kernel
theorem dX0_nextOfSeed_5 : decode cX0_nextOfSeed 5 = .ok (.ldc 47, 2) := by decide +kernel
theorem dX0_nextOfSeed_7 : decode cX0_nextOfSeed 7 = .ok (.imul, 1) := by decide +kernel
theorem dX0_nextOfSeed_8 : decode cX0_nextOfSeed 8 = .ok (.sipush 12345, 3) := by decide +kernel
theorem dX0_nextOfSeed_11 : decode cX0_nextOfSeed 11 = .ok (.iadd, 1) := by decide +kernel
theorem dX0_nextOfSeed_12 : decode cX0_nextOfSeed 12 = .ok (.ldc 48, 2) := by decide +kernel
theorem dX0_nextOfSeed_14 : decode cX0_nextOfSeed 14 = .ok (.iand, 1) := by decide +kernel
theorem dX0_nextOfSeed_15 : decode cX0_nextOfSeed 15 = .ok (.putfield 19, 3) := by decide +kernel
theorem dX0_nextOfSeed_18 : decode cX0_nextOfSeed 18 = .ok (.aload_n 0, 1) := by decide +kernel
theorem dX0_nextOfSeed_19 : decode cX0_nextOfSeed 19 = .ok (.getfield 19, 3) := by decide +kernel
theorem dX0_nextOfSeed_22 : decode cX0_nextOfSeed 22 = .ok (.bipush 16, 2) := by decide +kernel
theorem dX0_nextOfSeed_24 : decode cX0_nextOfSeed 24 = .ok (.iushr, 1) := by decide +kernel
theorem dX0_nextOfSeed_25 : decode cX0_nextOfSeed 25 = .ok (.ireturn, 1) := by decide +kernel
theorem dX1_init_0 : decode cX1_init 0 = .ok (.aload_n 0, 1) := by decide +kernel
theorem dX1_init_1 : decode cX1_init 1 = .ok (.invokespecial 3, 3) := by decide +kernel
theorem dX1_init_4 : decode cX1_init 4 = .ok (.aload_n 0, 1) := by decide +kernel
theorem dX1_init_5 : decode cX1_init 5 = .ok (.bipush 15, 2) := by decide +kernel
theorem dX1_init_7 : decode cX1_init 7 = .ok (.newarray .int, 2) := by decide +kernel
theorem dX1_init_9 : decode cX1_init 9 = .ok (.putfield 9, 3) := by decide +kernel
theorem dX1_init_12 : decode cX1_init 12 = .ok (.return_, 1) := by decide +kernel
theorem dX1_local_0 : decode cX1_local 0 = .ok (.aload_n 0, 1) := by decide +kernel
theorem dX1_local_1 : decode cX1_local 1 = .ok (.iload_n 1, 1) := by decide +kernel
theorem dX1_local_2 : decode cX1_local 2 = .ok (.invokevirtual 15, 3) := by decide +kernel
theorem dX1_local_5 : decode cX1_local 5 = .ok (.ifCond .eq 14, 3) := by decide +kernel
theorem dX1_local_8 : decode cX1_local 8 = .ok (.aload_n 0, 1) := by decide +kernel
theorem dX1_local_9 : decode cX1_local 9 = .ok (.getfield 9, 3) := by decide +kernel
theorem dX1_local_12 : decode cX1_local 12 = .ok (.iload_n 1, 1) := by decide +kernel
theorem dX1_local_13 : decode cX1_local 13 = .ok (.iconst 1, 1) := by decide +kernel
theorem dX1_local_14 : decode cX1_local 14 = .ok (.isub, 1) := by decide +kernel
theorem dX1_local_15 : decode cX1_local 15 = .ok (.iaload, 1) := by decide +kernel
theorem dX1_local_16 : decode cX1_local 16 = .ok (.goto 5, 3) := by decide +kernel
theorem dX1_local_19 : decode cX1_local 19 = .ok (.bipush (-17), 2) := by decide +kernel
theorem dX1_local_21 : decode cX1_local 21 = .ok (.ireturn, 1) := by decide +kernel
theorem dX1_setLocal_0 : decode cX1_setLocal 0 = .ok (.aload_n 0, 1) := by decide +kernel
theorem dX1_setLocal_1 : decode cX1_setLocal 1 = .ok (.iload_n 1, 1) := by decide +kernel
theorem dX1_setLocal_2 : decode cX1_setLocal 2 = .ok (.invokevirtual 15, 3) := by decide +kernel
theorem dX1_setLocal_5 : decode cX1_setLocal 5 = .ok (.ifCond .ne 6, 3) := by decide +kernel
theorem dX1_setLocal_8 : decode cX1_setLocal 8 = .ok (.bipush (-17), 2) := by decide +kernel
theorem dX1_setLocal_10 : decode cX1_setLocal 10 = .ok (.ireturn, 1) := by decide +kernel
theorem dX1_setLocal_11 : decode cX1_setLocal 11 = .ok (.aload_n 0, 1) := by decide +kernel
theorem dX1_setLocal_12 : decode cX1_setLocal 12 = .ok (.getfield 9, 3) := by decide +kernel
theorem dX1_setLocal_15 : decode cX1_setLocal 15 = .ok (.iload_n 1, 1) := by decide +kernel
theorem dX1_setLocal_16 : decode cX1_setLocal 16 = .ok (.iconst 1, 1) := by decide +kernel
theorem dX1_setLocal_17 : decode cX1_setLocal 17 = .ok (.isub, 1) := by decide +kernel
theorem dX1_setLocal_18 : decode cX1_setLocal 18 = .ok (.iload_n 2, 1) := by decide +kernel
theorem dX1_setLocal_19 : decode cX1_setLocal 19 = .ok (.iastore, 1) := by decide +kernel
theorem dX1_setLocal_20 : decode cX1_setLocal 20 = .ok (.iconst 1, 1) := by decide +kernel
theorem dX1_setLocal_21 : decode cX1_setLocal 21 = .ok (.ireturn, 1) := by decide +kernel
theorem dX1_hasLocal_0 : decode cX1_hasLocal 0 = .ok (.iload_n 1, 1) := by decide +kernel
theorem dX1_hasLocal_1 : decode cX1_hasLocal 1 = .ok (.iconst 1, 1) := by decide +kernel
theorem dX1_hasLocal_2 : decode cX1_hasLocal 2 = .ok (.if_icmp .lt 15, 3) := by decide +kernel
theorem dX1_hasLocal_5 : decode cX1_hasLocal 5 = .ok (.iload_n 1, 1) := by decide +kernel
theorem dX1_hasLocal_6 : decode cX1_hasLocal 6 = .ok (.aload_n 0, 1) := by decide +kernel
theorem dX1_hasLocal_7 : decode cX1_hasLocal 7 = .ok (.getfield 19, 3) := by decide +kernel
theorem dX1_hasLocal_10 : decode cX1_hasLocal 10 = .ok (.if_icmp .gt 7, 3) := by decide +kernel
theorem dX1_hasLocal_13 : decode cX1_hasLocal 13 = .ok (.iconst 1, 1) := by decide +kernel
theorem dX1_hasLocal_14 : decode cX1_hasLocal 14 = .ok (.goto 4, 3) := by decide +kernel
theorem dX1_hasLocal_17 : decode cX1_hasLocal 17 = .ok (.iconst 0, 1) := by decide +kernel
theorem dX1_hasLocal_18 : decode cX1_hasLocal 18 = .ok (.ireturn, 1) := by decide +kernel
theorem dX2_init_0 : decode cX2_init 0 = .ok (.aload_n 0, 1) := by decide +kernel
theorem dX2_init_1 : decode cX2_init 1 = .ok (.invokespecial 3, 3) := by decide +kernel
theorem dX2_init_4 : decode cX2_init 4 = .ok (.aload_n 0, 1) := by decide +kernel
theorem dX2_init_5 : decode cX2_init 5 = .ok (.bipush 12, 2) := by decide +kernel
theorem dX2_init_7 : decode cX2_init 7 = .ok (.anewarray 9, 3) := by decide +kernel
theorem dX2_init_10 : decode cX2_init 10 = .ok (.putfield 11, 3) := by decide +kernel
theorem dX2_init_13 : decode cX2_init 13 = .ok (.aload_n 0, 1) := by decide +kernel
theorem dX2_init_14 : decode cX2_init 14 = .ok (.bipush 100, 2) := by decide +kernel
theorem dX2_init_16 : decode cX2_init 16 = .ok (.newarray .int, 2) := by decide +kernel
theorem dX2_init_18 : decode cX2_init 18 = .ok (.putfield 17, 3) := by decide +kernel
theorem dX2_init_21 : decode cX2_init 21 = .ok (.iconst 0, 1) := by decide +kernel
theorem dX2_init_22 : decode cX2_init 22 = .ok (.istore_n 1, 1) := by decide +kernel
theorem dX2_init_23 : decode cX2_init 23 = .ok (.iload_n 1, 1) := by decide +kernel
theorem dX2_init_24 : decode cX2_init 24 = .ok (.bipush 12, 2) := by decide +kernel
theorem dX2_init_26 : decode cX2_init 26 = .ok (.if_icmp .ge 22, 3) := by decide +kernel
theorem dX2_init_29 : decode cX2_init 29 = .ok (.aload_n 0, 1) := by decide +kernel
theorem dX2_init_30 : decode cX2_init 30 = .ok (.getfield 11, 3) := by decide +kernel
theorem dX2_init_33 : decode cX2_init 33 = .ok (.iload_n 1, 1) := by decide +kernel
theorem dX2_init_34 : decode cX2_init 34 = .ok (.new 9, 3) := by decide +kernel
theorem dX2_init_37 : decode cX2_init 37 = .ok (.dup, 1) := by decide +kernel
theorem dX2_init_38 : decode cX2_init 38 = .ok (.invokespecial 21, 3) := by decide +kernel
theorem dX2_init_41 : decode cX2_init 41 = .ok (.aastore, 1) := by decide +kernel
theorem dX2_init_42 : decode cX2_init 42 = .ok (.iinc 1 1, 3) := by decide +kernel
theorem dX2_init_45 : decode cX2_init 45 = .ok (.goto (-22), 3) := by decide +kernel
theorem dX2_init_48 : decode cX2_init 48 = .ok (.return_, 1) := by decide +kernel
theorem dX2_begin_0 : decode cX2_begin 0 = .ok (.aload_n 0, 1) := by decide +kernel
theorem dX2_begin_1 : decode cX2_begin 1 = .ok (.iconst 0, 1) := by decide +kernel
theorem dX2_begin_2 : decode cX2_begin 2 = .ok (.putfield 22, 3) := by decide +kernel
theorem dX2_begin_5 : decode cX2_begin 5 = .ok (.aload_n 0, 1) := by decide +kernel
theorem dX2_begin_6 : decode cX2_begin 6 = .ok (.iconst 0, 1) := by decide +kernel
theorem dX2_begin_7 : decode cX2_begin 7 = .ok (.putfield 26, 3) := by decide +kernel
theorem dX2_begin_10 : decode cX2_begin 10 = .ok (.aload_n 0, 1) := by decide +kernel
theorem dX2_begin_11 : decode cX2_begin 11 = .ok (.iconst 0, 1) := by decide +kernel
theorem dX2_begin_12 : decode cX2_begin 12 = .ok (.putfield 29, 3) := by decide +kernel
theorem dX2_begin_15 : decode cX2_begin 15 = .ok (.return_, 1) := by decide +kernel
theorem dX2_top_0 : decode cX2_top 0 = .ok (.aload_n 0, 1) := by decide +kernel
theorem dX2_top_1 : decode cX2_top 1 = .ok (.getfield 11, 3) := by decide +kernel
theorem dX2_top_4 : decode cX2_top 4 = .ok (.aload_n 0, 1) := by decide +kernel
theorem dX2_top_5 : decode cX2_top 5 = .ok (.getfield 26, 3) := by decide +kernel
theorem dX2_top_8 : decode cX2_top 8 = .ok (.ifCond .le 12, 3) := by decide +kernel
theorem dX2_top_11 : decode cX2_top 11 = .ok (.aload_n 0, 1) := by decide +kernel
theorem dX2_top_12 : decode cX2_top 12 = .ok (.getfield 26, 3) := by decide +kernel
theorem dX2_top_15 : decode cX2_top 15 = .ok (.iconst 1, 1) := by decide +kernel
theorem dX2_top_16 : decode cX2_top 16 = .ok (.isub, 1) := by decide +kernel
theorem dX2_top_17 : decode cX2_top 17 = .ok (.goto 4, 3) := by decide +kernel
theorem dX2_top_20 : decode cX2_top 20 = .ok (.iconst 0, 1) := by decide +kernel
theorem dX2_top_21 : decode cX2_top 21 = .ok (.aaload, 1) := by decide +kernel
theorem dX2_top_22 : decode cX2_top 22 = .ok (.areturn, 1) := by decide +kernel
theorem dX2_enter_0 : decode cX2_enter 0 = .ok (.aload_n 0, 1) := by decide +kernel
theorem dX2_enter_1 : decode cX2_enter 1 = .ok (.getfield 26, 3) := by decide +kernel
theorem dX2_enter_4 : decode cX2_enter 4 = .ok (.bipush 12, 2) := by decide +kernel
theorem dX2_enter_6 : decode cX2_enter 6 = .ok (.if_icmp .lt 5, 3) := by decide +kernel
theorem dX2_enter_9 : decode cX2_enter 9 = .ok (.aconst_null, 1) := by decide +kernel
theorem dX2_enter_10 : decode cX2_enter 10 = .ok (.areturn, 1) := by decide +kernel
theorem dX2_enter_11 : decode cX2_enter 11 = .ok (.aload_n 0, 1) := by decide +kernel
theorem dX2_enter_12 : decode cX2_enter 12 = .ok (.getfield 11, 3) := by decide +kernel
theorem dX2_enter_15 : decode cX2_enter 15 = .ok (.aload_n 0, 1) := by decide +kernel
theorem dX2_enter_16 : decode cX2_enter 16 = .ok (.getfield 26, 3) := by decide +kernel
theorem dX2_enter_19 : decode cX2_enter 19 = .ok (.aaload, 1) := by decide +kernel
theorem dX2_enter_20 : decode cX2_enter 20 = .ok (.astore_n 1, 1) := by decide +kernel
theorem dX2_enter_21 : decode cX2_enter 21 = .ok (.aload_n 1, 1) := by decide +kernel
theorem dX2_enter_22 : decode cX2_enter 22 = .ok (.getfield 32, 3) := by decide +kernel
theorem dX2_enter_25 : decode cX2_enter 25 = .ok (.iconst 0, 1) := by decide +kernel
theorem dX2_enter_26 : decode cX2_enter 26 = .ok (.invokestatic 35, 3) := by decide +kernel
theorem dX2_enter_29 : decode cX2_enter 29 = .ok (.aload_n 1, 1) := by decide +kernel
theorem dX2_enter_30 : decode cX2_enter 30 = .ok (.aload_n 0, 1) := by decide +kernel
theorem dX2_enter_31 : decode cX2_enter 31 = .ok (.getfield 22, 3) := by decide +kernel
theorem dX2_enter_34 : decode cX2_enter 34 = .ok (.putfield 41, 3) := by decide +kernel
theorem dX2_enter_37 : decode cX2_enter 37 = .ok (.aload_n 0, 1) := by decide +kernel
theorem dX2_enter_38 : decode cX2_enter 38 = .ok (.dup, 1) := by decide +kernel
theorem dX2_enter_39 : decode cX2_enter 39 = .ok (.getfield 26, 3) := by decide +kernel
theorem dX2_enter_42 : decode cX2_enter 42 = .ok (.iconst 1, 1) := by decide +kernel
theorem dX2_enter_43 : decode cX2_enter 43 = .ok (.iadd, 1) := by decide +kernel
theorem dX2_enter_44 : decode cX2_enter 44 = .ok (.putfield 26, 3) := by decide +kernel
theorem dX2_enter_47 : decode cX2_enter 47 = .ok (.aload_n 0, 1) := by decide +kernel
theorem dX2_enter_48 : decode cX2_enter 48 = .ok (.aload_n 0, 1) := by decide +kernel
theorem dX2_enter_49 : decode cX2_enter 49 = .ok (.getfield 29, 3) := by decide +kernel
theorem dX2_enter_52 : decode cX2_enter 52 = .ok (.aload_n 0, 1) := by decide +kernel
theorem dX2_enter_53 : decode cX2_enter 53 = .ok (.getfield 26, 3) := by decide +kernel
theorem dX2_enter_56 : decode cX2_enter 56 = .ok (.invokestatic 44, 3) := by decide +kernel
theorem dX2_enter_59 : decode cX2_enter 59 = .ok (.putfield 29, 3) := by decide +kernel
theorem dX2_enter_62 : decode cX2_enter 62 = .ok (.aload_n 1, 1) := by decide +kernel
theorem dX2_enter_63 : decode cX2_enter 63 = .ok (.areturn, 1) := by decide +kernel
theorem dX2_leave_0 : decode cX2_leave 0 = .ok (.aload_n 0, 1) := by decide +kernel
theorem dX2_leave_1 : decode cX2_leave 1 = .ok (.getfield 26, 3) := by decide +kernel
theorem dX2_leave_4 : decode cX2_leave 4 = .ok (.ifCond .le 29, 3) := by decide +kernel
theorem dX2_leave_7 : decode cX2_leave 7 = .ok (.aload_n 0, 1) := by decide +kernel
theorem dX2_leave_8 : decode cX2_leave 8 = .ok (.dup, 1) := by decide +kernel
theorem dX2_leave_9 : decode cX2_leave 9 = .ok (.getfield 26, 3) := by decide +kernel
theorem dX2_leave_12 : decode cX2_leave 12 = .ok (.iconst 1, 1) := by decide +kernel
theorem dX2_leave_13 : decode cX2_leave 13 = .ok (.isub, 1) := by decide +kernel
theorem dX2_leave_14 : decode cX2_leave 14 = .ok (.putfield 26, 3) := by decide +kernel
theorem dX2_leave_17 : decode cX2_leave 17 = .ok (.aload_n 0, 1) := by decide +kernel
theorem dX2_leave_18 : decode cX2_leave 18 = .ok (.aload_n 0, 1) := by decide +kernel
theorem dX2_leave_19 : decode cX2_leave 19 = .ok (.getfield 11, 3) := by decide +kernel
theorem dX2_leave_22 : decode cX2_leave 22 = .ok (.aload_n 0, 1) := by decide +kernel
theorem dX2_leave_23 : decode cX2_leave 23 = .ok (.getfield 26, 3) := by decide +kernel
theorem dX2_leave_26 : decode cX2_leave 26 = .ok (.aaload, 1) := by decide +kernel
theorem dX2_leave_27 : decode cX2_leave 27 = .ok (.getfield 41, 3) := by decide +kernel
theorem dX2_leave_30 : decode cX2_leave 30 = .ok (.putfield 22, 3) := by decide +kernel
theorem dX2_leave_33 : decode cX2_leave 33 = .ok (.return_, 1) := by decide +kernel
theorem dX2_pop_0 : decode cX2_pop 0 = .ok (.aload_n 0, 1) := by decide +kernel
theorem dX2_pop_1 : decode cX2_pop 1 = .ok (.getfield 22, 3) := by decide +kernel
theorem dX2_pop_4 : decode cX2_pop 4 = .ok (.aload_n 0, 1) := by decide +kernel
theorem dX2_pop_5 : decode cX2_pop 5 = .ok (.invokevirtual 50, 3) := by decide +kernel
theorem dX2_pop_8 : decode cX2_pop 8 = .ok (.getfield 41, 3) := by decide +kernel
theorem dX2_pop_11 : decode cX2_pop 11 = .ok (.if_icmp .gt 6, 3) := by decide +kernel
theorem dX2_pop_14 : decode cX2_pop 14 = .ok (.bipush (-14), 2) := by decide +kernel
theorem dX2_pop_16 : decode cX2_pop 16 = .ok (.ireturn, 1) := by decide +kernel
theorem dX2_pop_17 : decode cX2_pop 17 = .ok (.aload_n 0, 1) := by decide +kernel
theorem dX2_pop_18 : decode cX2_pop 18 = .ok (.dup, 1) := by decide +kernel
theorem dX2_pop_19 : decode cX2_pop 19 = .ok (.getfield 22, 3) := by decide +kernel
theorem dX2_pop_22 : decode cX2_pop 22 = .ok (.iconst 1, 1) := by decide +kernel
theorem dX2_pop_23 : decode cX2_pop 23 = .ok (.isub, 1) := by decide +kernel
theorem dX2_pop_24 : decode cX2_pop 24 = .ok (.putfield 22, 3) := by decide +kernel
theorem dX2_pop_27 : decode cX2_pop 27 = .ok (.aload_n 0, 1) := by decide +kernel
theorem dX2_pop_28 : decode cX2_pop 28 = .ok (.getfield 17, 3) := by decide +kernel
theorem dX2_pop_31 : decode cX2_pop 31 = .ok (.aload_n 0, 1) := by decide +kernel
theorem dX2_pop_32 : decode cX2_pop 32 = .ok (.getfield 22, 3) := by decide +kernel
theorem dX2_pop_35 : decode cX2_pop 35 = .ok (.iaload, 1) := by decide +kernel
theorem dX2_pop_36 : decode cX2_pop 36 = .ok (.ireturn, 1) := by decide +kernel
theorem dX2_push_0 : decode cX2_push 0 = .ok (.aload_n 0, 1) := by decide +kernel
theorem dX2_push_1 : decode cX2_push 1 = .ok (.getfield 22, 3) := by decide +kernel
theorem dX2_push_4 : decode cX2_push 4 = .ok (.bipush 100, 2) := by decide +kernel
theorem dX2_push_6 : decode cX2_push 6 = .ok (.if_icmp .lt 6, 3) := by decide +kernel
theorem dX2_push_9 : decode cX2_push 9 = .ok (.bipush (-15), 2) := by decide +kernel
theorem dX2_push_11 : decode cX2_push 11 = .ok (.ireturn, 1) := by decide +kernel
theorem dX2_push_12 : decode cX2_push 12 = .ok (.aload_n 0, 1) := by decide +kernel
theorem dX2_push_13 : decode cX2_push 13 = .ok (.getfield 17, 3) := by decide +kernel
theorem dX2_push_16 : decode cX2_push 16 = .ok (.aload_n 0, 1) := by decide +kernel
theorem dX2_push_17 : decode cX2_push 17 = .ok (.getfield 22, 3) := by decide +kernel
theorem dX2_push_20 : decode cX2_push 20 = .ok (.iload_n 1, 1) := by decide +kernel
theorem dX2_push_21 : decode cX2_push 21 = .ok (.iastore, 1) := by decide +kernel
theorem dX2_push_22 : decode cX2_push 22 = .ok (.aload_n 0, 1) := by decide +kernel
theorem dX2_push_23 : decode cX2_push 23 = .ok (.dup, 1) := by decide +kernel
theorem dX2_push_24 : decode cX2_push 24 = .ok (.getfield 22, 3) := by decide +kernel
theorem dX2_push_27 : decode cX2_push 27 = .ok (.iconst 1, 1) := by decide +kernel
theorem dX2_push_28 : decode cX2_push 28 = .ok (.iadd, 1) := by decide +kernel
theorem dX2_push_29 : decode cX2_push 29 = .ok (.putfield 22, 3) := by decide +kernel
theorem dX2_push_32 : decode cX2_push 32 = .ok (.iconst 1, 1) := by decide +kernel
theorem dX2_push_33 : decode cX2_push 33 = .ok (.ireturn, 1) := by decide +kernel
theorem dX3_init_0 : decode cX3_init 0 = .ok (.aload_n 0, 1) := by decide +kernel
theorem dX3_init_1 : decode cX3_init 1 = .ok (.invokespecial 3, 3) := by decide +kernel
theorem dX3_init_4 : decode cX3_init 4 = .ok (.aload_n 0, 1) := by decide +kernel
theorem dX3_init_5 : decode cX3_init 5 = .ok (.sipush 2000, 3) := by decide +kernel
theorem dX3_init_8 : decode cX3_init 8 = .ok (.newarray .int, 2) := by decide +kernel
theorem dX3_init_10 : decode cX3_init 10 = .ok (.putfield 9, 3) := by decide +kernel
theorem dX3_init_13 : decode cX3_init 13 = .ok (.return_, 1) := by decide +kernel
theorem dX3_begin_0 : decode cX3_begin 0 = .ok (.aload_n 0, 1) := by decide +kernel
theorem dX3_begin_1 : decode cX3_begin 1 = .ok (.getfield 9, 3) := by decide +kernel
theorem dX3_begin_4 : decode cX3_begin 4 = .ok (.iconst 0, 1) := by decide +kernel
theorem dX3_begin_5 : decode cX3_begin 5 = .ok (.invokestatic 15, 3) := by decide +kernel
theorem dX3_begin_8 : decode cX3_begin 8 = .ok (.aload_n 0, 1) := by decide +kernel
theorem dX3_begin_9 : decode cX3_begin 9 = .ok (.iload_n 1, 1) := by decide +kernel
theorem dX3_begin_10 : decode cX3_begin 10 = .ok (.putfield 21, 3) := by decide +kernel
theorem dX3_begin_13 : decode cX3_begin 13 = .ok (.aload_n 0, 1) := by decide +kernel
theorem dX3_begin_14 : decode cX3_begin 14 = .ok (.iload_n 2, 1) := by decide +kernel
theorem dX3_begin_15 : decode cX3_begin 15 = .ok (.putfield 25, 3) := by decide +kernel
theorem dX3_begin_18 : decode cX3_begin 18 = .ok (.return_, 1) := by decide +kernel
theorem dX3_isOutside_0 : decode cX3_isOutside 0 = .ok (.iload_n 1, 1) := by decide +kernel
theorem dX3_isOutside_1 : decode cX3_isOutside 1 = .ok (.ifCond .lt 11, 3) := by decide +kernel
theorem dX3_isOutside_4 : decode cX3_isOutside 4 = .ok (.iload_n 1, 1) := by decide +kernel
theorem dX3_isOutside_5 : decode cX3_isOutside 5 = .ok (.aload_n 0, 1) := by decide +kernel
theorem dX3_isOutside_6 : decode cX3_isOutside 6 = .ok (.getfield 21, 3) := by decide +kernel
theorem dX3_isOutside_9 : decode cX3_isOutside 9 = .ok (.if_icmp .lt 7, 3) := by decide +kernel
theorem dX3_isOutside_12 : decode cX3_isOutside 12 = .ok (.iconst 1, 1) := by decide +kernel
theorem dX3_isOutside_13 : decode cX3_isOutside 13 = .ok (.goto 4, 3) := by decide +kernel
theorem dX3_isOutside_16 : decode cX3_isOutside 16 = .ok (.iconst 0, 1) := by decide +kernel
theorem dX3_isOutside_17 : decode cX3_isOutside 17 = .ok (.ireturn, 1) := by decide +kernel
theorem dX3_byteAt_0 : decode cX3_byteAt 0 = .ok (.aload_n 0, 1) := by decide +kernel
theorem dX3_byteAt_1 : decode cX3_byteAt 1 = .ok (.iload_n 1, 1) := by decide +kernel
theorem dX3_byteAt_2 : decode cX3_byteAt 2 = .ok (.invokevirtual 28, 3) := by decide +kernel
theorem dX3_byteAt_5 : decode cX3_byteAt 5 = .ok (.ifCond .eq 8, 3) := by decide +kernel
theorem dX3_byteAt_8 : decode cX3_byteAt 8 = .ok (.bipush (-12), 2) := by decide +kernel
theorem dX3_byteAt_10 : decode cX3_byteAt 10 = .ok (.goto 9, 3) := by decide +kernel
theorem dX3_byteAt_13 : decode cX3_byteAt 13 = .ok (.aload_n 0, 1) := by decide +kernel
theorem dX3_byteAt_14 : decode cX3_byteAt 14 = .ok (.getfield 9, 3) := by decide +kernel
theorem dX3_byteAt_17 : decode cX3_byteAt 17 = .ok (.iload_n 1, 1) := by decide +kernel
theorem dX3_byteAt_18 : decode cX3_byteAt 18 = .ok (.iaload, 1) := by decide +kernel
theorem dX3_byteAt_19 : decode cX3_byteAt 19 = .ok (.ireturn, 1) := by decide +kernel
theorem dX3_wordAt_0 : decode cX3_wordAt 0 = .ok (.aload_n 0, 1) := by decide +kernel
theorem dX3_wordAt_1 : decode cX3_wordAt 1 = .ok (.iload_n 1, 1) := by decide +kernel
theorem dX3_wordAt_2 : decode cX3_wordAt 2 = .ok (.invokevirtual 28, 3) := by decide +kernel
theorem dX3_wordAt_5 : decode cX3_wordAt 5 = .ok (.ifCond .ne 13, 3) := by decide +kernel
theorem dX3_wordAt_8 : decode cX3_wordAt 8 = .ok (.aload_n 0, 1) := by decide +kernel
theorem dX3_wordAt_9 : decode cX3_wordAt 9 = .ok (.iload_n 1, 1) := by decide +kernel
theorem dX3_wordAt_10 : decode cX3_wordAt 10 = .ok (.iconst 1, 1) := by decide +kernel
theorem dX3_wordAt_11 : decode cX3_wordAt 11 = .ok (.iadd, 1) := by decide +kernel
theorem dX3_wordAt_12 : decode cX3_wordAt 12 = .ok (.invokevirtual 28, 3) := by decide +kernel
theorem dX3_wordAt_15 : decode cX3_wordAt 15 = .ok (.ifCond .eq 6, 3) := by decide +kernel
theorem dX3_wordAt_18 : decode cX3_wordAt 18 = .ok (.bipush (-12), 2) := by decide +kernel
theorem dX3_wordAt_20 : decode cX3_wordAt 20 = .ok (.ireturn, 1) := by decide +kernel
theorem dX3_wordAt_21 : decode cX3_wordAt 21 = .ok (.aload_n 0, 1) := by decide +kernel
theorem dX3_wordAt_22 : decode cX3_wordAt 22 = .ok (.getfield 9, 3) := by decide +kernel
theorem dX3_wordAt_25 : decode cX3_wordAt 25 = .ok (.iload_n 1, 1) := by decide +kernel
theorem dX3_wordAt_26 : decode cX3_wordAt 26 = .ok (.iaload, 1) := by decide +kernel
theorem dX3_wordAt_27 : decode cX3_wordAt 27 = .ok (.bipush 8, 2) := by decide +kernel
theorem dX3_wordAt_29 : decode cX3_wordAt 29 = .ok (.ishl, 1) := by decide +kernel
theorem dX3_wordAt_30 : decode cX3_wordAt 30 = .ok (.aload_n 0, 1) := by decide +kernel
theorem dX3_wordAt_31 : decode cX3_wordAt 31 = .ok (.getfield 9, 3) := by decide +kernel
theorem dX3_wordAt_34 : decode cX3_wordAt 34 = .ok (.iload_n 1, 1) := by decide +kernel
theorem dX3_wordAt_35 : decode cX3_wordAt 35 = .ok (.iconst 1, 1) := by decide +kernel
theorem dX3_wordAt_36 : decode cX3_wordAt 36 = .ok (.iadd, 1) := by decide +kernel
theorem dX3_wordAt_37 : decode cX3_wordAt 37 = .ok (.iaload, 1) := by decide +kernel
theorem dX3_wordAt_38 : decode cX3_wordAt 38 = .ok (.ior, 1) := by decide +kernel
theorem dX3_wordAt_39 : decode cX3_wordAt 39 = .ok (.ireturn, 1) := by decide +kernel
theorem dX3_setByte_0 : decode cX3_setByte 0 = .ok (.aload_n 0, 1) := by decide +kernel
theorem dX3_setByte_1 : decode cX3_setByte 1 = .ok (.iload_n 1, 1) := by decide +kernel
theorem dX3_setByte_2 : decode cX3_setByte 2 = .ok (.invokevirtual 28, 3) := by decide +kernel
theorem dX3_setByte_5 : decode cX3_setByte 5 = .ok (.ifCond .eq 6, 3) := by decide +kernel
theorem dX3_setByte_8 : decode cX3_setByte 8 = .ok (.bipush (-12), 2) := by decide +kernel
theorem dX3_setByte_10 : decode cX3_setByte 10 = .ok (.ireturn, 1) := by decide +kernel
theorem dX3_setByte_11 : decode cX3_setByte 11 = .ok (.iload_n 3, 1) := by decide +kernel
theorem dX3_setByte_12 : decode cX3_setByte 12 = .ok (.ifCond .ne 14, 3) := by decide +kernel
theorem dX3_setByte_15 : decode cX3_setByte 15 = .ok (.iload_n 1, 1) := by decide +kernel
theorem dX3_setByte_16 : decode cX3_setByte 16 = .ok (.aload_n 0, 1) := by decide +kernel
theorem dX3_setByte_17 : decode cX3_setByte 17 = .ok (.getfield 25, 3) := by decide +kernel
theorem dX3_setByte_20 : decode cX3_setByte 20 = .ok (.if_icmp .lt 6, 3) := by decide +kernel
theorem dX3_setByte_23 : decode cX3_setByte 23 = .ok (.bipush (-13), 2) := by decide +kernel
theorem dX3_setByte_25 : decode cX3_setByte 25 = .ok (.ireturn, 1) := by decide +kernel
theorem dX3_setByte_26 : decode cX3_setByte 26 = .ok (.aload_n 0, 1) := by decide +kernel
theorem dX3_setByte_27 : decode cX3_setByte 27 = .ok (.getfield 9, 3) := by decide +kernel
theorem dX3_setByte_30 : decode cX3_setByte 30 = .ok (.iload_n 1, 1) := by decide +kernel
theorem dX3_setByte_31 : decode cX3_setByte 31 = .ok (.iload_n 2, 1) := by decide +kernel
theorem dX3_setByte_32 : decode cX3_setByte 32 = .ok (.sipush 255, 3) := by decide +kernel
theorem dX3_setByte_35 : decode cX3_setByte 35 = .ok (.iand, 1) := by decide +kernel
theorem dX3_setByte_36 : decode cX3_setByte 36 = .ok (.iastore, 1) := by decide +kernel
theorem dX3_setByte_37 : decode cX3_setByte 37 = .ok (.iconst 1, 1) := by decide +kernel
theorem dX3_setByte_38 : decode cX3_setByte 38 = .ok (.ireturn, 1) := by decide +kernel
theorem dX3_setWord_0 : decode cX3_setWord 0 = .ok (.aload_n 0, 1) := by decide +kernel
theorem dX3_setWord_1 : decode cX3_setWord 1 = .ok (.iload_n 1, 1) := by decide +kernel
theorem dX3_setWord_2 : decode cX3_setWord 2 = .ok (.invokevirtual 28, 3) := by decide +kernel
theorem dX3_setWord_5 : decode cX3_setWord 5 = .ok (.ifCond .ne 13, 3) := by decide +kernel
theorem dX3_setWord_8 : decode cX3_setWord 8 = .ok (.aload_n 0, 1) := by decide +kernel
theorem dX3_setWord_9 : decode cX3_setWord 9 = .ok (.iload_n 1, 1) := by decide +kernel
theorem dX3_setWord_10 : decode cX3_setWord 10 = .ok (.iconst 1, 1) := by decide +kernel
theorem dX3_setWord_11 : decode cX3_setWord 11 = .ok (.iadd, 1) := by decide +kernel
theorem dX3_setWord_12 : decode cX3_setWord 12 = .ok (.invokevirtual 28, 3) := by decide +kernel
theorem dX3_setWord_15 : decode cX3_setWord 15 = .ok (.ifCond .eq 6, 3) := by decide +kernel
theorem dX3_setWord_18 : decode cX3_setWord 18 = .ok (.bipush (-12), 2) := by decide +kernel
theorem dX3_setWord_20 : decode cX3_setWord 20 = .ok (.ireturn, 1) := by decide +kernel
theorem dX3_setWord_21 : decode cX3_setWord 21 = .ok (.iload_n 3, 1) := by decide +kernel
theorem dX3_setWord_22 : decode cX3_setWord 22 = .ok (.ifCond .ne 16, 3) := by decide +kernel
theorem dX3_setWord_25 : decode cX3_setWord 25 = .ok (.iload_n 1, 1) := by decide +kernel
theorem dX3_setWord_26 : decode cX3_setWord 26 = .ok (.iconst 1, 1) := by decide +kernel
theorem dX3_setWord_27 : decode cX3_setWord 27 = .ok (.iadd, 1) := by decide +kernel
theorem dX3_setWord_28 : decode cX3_setWord 28 = .ok (.aload_n 0, 1) := by decide +kernel
theorem dX3_setWord_29 : decode cX3_setWord 29 = .ok (.getfield 25, 3) := by decide +kernel
theorem dX3_setWord_32 : decode cX3_setWord 32 = .ok (.if_icmp .lt 6, 3) := by decide +kernel
theorem dX3_setWord_35 : decode cX3_setWord 35 = .ok (.bipush (-13), 2) := by decide +kernel
theorem dX3_setWord_37 : decode cX3_setWord 37 = .ok (.ireturn, 1) := by decide +kernel
theorem dX3_setWord_38 : decode cX3_setWord 38 = .ok (.aload_n 0, 1) := by decide +kernel
theorem dX3_setWord_39 : decode cX3_setWord 39 = .ok (.getfield 9, 3) := by decide +kernel
theorem dX3_setWord_42 : decode cX3_setWord 42 = .ok (.iload_n 1, 1) := by decide +kernel
theorem dX3_setWord_43 : decode cX3_setWord 43 = .ok (.iload_n 2, 1) := by decide +kernel
theorem dX3_setWord_44 : decode cX3_setWord 44 = .ok (.bipush 8, 2) := by decide +kernel
theorem dX3_setWord_46 : decode cX3_setWord 46 = .ok (.ishr, 1) := by decide +kernel
theorem dX3_setWord_47 : decode cX3_setWord 47 = .ok (.sipush 255, 3) := by decide +kernel
theorem dX3_setWord_50 : decode cX3_setWord 50 = .ok (.iand, 1) := by decide +kernel
theorem dX3_setWord_51 : decode cX3_setWord 51 = .ok (.iastore, 1) := by decide +kernel
theorem dX3_setWord_52 : decode cX3_setWord 52 = .ok (.aload_n 0, 1) := by decide +kernel
theorem dX3_setWord_53 : decode cX3_setWord 53 = .ok (.getfield 9, 3) := by decide +kernel
theorem dX3_setWord_56 : decode cX3_setWord 56 = .ok (.iload_n 1, 1) := by decide +kernel
theorem dX3_setWord_57 : decode cX3_setWord 57 = .ok (.iconst 1, 1) := by decide +kernel
theorem dX3_setWord_58 : decode cX3_setWord 58 = .ok (.iadd, 1) := by decide +kernel
theorem dX3_setWord_59 : decode cX3_setWord 59 = .ok (.iload_n 2, 1) := by decide +kernel
theorem dX3_setWord_60 : decode cX3_setWord 60 = .ok (.sipush 255, 3) := by decide +kernel
theorem dX3_setWord_63 : decode cX3_setWord 63 = .ok (.iand, 1) := by decide +kernel
theorem dX3_setWord_64 : decode cX3_setWord 64 = .ok (.iastore, 1) := by decide +kernel
theorem dX3_setWord_65 : decode cX3_setWord 65 = .ok (.iconst 1, 1) := by decide +kernel
theorem dX3_setWord_66 : decode cX3_setWord 66 = .ok (.ireturn, 1) := by decide +kernel
theorem dX3_copyTable_0 : decode cX3_copyTable 0 = .ok (.iload_n 3, 1) := by decide +kernel
theorem dX3_copyTable_1 : decode cX3_copyTable 1 = .ok (.ifCond .ne 5, 3) := by decide +kernel
theorem dX3_copyTable_4 : decode cX3_copyTable 4 = .ok (.iconst 1, 1) := by decide +kernel
theorem dX3_copyTable_5 : decode cX3_copyTable 5 = .ok (.ireturn, 1) := by decide +kernel
theorem dX3_copyTable_6 : decode cX3_copyTable 6 = .ok (.iload_n 2, 1) := by decide +kernel
theorem dX3_copyTable_7 : decode cX3_copyTable 7 = .ok (.ifCond .ne 13, 3) := by decide +kernel
theorem dX3_copyTable_10 : decode cX3_copyTable 10 = .ok (.aload_n 0, 1) := by decide +kernel
theorem dX3_copyTable_11 : decode cX3_copyTable 11 = .ok (.iload_n 1, 1) := by decide +kernel
theorem dX3_copyTable_12 : decode cX3_copyTable 12 = .ok (.iload_n 3, 1) := by decide +kernel
theorem dX3_copyTable_13 : decode cX3_copyTable 13 = .ok (.invokestatic 32, 3) := by decide +kernel
theorem dX3_copyTable_16 : decode cX3_copyTable 16 = .ok (.invokevirtual 38, 3) := by decide +kernel
theorem dX3_copyTable_19 : decode cX3_copyTable 19 = .ok (.ireturn, 1) := by decide +kernel
theorem dX3_copyTable_20 : decode cX3_copyTable 20 = .ok (.iload_n 3, 1) := by decide +kernel
theorem dX3_copyTable_21 : decode cX3_copyTable 21 = .ok (.ifCond .le 13, 3) := by decide +kernel
theorem dX3_copyTable_24 : decode cX3_copyTable 24 = .ok (.aload_n 0, 1) := by decide +kernel
theorem dX3_copyTable_25 : decode cX3_copyTable 25 = .ok (.iload_n 1, 1) := by decide +kernel
theorem dX3_copyTable_26 : decode cX3_copyTable 26 = .ok (.iload_n 2, 1) := by decide +kernel
theorem dX3_copyTable_27 : decode cX3_copyTable 27 = .ok (.iload_n 3, 1) := by decide +kernel
theorem dX3_copyTable_28 : decode cX3_copyTable 28 = .ok (.invokevirtual 42, 3) := by decide +kernel
theorem dX3_copyTable_31 : decode cX3_copyTable 31 = .ok (.goto 11, 3) := by decide +kernel
theorem dX3_copyTable_34 : decode cX3_copyTable 34 = .ok (.aload_n 0, 1) := by decide +kernel
theorem dX3_copyTable_35 : decode cX3_copyTable 35 = .ok (.iload_n 1, 1) := by decide +kernel
theorem dX3_copyTable_36 : decode cX3_copyTable 36 = .ok (.iload_n 2, 1) := by decide +kernel
theorem dX3_copyTable_37 : decode cX3_copyTable 37 = .ok (.iload_n 3, 1) := by decide +kernel
theorem dX3_copyTable_38 : decode cX3_copyTable 38 = .ok (.ineg, 1) := by decide +kernel
theorem dX3_copyTable_39 : decode cX3_copyTable 39 = .ok (.invokevirtual 46, 3) := by decide +kernel
theorem dX3_copyTable_42 : decode cX3_copyTable 42 = .ok (.ireturn, 1) := by decide +kernel
theorem dX3_wipe_0 : decode cX3_wipe 0 = .ok (.aload_n 0, 1) := by decide +kernel
theorem dX3_wipe_1 : decode cX3_wipe 1 = .ok (.iload_n 1, 1) := by decide +kernel
theorem dX3_wipe_2 : decode cX3_wipe 2 = .ok (.invokevirtual 28, 3) := by decide +kernel
theorem dX3_wipe_5 : decode cX3_wipe 5 = .ok (.ifCond .ne 15, 3) := by decide +kernel
theorem dX3_wipe_8 : decode cX3_wipe 8 = .ok (.aload_n 0, 1) := by decide +kernel
theorem dX3_wipe_9 : decode cX3_wipe 9 = .ok (.iload_n 1, 1) := by decide +kernel
theorem dX3_wipe_10 : decode cX3_wipe 10 = .ok (.iload_n 2, 1) := by decide +kernel
theorem dX3_wipe_11 : decode cX3_wipe 11 = .ok (.iadd, 1) := by decide +kernel
theorem dX3_wipe_12 : decode cX3_wipe 12 = .ok (.iconst 1, 1) := by decide +kernel
theorem dX3_wipe_13 : decode cX3_wipe 13 = .ok (.isub, 1) := by decide +kernel
theorem dX3_wipe_14 : decode cX3_wipe 14 = .ok (.invokevirtual 28, 3) := by decide +kernel
theorem dX3_wipe_17 : decode cX3_wipe 17 = .ok (.ifCond .eq 6, 3) := by decide +kernel
theorem dX3_wipe_20 : decode cX3_wipe 20 = .ok (.bipush (-12), 2) := by decide +kernel
theorem dX3_wipe_22 : decode cX3_wipe 22 = .ok (.ireturn, 1) := by decide +kernel
theorem dX3_wipe_23 : decode cX3_wipe 23 = .ok (.iload_n 1, 1) := by decide +kernel
theorem dX3_wipe_24 : decode cX3_wipe 24 = .ok (.iload_n 2, 1) := by decide +kernel
theorem dX3_wipe_25 : decode cX3_wipe 25 = .ok (.iadd, 1) := by decide +kernel
theorem dX3_wipe_26 : decode cX3_wipe 26 = .ok (.aload_n 0, 1) := by decide +kernel
theorem dX3_wipe_27 : decode cX3_wipe 27 = .ok (.getfield 25, 3) := by decide +kernel
theorem dX3_wipe_30 : decode cX3_wipe 30 = .ok (.if_icmp .le 6, 3) := by decide +kernel
theorem dX3_wipe_33 : decode cX3_wipe 33 = .ok (.bipush (-13), 2) := by decide +kernel
theorem dX3_wipe_35 : decode cX3_wipe 35 = .ok (.ireturn, 1) := by decide +kernel
theorem dX3_wipe_36 : decode cX3_wipe 36 = .ok (.iconst 0, 1) := by decide +kernel
theorem dX3_wipe_37 : decode cX3_wipe 37 = .ok (.istore_n 3, 1) := by decide +kernel
theorem dX3_wipe_38 : decode cX3_wipe 38 = .ok (.iload_n 3, 1) := by decide +kernel
theorem dX3_wipe_39 : decode cX3_wipe 39 = .ok (.iload_n 2, 1) := by decide +kernel
theorem dX3_wipe_40 : decode cX3_wipe 40 = .ok (.if_icmp .ge 18, 3) := by decide +kernel
theorem dX3_wipe_43 : decode cX3_wipe 43 = .ok (.aload_n 0, 1) := by decide +kernel
theorem dX3_wipe_44 : decode cX3_wipe 44 = .ok (.getfield 9, 3) := by decide +kernel
theorem dX3_wipe_47 : decode cX3_wipe 47 = .ok (.iload_n 1, 1) := by decide +kernel
theorem dX3_wipe_48 : decode cX3_wipe 48 = .ok (.iload_n 3, 1) := by decide +kernel
theorem dX3_wipe_49 : decode cX3_wipe 49 = .ok (.iadd, 1) := by decide +kernel
theorem dX3_wipe_50 : decode cX3_wipe 50 = .ok (.iconst 0, 1) := by decide +kernel
theorem dX3_wipe_51 : decode cX3_wipe 51 = .ok (.iastore, 1) := by decide +kernel
theorem dX3_wipe_52 : decode cX3_wipe 52 = .ok (.iinc 3 1, 3) := by decide +kernel
theorem dX3_wipe_55 : decode cX3_wipe 55 = .ok (.goto (-17), 3) := by decide +kernel
theorem dX3_wipe_58 : decode cX3_wipe 58 = .ok (.iconst 1, 1) := by decide +kernel
theorem dX3_wipe_59 : decode cX3_wipe 59 = .ok (.ireturn, 1) := by decide +kernel
theorem dX3_copyAtOnce_0 : decode cX3_copyAtOnce 0 = .ok (.aload_n 0, 1) := by decide +kernel
theorem dX3_copyAtOnce_1 : decode cX3_copyAtOnce 1 = .ok (.iload_n 1, 1) := by decide +kernel
theorem dX3_copyAtOnce_2 : decode cX3_copyAtOnce 2 = .ok (.invokevirtual 28, 3) := by decide +kernel
theorem dX3_copyAtOnce_5 : decode cX3_copyAtOnce 5 = .ok (.ifCond .ne 35, 3) := by decide +kernel
theorem dX3_copyAtOnce_8 : decode cX3_copyAtOnce 8 = .ok (.aload_n 0, 1) := by decide +kernel
theorem dX3_copyAtOnce_9 : decode cX3_copyAtOnce 9 = .ok (.iload_n 1, 1) := by decide +kernel
theorem dX3_copyAtOnce_10 : decode cX3_copyAtOnce 10 = .ok (.iload_n 3, 1) := by decide +kernel
theorem dX3_copyAtOnce_11 : decode cX3_copyAtOnce 11 = .ok (.iadd, 1) := by decide +kernel
theorem dX3_copyAtOnce_12 : decode cX3_copyAtOnce 12 = .ok (.iconst 1, 1) := by decide +kernel
theorem dX3_copyAtOnce_13 : decode cX3_copyAtOnce 13 = .ok (.isub, 1) := by decide +kernel
theorem dX3_copyAtOnce_14 : decode cX3_copyAtOnce 14 = .ok (.invokevirtual 28, 3) := by decide +kernel
theorem dX3_copyAtOnce_17 : decode cX3_copyAtOnce 17 = .ok (.ifCond .ne 23, 3) := by decide +kernel
theorem dX3_copyAtOnce_20 : decode cX3_copyAtOnce 20 = .ok (.aload_n 0, 1) := by decide +kernel
theorem dX3_copyAtOnce_21 : decode cX3_copyAtOnce 21 = .ok (.iload_n 2, 1) := by decide +kernel
theorem dX3_copyAtOnce_22 : decode cX3_copyAtOnce 22 = .ok (.invokevirtual 28, 3) := by decide +kernel
theorem dX3_copyAtOnce_25 : decode cX3_copyAtOnce 25 = .ok (.ifCond .ne 15, 3) := by decide +kernel
theorem dX3_copyAtOnce_28 : decode cX3_copyAtOnce 28 = .ok (.aload_n 0, 1) := by decide +kernel
theorem dX3_copyAtOnce_29 : decode cX3_copyAtOnce 29 = .ok (.iload_n 2, 1) := by decide +kernel
theorem dX3_copyAtOnce_30 : decode cX3_copyAtOnce 30 = .ok (.iload_n 3, 1) := by decide +kernel
theorem dX3_copyAtOnce_31 : decode cX3_copyAtOnce 31 = .ok (.iadd, 1) := by decide +kernel
theorem dX3_copyAtOnce_32 : decode cX3_copyAtOnce 32 = .ok (.iconst 1, 1) := by decide +kernel
theorem dX3_copyAtOnce_33 : decode cX3_copyAtOnce 33 = .ok (.isub, 1) := by decide +kernel
theorem dX3_copyAtOnce_34 : decode cX3_copyAtOnce 34 = .ok (.invokevirtual 28, 3) := by decide +kernel
theorem dX3_copyAtOnce_37 : decode cX3_copyAtOnce 37 = .ok (.ifCond .eq 6, 3) := by decide +kernel
theorem dX3_copyAtOnce_40 : decode cX3_copyAtOnce 40 = .ok (.bipush (-12), 2) := by decide +kernel
theorem dX3_copyAtOnce_42 : decode cX3_copyAtOnce 42 = .ok (.ireturn, 1) := by decide +kernel
theorem dX3_copyAtOnce_43 : decode cX3_copyAtOnce 43 = .ok (.iload_n 2, 1) := by decide +kernel
theorem dX3_copyAtOnce_44 : decode cX3_copyAtOnce 44 = .ok (.iload_n 3, 1) := by decide +kernel
theorem dX3_copyAtOnce_45 : decode cX3_copyAtOnce 45 = .ok (.iadd, 1) := by decide +kernel
theorem dX3_copyAtOnce_46 : decode cX3_copyAtOnce 46 = .ok (.aload_n 0, 1) := by decide +kernel
theorem dX3_copyAtOnce_47 : decode cX3_copyAtOnce 47 = .ok (.getfield 25, 3) := by decide +kernel
theorem dX3_copyAtOnce_50 : decode cX3_copyAtOnce 50 = .ok (.if_icmp .le 6, 3) := by decide +kernel
theorem dX3_copyAtOnce_53 : decode cX3_copyAtOnce 53 = .ok (.bipush (-13), 2) := by decide +kernel
theorem dX3_copyAtOnce_55 : decode cX3_copyAtOnce 55 = .ok (.ireturn, 1) := by decide +kernel
theorem dX3_copyAtOnce_56 : decode cX3_copyAtOnce 56 = .ok (.aload_n 0, 1) := by decide +kernel
theorem dX3_copyAtOnce_57 : decode cX3_copyAtOnce 57 = .ok (.getfield 9, 3) := by decide +kernel
theorem dX3_copyAtOnce_60 : decode cX3_copyAtOnce 60 = .ok (.iload_n 1, 1) := by decide +kernel
theorem dX3_copyAtOnce_61 : decode cX3_copyAtOnce 61 = .ok (.aload_n 0, 1) := by decide +kernel
theorem dX3_copyAtOnce_62 : decode cX3_copyAtOnce 62 = .ok (.getfield 9, 3) := by decide +kernel
theorem dX3_copyAtOnce_65 : decode cX3_copyAtOnce 65 = .ok (.iload_n 2, 1) := by decide +kernel
theorem dX3_copyAtOnce_66 : decode cX3_copyAtOnce 66 = .ok (.iload_n 3, 1) := by decide +kernel
theorem dX3_copyAtOnce_67 : decode cX3_copyAtOnce 67 = .ok (.invokestatic 49, 3) := by decide +kernel
theorem dX3_copyAtOnce_70 : decode cX3_copyAtOnce 70 = .ok (.iconst 1, 1) := by decide +kernel
theorem dX3_copyAtOnce_71 : decode cX3_copyAtOnce 71 = .ok (.ireturn, 1) := by decide +kernel
theorem dX3_copyInTurn_0 : decode cX3_copyInTurn 0 = .ok (.iconst 0, 1) := by decide +kernel
theorem dX3_copyInTurn_1 : decode cX3_copyInTurn 1 = .ok (.istore 4, 2) := by decide +kernel
theorem dX3_copyInTurn_3 : decode cX3_copyInTurn 3 = .ok (.iload 4, 2) := by decide +kernel
theorem dX3_copyInTurn_5 : decode cX3_copyInTurn 5 = .ok (.iload_n 3, 1) := by decide +kernel
theorem dX3_copyInTurn_6 : decode cX3_copyInTurn 6 = .ok (.if_icmp .ge 48, 3) := by decide +kernel
theorem dX3_copyInTurn_9 : decode cX3_copyInTurn 9 = .ok (.aload_n 0, 1) := by decide +kernel
theorem dX3_copyInTurn_10 : decode cX3_copyInTurn 10 = .ok (.iload_n 1, 1) := by decide +kernel
theorem dX3_copyInTurn_11 : decode cX3_copyInTurn 11 = .ok (.iload 4, 2) := by decide +kernel
theorem dX3_copyInTurn_13 : decode cX3_copyInTurn 13 = .ok (.iadd, 1) := by decide +kernel
theorem dX3_copyInTurn_14 : decode cX3_copyInTurn 14 = .ok (.invokevirtual 55, 3) := by decide +kernel
theorem dX3_copyInTurn_17 : decode cX3_copyInTurn 17 = .ok (.istore 5, 2) := by decide +kernel
theorem dX3_copyInTurn_19 : decode cX3_copyInTurn 19 = .ok (.iload 5, 2) := by decide +kernel
theorem dX3_copyInTurn_21 : decode cX3_copyInTurn 21 = .ok (.ifCond .ge 6, 3) := by decide +kernel
theorem dX3_copyInTurn_24 : decode cX3_copyInTurn 24 = .ok (.iload 5, 2) := by decide +kernel
theorem dX3_copyInTurn_26 : decode cX3_copyInTurn 26 = .ok (.ireturn, 1) := by decide +kernel
theorem dX3_copyInTurn_27 : decode cX3_copyInTurn 27 = .ok (.aload_n 0, 1) := by decide +kernel
theorem dX3_copyInTurn_28 : decode cX3_copyInTurn 28 = .ok (.iload_n 2, 1) := by decide +kernel
theorem dX3_copyInTurn_29 : decode cX3_copyInTurn 29 = .ok (.iload 4, 2) := by decide +kernel
theorem dX3_copyInTurn_31 : decode cX3_copyInTurn 31 = .ok (.iadd, 1) := by decide +kernel
theorem dX3_copyInTurn_32 : decode cX3_copyInTurn 32 = .ok (.iload 5, 2) := by decide +kernel
theorem dX3_copyInTurn_34 : decode cX3_copyInTurn 34 = .ok (.iconst 0, 1) := by decide +kernel
theorem dX3_copyInTurn_35 : decode cX3_copyInTurn 35 = .ok (.invokevirtual 58, 3) := by decide +kernel
theorem dX3_copyInTurn_38 : decode cX3_copyInTurn 38 = .ok (.istore 6, 2) := by decide +kernel
theorem dX3_copyInTurn_40 : decode cX3_copyInTurn 40 = .ok (.iload 6, 2) := by decide +kernel
theorem dX3_copyInTurn_42 : decode cX3_copyInTurn 42 = .ok (.ifCond .ge 6, 3) := by decide +kernel
theorem dX3_copyInTurn_45 : decode cX3_copyInTurn 45 = .ok (.iload 6, 2) := by decide +kernel
theorem dX3_copyInTurn_47 : decode cX3_copyInTurn 47 = .ok (.ireturn, 1) := by decide +kernel
theorem dX3_copyInTurn_48 : decode cX3_copyInTurn 48 = .ok (.iinc 4 1, 3) := by decide +kernel
theorem dX3_copyInTurn_51 : decode cX3_copyInTurn 51 = .ok (.goto (-48), 3) := by decide +kernel
theorem dX3_copyInTurn_54 : decode cX3_copyInTurn 54 = .ok (.iconst 1, 1) := by decide +kernel
theorem dX3_copyInTurn_55 : decode cX3_copyInTurn 55 = .ok (.ireturn, 1) := by decide +kernel
theorem dX3_find_0 : decode cX3_find 0 = .ok (.iload 4, 2) := by decide +kernel
theorem dX3_find_2 : decode cX3_find 2 = .ok (.bipush 127, 2) := by decide +kernel
theorem dX3_find_4 : decode cX3_find 4 = .ok (.iand, 1) := by decide +kernel
theorem dX3_find_5 : decode cX3_find 5 = .ok (.istore 5, 2) := by decide +kernel
theorem dX3_find_7 : decode cX3_find 7 = .ok (.iload 5, 2) := by decide +kernel
theorem dX3_find_9 : decode cX3_find 9 = .ok (.ifCond .ne 11, 3) := by decide +kernel
theorem dX3_find_12 : decode cX3_find 12 = .ok (.iload_n 3, 1) := by decide +kernel
theorem dX3_find_13 : decode cX3_find 13 = .ok (.iconst 1, 1) := by decide +kernel
theorem dX3_find_14 : decode cX3_find 14 = .ok (.invokestatic 62, 3) := by decide +kernel
theorem dX3_find_17 : decode cX3_find 17 = .ok (.goto 4, 3) := by decide +kernel
theorem dX3_find_20 : decode cX3_find 20 = .ok (.iload_n 3, 1) := by decide +kernel
theorem dX3_find_21 : decode cX3_find 21 = .ok (.istore 6, 2) := by decide +kernel
theorem dX3_find_23 : decode cX3_find 23 = .ok (.iconst 0, 1) := by decide +kernel
theorem dX3_find_24 : decode cX3_find 24 = .ok (.istore 7, 2) := by decide +kernel
theorem dX3_find_26 : decode cX3_find 26 = .ok (.iload 7, 2) := by decide +kernel
theorem dX3_find_28 : decode cX3_find 28 = .ok (.iload 6, 2) := by decide +kernel
theorem dX3_find_30 : decode cX3_find 30 = .ok (.if_icmp .ge 59, 3) := by decide +kernel
theorem dX3_find_33 : decode cX3_find 33 = .ok (.iload_n 2, 1) := by decide +kernel
theorem dX3_find_34 : decode cX3_find 34 = .ok (.iload 7, 2) := by decide +kernel
theorem dX3_find_36 : decode cX3_find 36 = .ok (.iload 5, 2) := by decide +kernel
theorem dX3_find_38 : decode cX3_find 38 = .ok (.imul, 1) := by decide +kernel
theorem dX3_find_39 : decode cX3_find 39 = .ok (.iadd, 1) := by decide +kernel
theorem dX3_find_40 : decode cX3_find 40 = .ok (.istore 8, 2) := by decide +kernel
theorem dX3_find_42 : decode cX3_find 42 = .ok (.iload 4, 2) := by decide +kernel
theorem dX3_find_44 : decode cX3_find 44 = .ok (.bipush 127, 2) := by decide +kernel
theorem dX3_find_46 : decode cX3_find 46 = .ok (.if_icmp .le 12, 3) := by decide +kernel
theorem dX3_find_49 : decode cX3_find 49 = .ok (.aload_n 0, 1) := by decide +kernel
theorem dX3_find_50 : decode cX3_find 50 = .ok (.iload 8, 2) := by decide +kernel
theorem dX3_find_52 : decode cX3_find 52 = .ok (.invokevirtual 65, 3) := by decide +kernel
theorem dX3_find_55 : decode cX3_find 55 = .ok (.goto 9, 3) := by decide +kernel
theorem dX3_find_58 : decode cX3_find 58 = .ok (.aload_n 0, 1) := by decide +kernel
theorem dX3_find_59 : decode cX3_find 59 = .ok (.iload 8, 2) := by decide +kernel
theorem dX3_find_61 : decode cX3_find 61 = .ok (.invokevirtual 55, 3) := by decide +kernel
theorem dX3_find_64 : decode cX3_find 64 = .ok (.istore 9, 2) := by decide +kernel
theorem dX3_find_66 : decode cX3_find 66 = .ok (.iload 9, 2) := by decide +kernel
theorem dX3_find_68 : decode cX3_find 68 = .ok (.ifCond .ge 6, 3) := by decide +kernel
theorem dX3_find_71 : decode cX3_find 71 = .ok (.iload 9, 2) := by decide +kernel
theorem dX3_find_73 : decode cX3_find 73 = .ok (.ireturn, 1) := by decide +kernel
theorem dX3_find_74 : decode cX3_find 74 = .ok (.iload 9, 2) := by decide +kernel
theorem dX3_find_76 : decode cX3_find 76 = .ok (.iload_n 1, 1) := by decide +kernel
theorem dX3_find_77 : decode cX3_find 77 = .ok (.if_icmp .ne 6, 3) := by decide +kernel
theorem dX3_find_80 : decode cX3_find 80 = .ok (.iload 8, 2) := by decide +kernel
theorem dX3_find_82 : decode cX3_find 82 = .ok (.ireturn, 1) := by decide +kernel
theorem dX3_find_83 : decode cX3_find 83 = .ok (.iinc 7 1, 3) := by decide +kernel
theorem dX3_find_86 : decode cX3_find 86 = .ok (.goto (-60), 3) := by decide +kernel
theorem dX3_find_89 : decode cX3_find 89 = .ok (.iconst 0, 1) := by decide +kernel
theorem dX3_find_90 : decode cX3_find 90 = .ok (.ireturn, 1) := by decide +kernel
theorem dX4_init_0 : decode cX4_init 0 = .ok (.aload_n 0, 1) := by decide +kernel
theorem dX4_init_1 : decode cX4_init 1 = .ok (.invokespecial 3, 3) := by decide +kernel
theorem dX4_init_4 : decode cX4_init 4 = .ok (.aload_n 0, 1) := by decide +kernel
theorem dX4_init_5 : decode cX4_init 5 = .ok (.bipush 120, 2) := by decide +kernel
theorem dX4_init_7 : decode cX4_init 7 = .ok (.newarray .int, 2) := by decide +kernel
theorem dX4_init_9 : decode cX4_init 9 = .ok (.putfield 9, 3) := by decide +kernel
theorem dX4_init_12 : decode cX4_init 12 = .ok (.return_, 1) := by decide +kernel
theorem dX4_characterAt_0 : decode cX4_characterAt 0 = .ok (.iload_n 1, 1) := by decide +kernel
theorem dX4_characterAt_1 : decode cX4_characterAt 1 = .ok (.ifCond .lt 20, 3) := by decide +kernel
theorem dX4_characterAt_4 : decode cX4_characterAt 4 = .ok (.iload_n 1, 1) := by decide +kernel
theorem dX4_characterAt_5 : decode cX4_characterAt 5 = .ok (.aload_n 0, 1) := by decide +kernel
theorem dX4_characterAt_6 : decode cX4_characterAt 6 = .ok (.getfield 15, 3) := by decide +kernel
theorem dX4_characterAt_9 : decode cX4_characterAt 9 = .ok (.if_icmp .ge 12, 3) := by decide +kernel
theorem dX4_characterAt_12 : decode cX4_characterAt 12 = .ok (.aload_n 0, 1) := by decide +kernel
theorem dX4_characterAt_13 : decode cX4_characterAt 13 = .ok (.getfield 9, 3) := by decide +kernel
theorem dX4_characterAt_16 : decode cX4_characterAt 16 = .ok (.iload_n 1, 1) := by decide +kernel
theorem dX4_characterAt_17 : decode cX4_characterAt 17 = .ok (.iaload, 1) := by decide +kernel
theorem dX4_characterAt_18 : decode cX4_characterAt 18 = .ok (.goto 4, 3) := by decide +kernel
theorem dX4_characterAt_21 : decode cX4_characterAt 21 = .ok (.iconst (-1), 1) := by decide +kernel
theorem dX4_characterAt_22 : decode cX4_characterAt 22 = .ok (.ireturn, 1) := by decide +kernel
theorem dX4_print_0 : decode cX4_print 0 = .ok (.aload_n 0, 1) := by decide +kernel
theorem dX4_print_1 : decode cX4_print 1 = .ok (.getfield 15, 3) := by decide +kernel
theorem dX4_print_4 : decode cX4_print 4 = .ok (.bipush 120, 2) := by decide +kernel
theorem dX4_print_6 : decode cX4_print 6 = .ok (.if_icmp .lt 6, 3) := by decide +kernel
theorem dX4_print_9 : decode cX4_print 9 = .ok (.bipush (-21), 2) := by decide +kernel
theorem dX4_print_11 : decode cX4_print 11 = .ok (.ireturn, 1) := by decide +kernel
theorem dX4_print_12 : decode cX4_print 12 = .ok (.aload_n 0, 1) := by decide +kernel
theorem dX4_print_13 : decode cX4_print 13 = .ok (.getfield 9, 3) := by decide +kernel
theorem dX4_print_16 : decode cX4_print 16 = .ok (.aload_n 0, 1) := by decide +kernel
theorem dX4_print_17 : decode cX4_print 17 = .ok (.getfield 15, 3) := by decide +kernel
theorem dX4_print_20 : decode cX4_print 20 = .ok (.iload_n 1, 1) := by decide +kernel
theorem dX4_print_21 : decode cX4_print 21 = .ok (.sipush 255, 3) := by decide +kernel
theorem dX4_print_24 : decode cX4_print 24 = .ok (.iand, 1) := by decide +kernel
theorem dX4_print_25 : decode cX4_print 25 = .ok (.iastore, 1) := by decide +kernel
theorem dX4_print_26 : decode cX4_print 26 = .ok (.aload_n 0, 1) := by decide +kernel
theorem dX4_print_27 : decode cX4_print 27 = .ok (.dup, 1) := by decide +kernel
theorem dX4_print_28 : decode cX4_print 28 = .ok (.getfield 15, 3) := by decide +kernel
theorem dX4_print_31 : decode cX4_print 31 = .ok (.iconst 1, 1) := by decide +kernel
theorem dX4_print_32 : decode cX4_print 32 = .ok (.iadd, 1) := by decide +kernel
theorem dX4_print_33 : decode cX4_print 33 = .ok (.putfield 15, 3) := by decide +kernel
theorem dX4_print_36 : decode cX4_print 36 = .ok (.iconst 1, 1) := by decide +kernel
theorem dX4_print_37 : decode cX4_print 37 = .ok (.ireturn, 1) := by decide +kernel
theorem dX4_printNumber_0 : decode cX4_printNumber 0 = .ok (.iload_n 1, 1) := by decide +kernel
theorem dX4_printNumber_1 : decode cX4_printNumber 1 = .ok (.ifCond .ge 12, 3) := by decide +kernel
theorem dX4_printNumber_4 : decode cX4_printNumber 4 = .ok (.aload_n 0, 1) := by decide +kernel
theorem dX4_printNumber_5 : decode cX4_printNumber 5 = .ok (.bipush 45, 2) := by decide +kernel
theorem dX4_printNumber_7 : decode cX4_printNumber 7 = .ok (.invokevirtual 19, 3) := by decide +kernel
theorem dX4_printNumber_10 : decode cX4_printNumber 10 = .ok (.goto 4, 3) := by decide +kernel
theorem dX4_printNumber_13 : decode cX4_printNumber 13 = .ok (.iconst 1, 1) := by decide +kernel
theorem dX4_printNumber_14 : decode cX4_printNumber 14 = .ok (.istore_n 2, 1) := by decide +kernel
theorem dX4_printNumber_15 : decode cX4_printNumber 15 = .ok (.iload_n 1, 1) := by decide +kernel
theorem dX4_printNumber_16 : decode cX4_printNumber 16 = .ok (.invokestatic 23, 3) := by decide +kernel
theorem dX4_printNumber_19 : decode cX4_printNumber 19 = .ok (.istore_n 3, 1) := by decide +kernel
theorem dX4_printNumber_20 : decode cX4_printNumber 20 = .ok (.sipush 10000, 3) := by decide +kernel
theorem dX4_printNumber_23 : decode cX4_printNumber 23 = .ok (.istore 4, 2) := by decide +kernel
theorem dX4_printNumber_25 : decode cX4_printNumber 25 = .ok (.iload 4, 2) := by decide +kernel
theorem dX4_printNumber_27 : decode cX4_printNumber 27 = .ok (.ifCond .le 44, 3) := by decide +kernel
theorem dX4_printNumber_30 : decode cX4_printNumber 30 = .ok (.iload_n 2, 1) := by decide +kernel
theorem dX4_printNumber_31 : decode cX4_printNumber 31 = .ok (.ifCond .lt 40, 3) := by decide +kernel
theorem dX4_printNumber_34 : decode cX4_printNumber 34 = .ok (.iload_n 3, 1) := by decide +kernel
theorem dX4_printNumber_35 : decode cX4_printNumber 35 = .ok (.iload 4, 2) := by decide +kernel
theorem dX4_printNumber_37 : decode cX4_printNumber 37 = .ok (.if_icmp .ge 9, 3) := by decide +kernel
theorem dX4_printNumber_40 : decode cX4_printNumber 40 = .ok (.iload 4, 2) := by decide +kernel
theorem dX4_printNumber_42 : decode cX4_printNumber 42 = .ok (.iconst 1, 1) := by decide +kernel
theorem dX4_printNumber_43 : decode cX4_printNumber 43 = .ok (.if_icmp .ne 18, 3) := by decide +kernel
theorem dX4_printNumber_46 : decode cX4_printNumber 46 = .ok (.aload_n 0, 1) := by decide +kernel
theorem dX4_printNumber_47 : decode cX4_printNumber 47 = .ok (.bipush 48, 2) := by decide +kernel
theorem dX4_printNumber_49 : decode cX4_printNumber 49 = .ok (.iload_n 3, 1) := by decide +kernel
theorem dX4_printNumber_50 : decode cX4_printNumber 50 = .ok (.iload 4, 2) := by decide +kernel
theorem dX4_printNumber_52 : decode cX4_printNumber 52 = .ok (.idiv, 1) := by decide +kernel
theorem dX4_printNumber_53 : decode cX4_printNumber 53 = .ok (.bipush 10, 2) := by decide +kernel
theorem dX4_printNumber_55 : decode cX4_printNumber 55 = .ok (.irem, 1) := by decide +kernel
theorem dX4_printNumber_56 : decode cX4_printNumber 56 = .ok (.iadd, 1) := by decide +kernel
theorem dX4_printNumber_57 : decode cX4_printNumber 57 = .ok (.invokevirtual 19, 3) := by decide +kernel
theorem dX4_printNumber_60 : decode cX4_printNumber 60 = .ok (.istore_n 2, 1) := by decide +kernel
theorem dX4_printNumber_61 : decode cX4_printNumber 61 = .ok (.iload 4, 2) := by decide +kernel
theorem dX4_printNumber_63 : decode cX4_printNumber 63 = .ok (.bipush 10, 2) := by decide +kernel
theorem dX4_printNumber_65 : decode cX4_printNumber 65 = .ok (.idiv, 1) := by decide +kernel
theorem dX4_printNumber_66 : decode cX4_printNumber 66 = .ok (.istore 4, 2) := by decide +kernel
theorem dX4_printNumber_68 : decode cX4_printNumber 68 = .ok (.goto (-43), 3) := by decide +kernel
theorem dX4_printNumber_71 : decode cX4_printNumber 71 = .ok (.iload_n 2, 1) := by decide +kernel
theorem dX4_printNumber_72 : decode cX4_printNumber 72 = .ok (.ireturn, 1) := by decide +kernel
theorem dX5_init_0 : decode cX5_init 0 = .ok (.aload_n 0, 1) := by decide +kernel
theorem dX5_init_1 : decode cX5_init 1 = .ok (.invokespecial 3, 3) := by decide +kernel
theorem dX5_init_4 : decode cX5_init 4 = .ok (.aload_n 0, 1) := by decide +kernel
theorem dX5_init_5 : decode cX5_init 5 = .ok (.bipush 100, 2) := by decide +kernel
theorem dX5_init_7 : decode cX5_init 7 = .ok (.newarray .int, 2) := by decide +kernel
theorem dX5_init_9 : decode cX5_init 9 = .ok (.putfield 9, 3) := by decide +kernel
theorem dX5_init_12 : decode cX5_init 12 = .ok (.aload_n 0, 1) := by decide +kernel
theorem dX5_init_13 : decode cX5_init 13 = .ok (.sipush 300, 3) := by decide +kernel
theorem dX5_init_16 : decode cX5_init 16 = .ok (.newarray .int, 2) := by decide +kernel
theorem dX5_init_18 : decode cX5_init 18 = .ok (.putfield 15, 3) := by decide +kernel
theorem dX5_init_21 : decode cX5_init 21 = .ok (.aload_n 0, 1) := by decide +kernel
theorem dX5_init_22 : decode cX5_init 22 = .ok (.bipush 100, 2) := by decide +kernel
theorem dX5_init_24 : decode cX5_init 24 = .ok (.newarray .int, 2) := by decide +kernel
theorem dX5_init_26 : decode cX5_init 26 = .ok (.putfield 18, 3) := by decide +kernel
theorem dX5_init_29 : decode cX5_init 29 = .ok (.aload_n 0, 1) := by decide +kernel
theorem dX5_init_30 : decode cX5_init 30 = .ok (.bipush 8, 2) := by decide +kernel
theorem dX5_init_32 : decode cX5_init 32 = .ok (.newarray .boolean, 2) := by decide +kernel
theorem dX5_init_34 : decode cX5_init 34 = .ok (.putfield 21, 3) := by decide +kernel
theorem dX5_init_37 : decode cX5_init 37 = .ok (.aload_n 0, 1) := by decide +kernel
theorem dX5_init_38 : decode cX5_init 38 = .ok (.bipush 8, 2) := by decide +kernel
theorem dX5_init_40 : decode cX5_init 40 = .ok (.newarray .int, 2) := by decide +kernel
theorem dX5_init_42 : decode cX5_init 42 = .ok (.putfield 25, 3) := by decide +kernel
theorem dX5_init_45 : decode cX5_init 45 = .ok (.aload_n 0, 1) := by decide +kernel
theorem dX5_init_46 : decode cX5_init 46 = .ok (.bipush 8, 2) := by decide +kernel
theorem dX5_init_48 : decode cX5_init 48 = .ok (.newarray .int, 2) := by decide +kernel
theorem dX5_init_50 : decode cX5_init 50 = .ok (.putfield 28, 3) := by decide +kernel
theorem dX5_init_53 : decode cX5_init 53 = .ok (.aload_n 0, 1) := by decide +kernel
theorem dX5_init_54 : decode cX5_init 54 = .ok (.bipush 8, 2) := by decide +kernel
theorem dX5_init_56 : decode cX5_init 56 = .ok (.newarray .boolean, 2) := by decide +kernel
theorem dX5_init_58 : decode cX5_init 58 = .ok (.putfield 31, 3) := by decide +kernel
theorem dX5_init_61 : decode cX5_init 61 = .ok (.return_, 1) := by decide +kernel
theorem dX5_append_0 : decode cX5_append 0 = .ok (.aload_n 0, 1) := by decide +kernel
theorem dX5_append_1 : decode cX5_append 1 = .ok (.getfield 34, 3) := by decide +kernel
theorem dX5_append_4 : decode cX5_append 4 = .ok (.bipush 100, 2) := by decide +kernel
theorem dX5_append_6 : decode cX5_append 6 = .ok (.if_icmp .lt 6, 3) := by decide +kernel
theorem dX5_append_9 : decode cX5_append 9 = .ok (.bipush (-3), 2) := by decide +kernel
theorem dX5_append_11 : decode cX5_append 11 = .ok (.ireturn, 1) := by decide +kernel
theorem dX5_append_12 : decode cX5_append 12 = .ok (.aload_n 0, 1) := by decide +kernel
theorem dX5_append_13 : decode cX5_append 13 = .ok (.getfield 34, 3) := by decide +kernel
theorem dX5_append_16 : decode cX5_append 16 = .ok (.istore 6, 2) := by decide +kernel
theorem dX5_append_18 : decode cX5_append 18 = .ok (.aload_n 0, 1) := by decide +kernel
theorem dX5_append_19 : decode cX5_append 19 = .ok (.getfield 9, 3) := by decide +kernel
theorem dX5_append_22 : decode cX5_append 22 = .ok (.iload 6, 2) := by decide +kernel
theorem dX5_append_24 : decode cX5_append 24 = .ok (.iload_n 1, 1) := by decide +kernel
theorem dX5_append_25 : decode cX5_append 25 = .ok (.iastore, 1) := by decide +kernel
theorem dX5_append_26 : decode cX5_append 26 = .ok (.aload_n 0, 1) := by decide +kernel
theorem dX5_append_27 : decode cX5_append 27 = .ok (.getfield 15, 3) := by decide +kernel
theorem dX5_append_30 : decode cX5_append 30 = .ok (.iconst 3, 1) := by decide +kernel
theorem dX5_append_31 : decode cX5_append 31 = .ok (.iload 6, 2) := by decide +kernel
theorem dX5_append_33 : decode cX5_append 33 = .ok (.imul, 1) := by decide +kernel
theorem dX5_append_34 : decode cX5_append 34 = .ok (.iload_n 2, 1) := by decide +kernel
theorem dX5_append_35 : decode cX5_append 35 = .ok (.iastore, 1) := by decide +kernel
theorem dX5_append_36 : decode cX5_append 36 = .ok (.aload_n 0, 1) := by decide +kernel
theorem dX5_append_37 : decode cX5_append 37 = .ok (.getfield 15, 3) := by decide +kernel
theorem dX5_append_40 : decode cX5_append 40 = .ok (.iconst 3, 1) := by decide +kernel
theorem dX5_append_41 : decode cX5_append 41 = .ok (.iload 6, 2) := by decide +kernel
theorem dX5_append_43 : decode cX5_append 43 = .ok (.imul, 1) := by decide +kernel
theorem dX5_append_44 : decode cX5_append 44 = .ok (.iconst 1, 1) := by decide +kernel
theorem dX5_append_45 : decode cX5_append 45 = .ok (.iadd, 1) := by decide +kernel
theorem dX5_append_46 : decode cX5_append 46 = .ok (.iload_n 3, 1) := by decide +kernel
theorem dX5_append_47 : decode cX5_append 47 = .ok (.iastore, 1) := by decide +kernel
theorem dX5_append_48 : decode cX5_append 48 = .ok (.aload_n 0, 1) := by decide +kernel
theorem dX5_append_49 : decode cX5_append 49 = .ok (.getfield 15, 3) := by decide +kernel
theorem dX5_append_52 : decode cX5_append 52 = .ok (.iconst 3, 1) := by decide +kernel
theorem dX5_append_53 : decode cX5_append 53 = .ok (.iload 6, 2) := by decide +kernel
theorem dX5_append_55 : decode cX5_append 55 = .ok (.imul, 1) := by decide +kernel
theorem dX5_append_56 : decode cX5_append 56 = .ok (.iconst 2, 1) := by decide +kernel
theorem dX5_append_57 : decode cX5_append 57 = .ok (.iadd, 1) := by decide +kernel
theorem dX5_append_58 : decode cX5_append 58 = .ok (.iload 4, 2) := by decide +kernel
theorem dX5_append_60 : decode cX5_append 60 = .ok (.iastore, 1) := by decide +kernel
theorem dX5_append_61 : decode cX5_append 61 = .ok (.aload_n 0, 1) := by decide +kernel
theorem dX5_append_62 : decode cX5_append 62 = .ok (.getfield 18, 3) := by decide +kernel
theorem dX5_append_65 : decode cX5_append 65 = .ok (.iload 6, 2) := by decide +kernel
theorem dX5_append_67 : decode cX5_append 67 = .ok (.iload 5, 2) := by decide +kernel
theorem dX5_append_69 : decode cX5_append 69 = .ok (.iastore, 1) := by decide +kernel
theorem dX5_append_70 : decode cX5_append 70 = .ok (.aload_n 0, 1) := by decide +kernel
theorem dX5_append_71 : decode cX5_append 71 = .ok (.dup, 1) := by decide +kernel
theorem dX5_append_72 : decode cX5_append 72 = .ok (.getfield 34, 3) := by decide +kernel
theorem dX5_append_75 : decode cX5_append 75 = .ok (.iconst 1, 1) := by decide +kernel
theorem dX5_append_76 : decode cX5_append 76 = .ok (.iadd, 1) := by decide +kernel
theorem dX5_append_77 : decode cX5_append 77 = .ok (.putfield 34, 3) := by decide +kernel
theorem dX5_append_80 : decode cX5_append 80 = .ok (.iload 6, 2) := by decide +kernel
theorem dX5_append_82 : decode cX5_append 82 = .ok (.ireturn, 1) := by decide +kernel
theorem dX5_define_0 : decode cX5_define 0 = .ok (.aload_n 0, 1) := by decide +kernel
theorem dX5_define_1 : decode cX5_define 1 = .ok (.getfield 21, 3) := by decide +kernel
theorem dX5_define_4 : decode cX5_define 4 = .ok (.iload_n 1, 1) := by decide +kernel
theorem dX5_define_5 : decode cX5_define 5 = .ok (.iconst 1, 1) := by decide +kernel
theorem dX5_define_6 : decode cX5_define 6 = .ok (.bastore, 1) := by decide +kernel
theorem dX5_define_7 : decode cX5_define 7 = .ok (.aload_n 0, 1) := by decide +kernel
theorem dX5_define_8 : decode cX5_define 8 = .ok (.getfield 25, 3) := by decide +kernel
theorem dX5_define_11 : decode cX5_define 11 = .ok (.iload_n 1, 1) := by decide +kernel
theorem dX5_define_12 : decode cX5_define 12 = .ok (.iload_n 2, 1) := by decide +kernel
theorem dX5_define_13 : decode cX5_define 13 = .ok (.iastore, 1) := by decide +kernel
theorem dX5_define_14 : decode cX5_define 14 = .ok (.aload_n 0, 1) := by decide +kernel
theorem dX5_define_15 : decode cX5_define 15 = .ok (.getfield 28, 3) := by decide +kernel
theorem dX5_define_18 : decode cX5_define 18 = .ok (.iload_n 1, 1) := by decide +kernel
theorem dX5_define_19 : decode cX5_define 19 = .ok (.iload_n 3, 1) := by decide +kernel
theorem dX5_define_20 : decode cX5_define 20 = .ok (.iastore, 1) := by decide +kernel
theorem dX5_define_21 : decode cX5_define 21 = .ok (.aload_n 0, 1) := by decide +kernel
theorem dX5_define_22 : decode cX5_define 22 = .ok (.getfield 31, 3) := by decide +kernel
theorem dX5_define_25 : decode cX5_define 25 = .ok (.iload_n 1, 1) := by decide +kernel
theorem dX5_define_26 : decode cX5_define 26 = .ok (.iload 4, 2) := by decide +kernel
theorem dX5_define_28 : decode cX5_define 28 = .ok (.bastore, 1) := by decide +kernel
theorem dX5_define_29 : decode cX5_define 29 = .ok (.return_, 1) := by decide +kernel
theorem dX5_forget_0 : decode cX5_forget 0 = .ok (.aload_n 0, 1) := by decide +kernel
theorem dX5_forget_1 : decode cX5_forget 1 = .ok (.getfield 34, 3) := by decide +kernel
theorem dX5_forget_4 : decode cX5_forget 4 = .ok (.istore_n 1, 1) := by decide +kernel
theorem dX5_forget_5 : decode cX5_forget 5 = .ok (.aload_n 0, 1) := by decide +kernel
theorem dX5_forget_6 : decode cX5_forget 6 = .ok (.iconst 0, 1) := by decide +kernel
theorem dX5_forget_7 : decode cX5_forget 7 = .ok (.putfield 34, 3) := by decide +kernel
theorem dX5_forget_10 : decode cX5_forget 10 = .ok (.iconst 0, 1) := by decide +kernel
theorem dX5_forget_11 : decode cX5_forget 11 = .ok (.istore_n 2, 1) := by decide +kernel
theorem dX5_forget_12 : decode cX5_forget 12 = .ok (.iload_n 2, 1) := by decide +kernel
theorem dX5_forget_13 : decode cX5_forget 13 = .ok (.bipush 8, 2) := by decide +kernel
theorem dX5_forget_15 : decode cX5_forget 15 = .ok (.if_icmp .ge 16, 3) := by decide +kernel
theorem dX5_forget_18 : decode cX5_forget 18 = .ok (.aload_n 0, 1) := by decide +kernel
theorem dX5_forget_19 : decode cX5_forget 19 = .ok (.getfield 21, 3) := by decide +kernel
theorem dX5_forget_22 : decode cX5_forget 22 = .ok (.iload_n 2, 1) := by decide +kernel
theorem dX5_forget_23 : decode cX5_forget 23 = .ok (.iconst 0, 1) := by decide +kernel
theorem dX5_forget_24 : decode cX5_forget 24 = .ok (.bastore, 1) := by decide +kernel
theorem dX5_forget_25 : decode cX5_forget 25 = .ok (.iinc 2 1, 3) := by decide +kernel
theorem dX5_forget_28 : decode cX5_forget 28 = .ok (.goto (-16), 3) := by decide +kernel
theorem dX5_forget_31 : decode cX5_forget 31 = .ok (.iload_n 1, 1) := by decide +kernel
theorem dX5_forget_32 : decode cX5_forget 32 = .ok (.ireturn, 1) := by decide +kernel
theorem dX5_opAt_0 : decode cX5_opAt 0 = .ok (.iload_n 1, 1) := by decide +kernel
theorem dX5_opAt_1 : decode cX5_opAt 1 = .ok (.ifCond .lt 20, 3) := by decide +kernel
theorem dX5_opAt_4 : decode cX5_opAt 4 = .ok (.iload_n 1, 1) := by decide +kernel
theorem dX5_opAt_5 : decode cX5_opAt 5 = .ok (.aload_n 0, 1) := by decide +kernel
theorem dX5_opAt_6 : decode cX5_opAt 6 = .ok (.getfield 34, 3) := by decide +kernel
theorem dX5_opAt_9 : decode cX5_opAt 9 = .ok (.if_icmp .ge 12, 3) := by decide +kernel
theorem dX5_opAt_12 : decode cX5_opAt 12 = .ok (.aload_n 0, 1) := by decide +kernel
theorem dX5_opAt_13 : decode cX5_opAt 13 = .ok (.getfield 9, 3) := by decide +kernel
theorem dX5_opAt_16 : decode cX5_opAt 16 = .ok (.iload_n 1, 1) := by decide +kernel
theorem dX5_opAt_17 : decode cX5_opAt 17 = .ok (.iaload, 1) := by decide +kernel
theorem dX5_opAt_18 : decode cX5_opAt 18 = .ok (.goto 4, 3) := by decide +kernel
theorem dX5_opAt_21 : decode cX5_opAt 21 = .ok (.iconst (-1), 1) := by decide +kernel
theorem dX5_opAt_22 : decode cX5_opAt 22 = .ok (.ireturn, 1) := by decide +kernel
theorem dX5_hasRoutine_0 : decode cX5_hasRoutine 0 = .ok (.iload_n 1, 1) := by decide +kernel
theorem dX5_hasRoutine_1 : decode cX5_hasRoutine 1 = .ok (.bipush 7, 2) := by decide +kernel
theorem dX5_hasRoutine_3 : decode cX5_hasRoutine 3 = .ok (.invokestatic 38, 3) := by decide +kernel
theorem dX5_hasRoutine_6 : decode cX5_hasRoutine 6 = .ok (.ifCond .eq 16, 3) := by decide +kernel
theorem dX5_hasRoutine_9 : decode cX5_hasRoutine 9 = .ok (.aload_n 0, 1) := by decide +kernel
theorem dX5_hasRoutine_10 : decode cX5_hasRoutine 10 = .ok (.getfield 21, 3) := by decide +kernel
theorem dX5_hasRoutine_13 : decode cX5_hasRoutine 13 = .ok (.iload_n 1, 1) := by decide +kernel
theorem dX5_hasRoutine_14 : decode cX5_hasRoutine 14 = .ok (.baload, 1) := by decide +kernel
theorem dX5_hasRoutine_15 : decode cX5_hasRoutine 15 = .ok (.ifCond .eq 7, 3) := by decide +kernel
theorem dX5_hasRoutine_18 : decode cX5_hasRoutine 18 = .ok (.iconst 1, 1) := by decide +kernel
theorem dX5_hasRoutine_19 : decode cX5_hasRoutine 19 = .ok (.goto 4, 3) := by decide +kernel
theorem dX5_hasRoutine_22 : decode cX5_hasRoutine 22 = .ok (.iconst 0, 1) := by decide +kernel
theorem dX5_hasRoutine_23 : decode cX5_hasRoutine 23 = .ok (.ireturn, 1) := by decide +kernel
theorem dX6_init_0 : decode cX6_init 0 = .ok (.aload_n 0, 1) := by decide +kernel
theorem dX6_init_1 : decode cX6_init 1 = .ok (.invokespecial 3, 3) := by decide +kernel
theorem dX6_init_4 : decode cX6_init 4 = .ok (.aload_n 0, 1) := by decide +kernel
theorem dX6_init_5 : decode cX6_init 5 = .ok (.new 9, 3) := by decide +kernel
theorem dX6_init_8 : decode cX6_init 8 = .ok (.dup, 1) := by decide +kernel
theorem dX6_init_9 : decode cX6_init 9 = .ok (.invokespecial 11, 3) := by decide +kernel
theorem dX6_init_12 : decode cX6_init 12 = .ok (.putfield 12, 3) := by decide +kernel
theorem dX6_init_15 : decode cX6_init 15 = .ok (.aload_n 0, 1) := by decide +kernel
theorem dX6_init_16 : decode cX6_init 16 = .ok (.new 18, 3) := by decide +kernel
theorem dX6_init_19 : decode cX6_init 19 = .ok (.dup, 1) := by decide +kernel
theorem dX6_init_20 : decode cX6_init 20 = .ok (.invokespecial 20, 3) := by decide +kernel
theorem dX6_init_23 : decode cX6_init 23 = .ok (.putfield 21, 3) := by decide +kernel
theorem dX6_init_26 : decode cX6_init 26 = .ok (.aload_n 0, 1) := by decide +kernel
theorem dX6_init_27 : decode cX6_init 27 = .ok (.bipush 8, 2) := by decide +kernel
theorem dX6_init_29 : decode cX6_init 29 = .ok (.newarray .int, 2) := by decide +kernel
theorem dX6_init_31 : decode cX6_init 31 = .ok (.putfield 25, 3) := by decide +kernel
theorem dX6_init_34 : decode cX6_init 34 = .ok (.aload_n 0, 1) := by decide +kernel
theorem dX6_init_35 : decode cX6_init 35 = .ok (.iconst 3, 1) := by decide +kernel
theorem dX6_init_36 : decode cX6_init 36 = .ok (.newarray .int, 2) := by decide +kernel
theorem dX6_init_38 : decode cX6_init 38 = .ok (.putfield 29, 3) := by decide +kernel
theorem dX6_init_41 : decode cX6_init 41 = .ok (.aload_n 0, 1) := by decide +kernel
theorem dX6_init_42 : decode cX6_init 42 = .ok (.sipush 130, 3) := by decide +kernel
theorem dX6_init_45 : decode cX6_init 45 = .ok (.putfield 32, 3) := by decide +kernel
theorem dX6_init_48 : decode cX6_init 48 = .ok (.aload_n 0, 1) := by decide +kernel
theorem dX6_init_49 : decode cX6_init 49 = .ok (.aload_n 1, 1) := by decide +kernel
theorem dX6_init_50 : decode cX6_init 50 = .ok (.putfield 36, 3) := by decide +kernel
theorem dX6_init_53 : decode cX6_init 53 = .ok (.aload_n 0, 1) := by decide +kernel
theorem dX6_init_54 : decode cX6_init 54 = .ok (.aload_n 2, 1) := by decide +kernel
theorem dX6_init_55 : decode cX6_init 55 = .ok (.putfield 40, 3) := by decide +kernel
theorem dX6_init_58 : decode cX6_init 58 = .ok (.aload_n 0, 1) := by decide +kernel
theorem dX6_init_59 : decode cX6_init 59 = .ok (.aload_n 3, 1) := by decide +kernel
theorem dX6_init_60 : decode cX6_init 60 = .ok (.putfield 44, 3) := by decide +kernel
theorem dX6_init_63 : decode cX6_init 63 = .ok (.return_, 1) := by decide +kernel
theorem dX6_begin_0 : decode cX6_begin 0 = .ok (.aload_n 0, 1) := by decide +kernel
theorem dX6_begin_1 : decode cX6_begin 1 = .ok (.getfield 12, 3) := by decide +kernel
theorem dX6_begin_4 : decode cX6_begin 4 = .ok (.invokevirtual 48, 3) := by decide +kernel
theorem dX6_begin_7 : decode cX6_begin 7 = .ok (.aload_n 0, 1) := by decide +kernel
theorem dX6_begin_8 : decode cX6_begin 8 = .ok (.getfield 21, 3) := by decide +kernel
theorem dX6_begin_11 : decode cX6_begin 11 = .ok (.iconst 0, 1) := by decide +kernel
theorem dX6_begin_12 : decode cX6_begin 12 = .ok (.putfield 51, 3) := by decide +kernel
theorem dX6_begin_15 : decode cX6_begin 15 = .ok (.aload_n 0, 1) := by decide +kernel
theorem dX6_begin_16 : decode cX6_begin 16 = .ok (.getfield 25, 3) := by decide +kernel
theorem dX6_begin_19 : decode cX6_begin 19 = .ok (.iconst 0, 1) := by decide +kernel
theorem dX6_begin_20 : decode cX6_begin 20 = .ok (.invokestatic 54, 3) := by decide +kernel
theorem dX6_begin_23 : decode cX6_begin 23 = .ok (.aload_n 0, 1) := by decide +kernel
theorem dX6_begin_24 : decode cX6_begin 24 = .ok (.iconst (-1), 1) := by decide +kernel
theorem dX6_begin_25 : decode cX6_begin 25 = .ok (.putfield 60, 3) := by decide +kernel
theorem dX6_begin_28 : decode cX6_begin 28 = .ok (.aload_n 0, 1) := by decide +kernel
theorem dX6_begin_29 : decode cX6_begin 29 = .ok (.iconst 0, 1) := by decide +kernel
theorem dX6_begin_30 : decode cX6_begin 30 = .ok (.putfield 63, 3) := by decide +kernel
theorem dX6_begin_33 : decode cX6_begin 33 = .ok (.aload_n 0, 1) := by decide +kernel
theorem dX6_begin_34 : decode cX6_begin 34 = .ok (.iconst 0, 1) := by decide +kernel
theorem dX6_begin_35 : decode cX6_begin 35 = .ok (.putfield 66, 3) := by decide +kernel
theorem dX6_begin_38 : decode cX6_begin 38 = .ok (.aload_n 0, 1) := by decide +kernel
theorem dX6_begin_39 : decode cX6_begin 39 = .ok (.iconst 0, 1) := by decide +kernel
theorem dX6_begin_40 : decode cX6_begin 40 = .ok (.putfield 69, 3) := by decide +kernel
theorem dX6_begin_43 : decode cX6_begin 43 = .ok (.aload_n 0, 1) := by decide +kernel
theorem dX6_begin_44 : decode cX6_begin 44 = .ok (.iconst 0, 1) := by decide +kernel
theorem dX6_begin_45 : decode cX6_begin 45 = .ok (.putfield 72, 3) := by decide +kernel
theorem dX6_begin_48 : decode cX6_begin 48 = .ok (.aload_n 0, 1) := by decide +kernel
theorem dX6_begin_49 : decode cX6_begin 49 = .ok (.iconst 0, 1) := by decide +kernel
theorem dX6_begin_50 : decode cX6_begin 50 = .ok (.putfield 75, 3) := by decide +kernel
theorem dX6_begin_53 : decode cX6_begin 53 = .ok (.aload_n 0, 1) := by decide +kernel
theorem dX6_begin_54 : decode cX6_begin 54 = .ok (.iconst 0, 1) := by decide +kernel
theorem dX6_begin_55 : decode cX6_begin 55 = .ok (.putfield 78, 3) := by decide +kernel
theorem dX6_begin_58 : decode cX6_begin 58 = .ok (.aload_n 0, 1) := by decide +kernel
theorem dX6_begin_59 : decode cX6_begin 59 = .ok (.iload_n 1, 1) := by decide +kernel
theorem dX6_begin_60 : decode cX6_begin 60 = .ok (.iload_n 2, 1) := by decide +kernel
theorem dX6_begin_61 : decode cX6_begin 61 = .ok (.iload_n 3, 1) := by decide +kernel
theorem dX6_begin_62 : decode cX6_begin 62 = .ok (.iconst (-1), 1) := by decide +kernel
theorem dX6_begin_63 : decode cX6_begin 63 = .ok (.invokevirtual 81, 3) := by decide +kernel
theorem dX6_begin_66 : decode cX6_begin 66 = .ok (.pop, 1) := by decide +kernel
theorem dX6_begin_67 : decode cX6_begin 67 = .ok (.return_, 1) := by decide +kernel
theorem dX6_isGoing_0 : decode cX6_isGoing 0 = .ok (.aload_n 0, 1) := by decide +kernel
theorem dX6_isGoing_1 : decode cX6_isGoing 1 = .ok (.getfield 60, 3) := by decide +kernel
theorem dX6_isGoing_4 : decode cX6_isGoing 4 = .ok (.iconst (-1), 1) := by decide +kernel
theorem dX6_isGoing_5 : decode cX6_isGoing 5 = .ok (.if_icmp .ne 7, 3) := by decide +kernel
theorem dX6_isGoing_8 : decode cX6_isGoing 8 = .ok (.iconst 1, 1) := by decide +kernel
theorem dX6_isGoing_9 : decode cX6_isGoing 9 = .ok (.goto 4, 3) := by decide +kernel
theorem dX6_isGoing_12 : decode cX6_isGoing 12 = .ok (.iconst 0, 1) := by decide +kernel
theorem dX6_isGoing_13 : decode cX6_isGoing 13 = .ok (.ireturn, 1) := by decide +kernel
theorem dX6_finish_0 : decode cX6_finish 0 = .ok (.aload_n 0, 1) := by decide +kernel
theorem dX6_finish_1 : decode cX6_finish 1 = .ok (.getfield 60, 3) := by decide +kernel
theorem dX6_finish_4 : decode cX6_finish 4 = .ok (.iconst (-1), 1) := by decide +kernel
theorem dX6_finish_5 : decode cX6_finish 5 = .ok (.if_icmp .ne 8, 3) := by decide +kernel
theorem dX6_finish_8 : decode cX6_finish 8 = .ok (.aload_n 0, 1) := by decide +kernel
theorem dX6_finish_9 : decode cX6_finish 9 = .ok (.iconst 3, 1) := by decide +kernel
theorem dX6_finish_10 : decode cX6_finish 10 = .ok (.putfield 60, 3) := by decide +kernel
theorem dX6_finish_13 : decode cX6_finish 13 = .ok (.aload_n 0, 1) := by decide +kernel
theorem dX6_finish_14 : decode cX6_finish 14 = .ok (.iconst 0, 1) := by decide +kernel
theorem dX6_finish_15 : decode cX6_finish 15 = .ok (.invokevirtual 85, 3) := by decide +kernel
theorem dX6_finish_18 : decode cX6_finish 18 = .ok (.aload_n 0, 1) := by decide +kernel
theorem dX6_finish_19 : decode cX6_finish 19 = .ok (.getfield 60, 3) := by decide +kernel
theorem dX6_finish_22 : decode cX6_finish 22 = .ok (.ireturn, 1) := by decide +kernel
theorem dX6_step_0 : decode cX6_step 0 = .ok (.aload_n 0, 1) := by decide +kernel
theorem dX6_step_1 : decode cX6_step 1 = .ok (.dup, 1) := by decide +kernel
theorem dX6_step_2 : decode cX6_step 2 = .ok (.getfield 63, 3) := by decide +kernel
theorem dX6_step_5 : decode cX6_step 5 = .ok (.iconst 1, 1) := by decide +kernel
theorem dX6_step_6 : decode cX6_step 6 = .ok (.iadd, 1) := by decide +kernel
theorem dX6_step_7 : decode cX6_step 7 = .ok (.putfield 63, 3) := by decide +kernel
theorem dX6_step_10 : decode cX6_step 10 = .ok (.aload_n 0, 1) := by decide +kernel
theorem dX6_step_11 : decode cX6_step 11 = .ok (.iconst (-1), 1) := by decide +kernel
theorem dX6_step_12 : decode cX6_step 12 = .ok (.putfield 89, 3) := by decide +kernel
theorem dX6_step_15 : decode cX6_step 15 = .ok (.aload_n 0, 1) := by decide +kernel
theorem dX6_step_16 : decode cX6_step 16 = .ok (.getfield 12, 3) := by decide +kernel
theorem dX6_step_19 : decode cX6_step 19 = .ok (.invokevirtual 92, 3) := by decide +kernel
theorem dX6_step_22 : decode cX6_step 22 = .ok (.getfield 96, 3) := by decide +kernel
theorem dX6_step_25 : decode cX6_step 25 = .ok (.istore_n 1, 1) := by decide +kernel
theorem dX6_step_26 : decode cX6_step 26 = .ok (.aload_n 0, 1) := by decide +kernel
theorem dX6_step_27 : decode cX6_step 27 = .ok (.getfield 44, 3) := by decide +kernel
theorem dX6_step_30 : decode cX6_step 30 = .ok (.iload_n 1, 1) := by decide +kernel
theorem dX6_step_31 : decode cX6_step 31 = .ok (.invokevirtual 101, 3) := by decide +kernel
theorem dX6_step_34 : decode cX6_step 34 = .ok (.istore_n 2, 1) := by decide +kernel
theorem dX6_step_35 : decode cX6_step 35 = .ok (.iload_n 2, 1) := by decide +kernel
theorem dX6_step_36 : decode cX6_step 36 = .ok (.ifCond .lt 11, 3) := by decide +kernel
theorem dX6_step_39 : decode cX6_step 39 = .ok (.iload_n 2, 1) := by decide +kernel
theorem dX6_step_40 : decode cX6_step 40 = .ok (.getstatic 107, 3) := by decide +kernel
theorem dX6_step_43 : decode cX6_step 43 = .ok (.arraylength, 1) := by decide +kernel
theorem dX6_step_44 : decode cX6_step 44 = .ok (.if_icmp .lt 6, 3) := by decide +kernel
theorem dX6_step_47 : decode cX6_step 47 = .ok (.bipush (-20), 2) := by decide +kernel
theorem dX6_step_49 : decode cX6_step 49 = .ok (.ireturn, 1) := by decide +kernel
theorem dX6_step_50 : decode cX6_step 50 = .ok (.iconst 0, 1) := by decide +kernel
theorem dX6_step_51 : decode cX6_step 51 = .ok (.istore_n 3, 1) := by decide +kernel
theorem dX6_step_52 : decode cX6_step 52 = .ok (.iload_n 3, 1) := by decide +kernel
theorem dX6_step_53 : decode cX6_step 53 = .ok (.getstatic 107, 3) := by decide +kernel
theorem dX6_step_56 : decode cX6_step 56 = .ok (.iload_n 2, 1) := by decide +kernel
theorem dX6_step_57 : decode cX6_step 57 = .ok (.iaload, 1) := by decide +kernel
theorem dX6_step_58 : decode cX6_step 58 = .ok (.if_icmp .ge 60, 3) := by decide +kernel
theorem dX6_step_61 : decode cX6_step 61 = .ok (.aload_n 0, 1) := by decide +kernel
theorem dX6_step_62 : decode cX6_step 62 = .ok (.getfield 44, 3) := by decide +kernel
theorem dX6_step_65 : decode cX6_step 65 = .ok (.getfield 110, 3) := by decide +kernel
theorem dX6_step_68 : decode cX6_step 68 = .ok (.iconst 3, 1) := by decide +kernel
theorem dX6_step_69 : decode cX6_step 69 = .ok (.iload_n 1, 1) := by decide +kernel
theorem dX6_step_70 : decode cX6_step 70 = .ok (.imul, 1) := by decide +kernel
theorem dX6_step_71 : decode cX6_step 71 = .ok (.iload_n 3, 1) := by decide +kernel
theorem dX6_step_72 : decode cX6_step 72 = .ok (.iadd, 1) := by decide +kernel
theorem dX6_step_73 : decode cX6_step 73 = .ok (.iaload, 1) := by decide +kernel
theorem dX6_step_74 : decode cX6_step 74 = .ok (.istore 4, 2) := by decide +kernel
theorem dX6_step_76 : decode cX6_step 76 = .ok (.iload 4, 2) := by decide +kernel
theorem dX6_step_78 : decode cX6_step 78 = .ok (.ifCond .ge 14, 3) := by decide +kernel
theorem dX6_step_81 : decode cX6_step 81 = .ok (.aload_n 0, 1) := by decide +kernel
theorem dX6_step_82 : decode cX6_step 82 = .ok (.iconst (-1), 1) := by decide +kernel
theorem dX6_step_83 : decode cX6_step 83 = .ok (.iload 4, 2) := by decide +kernel
theorem dX6_step_85 : decode cX6_step 85 = .ok (.isub, 1) := by decide +kernel
theorem dX6_step_86 : decode cX6_step 86 = .ok (.invokevirtual 113, 3) := by decide +kernel
theorem dX6_step_89 : decode cX6_step 89 = .ok (.goto 5, 3) := by decide +kernel
theorem dX6_step_92 : decode cX6_step 92 = .ok (.iload 4, 2) := by decide +kernel
theorem dX6_step_94 : decode cX6_step 94 = .ok (.istore 5, 2) := by decide +kernel
theorem dX6_step_96 : decode cX6_step 96 = .ok (.iload 5, 2) := by decide +kernel
theorem dX6_step_98 : decode cX6_step 98 = .ok (.ifCond .ge 6, 3) := by decide +kernel
theorem dX6_step_101 : decode cX6_step 101 = .ok (.iload 5, 2) := by decide +kernel
theorem dX6_step_103 : decode cX6_step 103 = .ok (.ireturn, 1) := by decide +kernel
theorem dX6_step_104 : decode cX6_step 104 = .ok (.aload_n 0, 1) := by decide +kernel
theorem dX6_step_105 : decode cX6_step 105 = .ok (.getfield 29, 3) := by decide +kernel
theorem dX6_step_108 : decode cX6_step 108 = .ok (.iload_n 3, 1) := by decide +kernel
theorem dX6_step_109 : decode cX6_step 109 = .ok (.iload 5, 2) := by decide +kernel
theorem dX6_step_111 : decode cX6_step 111 = .ok (.iastore, 1) := by decide +kernel
theorem dX6_step_112 : decode cX6_step 112 = .ok (.iinc 3 1, 3) := by decide +kernel
theorem dX6_step_115 : decode cX6_step 115 = .ok (.goto (-63), 3) := by decide +kernel
theorem dX6_step_118 : decode cX6_step 118 = .ok (.aload_n 0, 1) := by decide +kernel
theorem dX6_step_119 : decode cX6_step 119 = .ok (.getfield 12, 3) := by decide +kernel
theorem dX6_step_122 : decode cX6_step 122 = .ok (.invokevirtual 92, 3) := by decide +kernel
theorem dX6_step_125 : decode cX6_step 125 = .ok (.iload_n 1, 1) := by decide +kernel
theorem dX6_step_126 : decode cX6_step 126 = .ok (.iconst 1, 1) := by decide +kernel
theorem dX6_step_127 : decode cX6_step 127 = .ok (.iadd, 1) := by decide +kernel
theorem dX6_step_128 : decode cX6_step 128 = .ok (.putfield 96, 3) := by decide +kernel
theorem dX6_step_131 : decode cX6_step 131 = .ok (.aload_n 0, 1) := by decide +kernel
theorem dX6_step_132 : decode cX6_step 132 = .ok (.iload_n 2, 1) := by decide +kernel
theorem dX6_step_133 : decode cX6_step 133 = .ok (.aload_n 0, 1) := by decide +kernel
theorem dX6_step_134 : decode cX6_step 134 = .ok (.getfield 44, 3) := by decide +kernel
theorem dX6_step_137 : decode cX6_step 137 = .ok (.getfield 116, 3) := by decide +kernel
theorem dX6_step_140 : decode cX6_step 140 = .ok (.iload_n 1, 1) := by decide +kernel
theorem dX6_step_141 : decode cX6_step 141 = .ok (.iaload, 1) := by decide +kernel
theorem dX6_step_142 : decode cX6_step 142 = .ok (.aload_n 0, 1) := by decide +kernel
theorem dX6_step_143 : decode cX6_step 143 = .ok (.getfield 29, 3) := by decide +kernel
theorem dX6_step_146 : decode cX6_step 146 = .ok (.iconst 0, 1) := by decide +kernel
theorem dX6_step_147 : decode cX6_step 147 = .ok (.iaload, 1) := by decide +kernel
theorem dX6_step_148 : decode cX6_step 148 = .ok (.aload_n 0, 1) := by decide +kernel
theorem dX6_step_149 : decode cX6_step 149 = .ok (.getfield 29, 3) := by decide +kernel
theorem dX6_step_152 : decode cX6_step 152 = .ok (.iconst 1, 1) := by decide +kernel
theorem dX6_step_153 : decode cX6_step 153 = .ok (.iaload, 1) := by decide +kernel
theorem dX6_step_154 : decode cX6_step 154 = .ok (.aload_n 0, 1) := by decide +kernel
theorem dX6_step_155 : decode cX6_step 155 = .ok (.getfield 29, 3) := by decide +kernel
theorem dX6_step_158 : decode cX6_step 158 = .ok (.iconst 2, 1) := by decide +kernel
theorem dX6_step_159 : decode cX6_step 159 = .ok (.iaload, 1) := by decide +kernel
theorem dX6_step_160 : decode cX6_step 160 = .ok (.invokevirtual 119, 3) := by decide +kernel
theorem dX6_step_163 : decode cX6_step 163 = .ok (.ireturn, 1) := by decide +kernel
theorem dX6_settle_0 : decode cX6_settle 0 = .ok (.aload_n 0, 1) := by decide +kernel
theorem dX6_settle_1 : decode cX6_settle 1 = .ok (.iload_n 1, 1) := by decide +kernel
theorem dX6_settle_2 : decode cX6_settle 2 = .ok (.invokevirtual 123, 3) := by decide +kernel
theorem dX6_settle_5 : decode cX6_settle 5 = .ok (.istore_n 2, 1) := by decide +kernel
theorem dX6_settle_6 : decode cX6_settle 6 = .ok (.iconst 0, 1) := by decide +kernel
theorem dX6_settle_7 : decode cX6_settle 7 = .ok (.istore_n 3, 1) := by decide +kernel
theorem dX6_settle_8 : decode cX6_settle 8 = .ok (.iload_n 3, 1) := by decide +kernel
theorem dX6_settle_9 : decode cX6_settle 9 = .ok (.bipush 12, 2) := by decide +kernel
theorem dX6_settle_11 : decode cX6_settle 11 = .ok (.if_icmp .ge 23, 3) := by decide +kernel
theorem dX6_settle_14 : decode cX6_settle 14 = .ok (.iload_n 2, 1) := by decide +kernel
theorem dX6_settle_15 : decode cX6_settle 15 = .ok (.ifCond .ge 19, 3) := by decide +kernel
theorem dX6_settle_18 : decode cX6_settle 18 = .ok (.aload_n 0, 1) := by decide +kernel
theorem dX6_settle_19 : decode cX6_settle 19 = .ok (.aload_n 0, 1) := by decide +kernel
theorem dX6_settle_20 : decode cX6_settle 20 = .ok (.iload_n 2, 1) := by decide +kernel
theorem dX6_settle_21 : decode cX6_settle 21 = .ok (.invokevirtual 126, 3) := by decide +kernel
theorem dX6_settle_24 : decode cX6_settle 24 = .ok (.invokevirtual 123, 3) := by decide +kernel
theorem dX6_settle_27 : decode cX6_settle 27 = .ok (.istore_n 2, 1) := by decide +kernel
theorem dX6_settle_28 : decode cX6_settle 28 = .ok (.iinc 3 1, 3) := by decide +kernel
theorem dX6_settle_31 : decode cX6_settle 31 = .ok (.goto (-23), 3) := by decide +kernel
theorem dX6_settle_34 : decode cX6_settle 34 = .ok (.return_, 1) := by decide +kernel
theorem dX6_keep_0 : decode cX6_keep 0 = .ok (.iload_n 1, 1) := by decide +kernel
theorem dX6_keep_1 : decode cX6_keep 1 = .ok (.ifCond .lt 11, 3) := by decide +kernel
theorem dX6_keep_4 : decode cX6_keep 4 = .ok (.aload_n 0, 1) := by decide +kernel
theorem dX6_keep_5 : decode cX6_keep 5 = .ok (.getfield 89, 3) := by decide +kernel
theorem dX6_keep_8 : decode cX6_keep 8 = .ok (.iconst (-1), 1) := by decide +kernel
theorem dX6_keep_9 : decode cX6_keep 9 = .ok (.if_icmp .ne 7, 3) := by decide +kernel
theorem dX6_keep_12 : decode cX6_keep 12 = .ok (.iload_n 1, 1) := by decide +kernel
theorem dX6_keep_13 : decode cX6_keep 13 = .ok (.goto 12, 3) := by decide +kernel
theorem dX6_keep_16 : decode cX6_keep 16 = .ok (.aload_n 0, 1) := by decide +kernel
theorem dX6_keep_17 : decode cX6_keep 17 = .ok (.aload_n 0, 1) := by decide +kernel
theorem dX6_keep_18 : decode cX6_keep 18 = .ok (.getfield 89, 3) := by decide +kernel
theorem dX6_keep_21 : decode cX6_keep 21 = .ok (.iload_n 1, 1) := by decide +kernel
theorem dX6_keep_22 : decode cX6_keep 22 = .ok (.invokevirtual 129, 3) := by decide +kernel
theorem dX6_keep_25 : decode cX6_keep 25 = .ok (.ireturn, 1) := by decide +kernel
theorem dX6_carryOut_0 : decode cX6_carryOut 0 = .ok (.iload_n 1, 1) := by decide +kernel
theorem dX6_carryOut_1 : decode cX6_carryOut 1 = .ok (.bipush 9, 2) := by decide +kernel
theorem dX6_carryOut_3 : decode cX6_carryOut 3 = .ok (.if_icmp .gt 22, 3) := by decide +kernel
theorem dX6_carryOut_6 : decode cX6_carryOut 6 = .ok (.aload_n 0, 1) := by decide +kernel
theorem dX6_carryOut_7 : decode cX6_carryOut 7 = .ok (.iload_n 2, 1) := by decide +kernel
theorem dX6_carryOut_8 : decode cX6_carryOut 8 = .ok (.iload_n 1, 1) := by decide +kernel
theorem dX6_carryOut_9 : decode cX6_carryOut 9 = .ok (.iload_n 3, 1) := by decide +kernel
theorem dX6_carryOut_10 : decode cX6_carryOut 10 = .ok (.invokestatic 133, 3) := by decide +kernel
theorem dX6_carryOut_13 : decode cX6_carryOut 13 = .ok (.iload 4, 2) := by decide +kernel
theorem dX6_carryOut_15 : decode cX6_carryOut 15 = .ok (.invokestatic 133, 3) := by decide +kernel
theorem dX6_carryOut_18 : decode cX6_carryOut 18 = .ok (.invokestatic 136, 3) := by decide +kernel
theorem dX6_carryOut_21 : decode cX6_carryOut 21 = .ok (.invokevirtual 140, 3) := by decide +kernel
theorem dX6_carryOut_24 : decode cX6_carryOut 24 = .ok (.ireturn, 1) := by decide +kernel
theorem dX6_carryOut_25 : decode cX6_carryOut 25 = .ok (.iload_n 1, 1) := by decide +kernel
theorem dX6_carryOut_26 : decode cX6_carryOut 26 = .ok (.tableswitch 448 10 32 #[106, 124, 148, 172, 179, 190, 201, 223, 243, 263, 281, 292, 298, 307, 324, 339, 347, 363, 388, 405, 417, 426, 442], 106) := by decide +kernel
theorem dX6_carryOut_132 : decode cX6_carryOut 132 = .ok (.aload_n 0, 1) := by decide +kernel
theorem dX6_carryOut_133 : decode cX6_carryOut 133 = .ok (.iload_n 3, 1) := by decide +kernel
theorem dX6_carryOut_134 : decode cX6_carryOut 134 = .ok (.iload 4, 2) := by decide +kernel
theorem dX6_carryOut_136 : decode cX6_carryOut 136 = .ok (.if_icmp .ne 7, 3) := by decide +kernel
theorem dX6_carryOut_139 : decode cX6_carryOut 139 = .ok (.iconst 1, 1) := by decide +kernel
theorem dX6_carryOut_140 : decode cX6_carryOut 140 = .ok (.goto 4, 3) := by decide +kernel
theorem dX6_carryOut_143 : decode cX6_carryOut 143 = .ok (.iconst 0, 1) := by decide +kernel
theorem dX6_carryOut_144 : decode cX6_carryOut 144 = .ok (.iload 5, 2) := by decide +kernel
theorem dX6_carryOut_146 : decode cX6_carryOut 146 = .ok (.invokevirtual 143, 3) := by decide +kernel
theorem dX6_carryOut_149 : decode cX6_carryOut 149 = .ok (.ireturn, 1) := by decide +kernel
theorem dX6_carryOut_150 : decode cX6_carryOut 150 = .ok (.aload_n 0, 1) := by decide +kernel
theorem dX6_carryOut_151 : decode cX6_carryOut 151 = .ok (.iload_n 3, 1) := by decide +kernel
theorem dX6_carryOut_152 : decode cX6_carryOut 152 = .ok (.invokestatic 133, 3) := by decide +kernel
theorem dX6_carryOut_155 : decode cX6_carryOut 155 = .ok (.iload 4, 2) := by decide +kernel
theorem dX6_carryOut_157 : decode cX6_carryOut 157 = .ok (.invokestatic 133, 3) := by decide +kernel
theorem dX6_carryOut_160 : decode cX6_carryOut 160 = .ok (.if_icmp .ge 7, 3) := by decide +kernel
theorem dX6_carryOut_163 : decode cX6_carryOut 163 = .ok (.iconst 1, 1) := by decide +kernel
theorem dX6_carryOut_164 : decode cX6_carryOut 164 = .ok (.goto 4, 3) := by decide +kernel
theorem dX6_carryOut_167 : decode cX6_carryOut 167 = .ok (.iconst 0, 1) := by decide +kernel
theorem dX6_carryOut_168 : decode cX6_carryOut 168 = .ok (.iload 5, 2) := by decide +kernel
theorem dX6_carryOut_170 : decode cX6_carryOut 170 = .ok (.invokevirtual 143, 3) := by decide +kernel
theorem dX6_carryOut_173 : decode cX6_carryOut 173 = .ok (.ireturn, 1) := by decide +kernel
theorem dX6_carryOut_174 : decode cX6_carryOut 174 = .ok (.aload_n 0, 1) := by decide +kernel
theorem dX6_carryOut_175 : decode cX6_carryOut 175 = .ok (.iload_n 3, 1) := by decide +kernel
theorem dX6_carryOut_176 : decode cX6_carryOut 176 = .ok (.invokestatic 133, 3) := by decide +kernel
theorem dX6_carryOut_179 : decode cX6_carryOut 179 = .ok (.iload 4, 2) := by decide +kernel
theorem dX6_carryOut_181 : decode cX6_carryOut 181 = .ok (.invokestatic 133, 3) := by decide +kernel
theorem dX6_carryOut_184 : decode cX6_carryOut 184 = .ok (.if_icmp .le 7, 3) := by decide +kernel
theorem dX6_carryOut_187 : decode cX6_carryOut 187 = .ok (.iconst 1, 1) := by decide +kernel
theorem dX6_carryOut_188 : decode cX6_carryOut 188 = .ok (.goto 4, 3) := by decide +kernel
theorem dX6_carryOut_191 : decode cX6_carryOut 191 = .ok (.iconst 0, 1) := by decide +kernel
theorem dX6_carryOut_192 : decode cX6_carryOut 192 = .ok (.iload 5, 2) := by decide +kernel
theorem dX6_carryOut_194 : decode cX6_carryOut 194 = .ok (.invokevirtual 143, 3) := by decide +kernel
theorem dX6_carryOut_197 : decode cX6_carryOut 197 = .ok (.ireturn, 1) := by decide +kernel
theorem dX6_carryOut_198 : decode cX6_carryOut 198 = .ok (.aload_n 0, 1) := by decide +kernel
theorem dX6_carryOut_199 : decode cX6_carryOut 199 = .ok (.iconst 1, 1) := by decide +kernel
theorem dX6_carryOut_200 : decode cX6_carryOut 200 = .ok (.iload_n 3, 1) := by decide +kernel
theorem dX6_carryOut_201 : decode cX6_carryOut 201 = .ok (.invokevirtual 143, 3) := by decide +kernel
theorem dX6_carryOut_204 : decode cX6_carryOut 204 = .ok (.ireturn, 1) := by decide +kernel
theorem dX6_carryOut_205 : decode cX6_carryOut 205 = .ok (.aload_n 0, 1) := by decide +kernel
theorem dX6_carryOut_206 : decode cX6_carryOut 206 = .ok (.iload_n 3, 1) := by decide +kernel
theorem dX6_carryOut_207 : decode cX6_carryOut 207 = .ok (.sipush 255, 3) := by decide +kernel
theorem dX6_carryOut_210 : decode cX6_carryOut 210 = .ok (.iand, 1) := by decide +kernel
theorem dX6_carryOut_211 : decode cX6_carryOut 211 = .ok (.iconst 1, 1) := by decide +kernel
theorem dX6_carryOut_212 : decode cX6_carryOut 212 = .ok (.invokevirtual 147, 3) := by decide +kernel
theorem dX6_carryOut_215 : decode cX6_carryOut 215 = .ok (.ireturn, 1) := by decide +kernel
theorem dX6_carryOut_216 : decode cX6_carryOut 216 = .ok (.aload_n 0, 1) := by decide +kernel
theorem dX6_carryOut_217 : decode cX6_carryOut 217 = .ok (.iload_n 3, 1) := by decide +kernel
theorem dX6_carryOut_218 : decode cX6_carryOut 218 = .ok (.sipush 255, 3) := by decide +kernel
theorem dX6_carryOut_221 : decode cX6_carryOut 221 = .ok (.iand, 1) := by decide +kernel
theorem dX6_carryOut_222 : decode cX6_carryOut 222 = .ok (.iconst (-1), 1) := by decide +kernel
theorem dX6_carryOut_223 : decode cX6_carryOut 223 = .ok (.invokevirtual 147, 3) := by decide +kernel
theorem dX6_carryOut_226 : decode cX6_carryOut 226 = .ok (.ireturn, 1) := by decide +kernel
theorem dX6_carryOut_227 : decode cX6_carryOut 227 = .ok (.aload_n 0, 1) := by decide +kernel
theorem dX6_carryOut_228 : decode cX6_carryOut 228 = .ok (.iload_n 2, 1) := by decide +kernel
theorem dX6_carryOut_229 : decode cX6_carryOut 229 = .ok (.aload_n 0, 1) := by decide +kernel
theorem dX6_carryOut_230 : decode cX6_carryOut 230 = .ok (.getfield 36, 3) := by decide +kernel
theorem dX6_carryOut_233 : decode cX6_carryOut 233 = .ok (.iload_n 3, 1) := by decide +kernel
theorem dX6_carryOut_234 : decode cX6_carryOut 234 = .ok (.iconst 2, 1) := by decide +kernel
theorem dX6_carryOut_235 : decode cX6_carryOut 235 = .ok (.iload 4, 2) := by decide +kernel
theorem dX6_carryOut_237 : decode cX6_carryOut 237 = .ok (.invokestatic 133, 3) := by decide +kernel
theorem dX6_carryOut_240 : decode cX6_carryOut 240 = .ok (.imul, 1) := by decide +kernel
theorem dX6_carryOut_241 : decode cX6_carryOut 241 = .ok (.iadd, 1) := by decide +kernel
theorem dX6_carryOut_242 : decode cX6_carryOut 242 = .ok (.invokevirtual 150, 3) := by decide +kernel
theorem dX6_carryOut_245 : decode cX6_carryOut 245 = .ok (.invokevirtual 140, 3) := by decide +kernel
theorem dX6_carryOut_248 : decode cX6_carryOut 248 = .ok (.ireturn, 1) := by decide +kernel
theorem dX6_carryOut_249 : decode cX6_carryOut 249 = .ok (.aload_n 0, 1) := by decide +kernel
theorem dX6_carryOut_250 : decode cX6_carryOut 250 = .ok (.iload_n 2, 1) := by decide +kernel
theorem dX6_carryOut_251 : decode cX6_carryOut 251 = .ok (.aload_n 0, 1) := by decide +kernel
theorem dX6_carryOut_252 : decode cX6_carryOut 252 = .ok (.getfield 36, 3) := by decide +kernel
theorem dX6_carryOut_255 : decode cX6_carryOut 255 = .ok (.iload_n 3, 1) := by decide +kernel
theorem dX6_carryOut_256 : decode cX6_carryOut 256 = .ok (.iload 4, 2) := by decide +kernel
theorem dX6_carryOut_258 : decode cX6_carryOut 258 = .ok (.invokestatic 133, 3) := by decide +kernel
theorem dX6_carryOut_261 : decode cX6_carryOut 261 = .ok (.iadd, 1) := by decide +kernel
theorem dX6_carryOut_262 : decode cX6_carryOut 262 = .ok (.invokevirtual 155, 3) := by decide +kernel
theorem dX6_carryOut_265 : decode cX6_carryOut 265 = .ok (.invokevirtual 140, 3) := by decide +kernel
theorem dX6_carryOut_268 : decode cX6_carryOut 268 = .ok (.ireturn, 1) := by decide +kernel
theorem dX6_carryOut_269 : decode cX6_carryOut 269 = .ok (.aload_n 0, 1) := by decide +kernel
theorem dX6_carryOut_270 : decode cX6_carryOut 270 = .ok (.getfield 36, 3) := by decide +kernel
theorem dX6_carryOut_273 : decode cX6_carryOut 273 = .ok (.iload_n 3, 1) := by decide +kernel
theorem dX6_carryOut_274 : decode cX6_carryOut 274 = .ok (.iconst 2, 1) := by decide +kernel
theorem dX6_carryOut_275 : decode cX6_carryOut 275 = .ok (.iload 4, 2) := by decide +kernel
theorem dX6_carryOut_277 : decode cX6_carryOut 277 = .ok (.invokestatic 133, 3) := by decide +kernel
theorem dX6_carryOut_280 : decode cX6_carryOut 280 = .ok (.imul, 1) := by decide +kernel
theorem dX6_carryOut_281 : decode cX6_carryOut 281 = .ok (.iadd, 1) := by decide +kernel
theorem dX6_carryOut_282 : decode cX6_carryOut 282 = .ok (.iload 5, 2) := by decide +kernel
theorem dX6_carryOut_284 : decode cX6_carryOut 284 = .ok (.iconst 0, 1) := by decide +kernel
theorem dX6_carryOut_285 : decode cX6_carryOut 285 = .ok (.invokevirtual 158, 3) := by decide +kernel
theorem dX6_carryOut_288 : decode cX6_carryOut 288 = .ok (.ireturn, 1) := by decide +kernel
theorem dX6_carryOut_289 : decode cX6_carryOut 289 = .ok (.aload_n 0, 1) := by decide +kernel
theorem dX6_carryOut_290 : decode cX6_carryOut 290 = .ok (.getfield 36, 3) := by decide +kernel
theorem dX6_carryOut_293 : decode cX6_carryOut 293 = .ok (.iload_n 3, 1) := by decide +kernel
theorem dX6_carryOut_294 : decode cX6_carryOut 294 = .ok (.iload 4, 2) := by decide +kernel
theorem dX6_carryOut_296 : decode cX6_carryOut 296 = .ok (.invokestatic 133, 3) := by decide +kernel
theorem dX6_carryOut_299 : decode cX6_carryOut 299 = .ok (.iadd, 1) := by decide +kernel
theorem dX6_carryOut_300 : decode cX6_carryOut 300 = .ok (.iload 5, 2) := by decide +kernel
theorem dX6_carryOut_302 : decode cX6_carryOut 302 = .ok (.iconst 0, 1) := by decide +kernel
theorem dX6_carryOut_303 : decode cX6_carryOut 303 = .ok (.invokevirtual 162, 3) := by decide +kernel
theorem dX6_carryOut_306 : decode cX6_carryOut 306 = .ok (.ireturn, 1) := by decide +kernel
theorem dX6_carryOut_307 : decode cX6_carryOut 307 = .ok (.aload_n 0, 1) := by decide +kernel
theorem dX6_carryOut_308 : decode cX6_carryOut 308 = .ok (.iload_n 3, 1) := by decide +kernel
theorem dX6_carryOut_309 : decode cX6_carryOut 309 = .ok (.iload 4, 2) := by decide +kernel
theorem dX6_carryOut_311 : decode cX6_carryOut 311 = .ok (.iload 5, 2) := by decide +kernel
theorem dX6_carryOut_313 : decode cX6_carryOut 313 = .ok (.iload_n 2, 1) := by decide +kernel
theorem dX6_carryOut_314 : decode cX6_carryOut 314 = .ok (.invokevirtual 81, 3) := by decide +kernel
theorem dX6_carryOut_317 : decode cX6_carryOut 317 = .ok (.ireturn, 1) := by decide +kernel
theorem dX6_carryOut_318 : decode cX6_carryOut 318 = .ok (.aload_n 0, 1) := by decide +kernel
theorem dX6_carryOut_319 : decode cX6_carryOut 319 = .ok (.iload_n 3, 1) := by decide +kernel
theorem dX6_carryOut_320 : decode cX6_carryOut 320 = .ok (.invokevirtual 165, 3) := by decide +kernel
theorem dX6_carryOut_323 : decode cX6_carryOut 323 = .ok (.ireturn, 1) := by decide +kernel
theorem dX6_carryOut_324 : decode cX6_carryOut 324 = .ok (.aload_n 0, 1) := by decide +kernel
theorem dX6_carryOut_325 : decode cX6_carryOut 325 = .ok (.getfield 12, 3) := by decide +kernel
theorem dX6_carryOut_328 : decode cX6_carryOut 328 = .ok (.iload_n 3, 1) := by decide +kernel
theorem dX6_carryOut_329 : decode cX6_carryOut 329 = .ok (.invokevirtual 168, 3) := by decide +kernel
theorem dX6_carryOut_332 : decode cX6_carryOut 332 = .ok (.ireturn, 1) := by decide +kernel
theorem dX6_carryOut_333 : decode cX6_carryOut 333 = .ok (.aload_n 0, 1) := by decide +kernel
theorem dX6_carryOut_334 : decode cX6_carryOut 334 = .ok (.iload_n 3, 1) := by decide +kernel
theorem dX6_carryOut_335 : decode cX6_carryOut 335 = .ok (.sipush 255, 3) := by decide +kernel
theorem dX6_carryOut_338 : decode cX6_carryOut 338 = .ok (.iand, 1) := by decide +kernel
theorem dX6_carryOut_339 : decode cX6_carryOut 339 = .ok (.aload_n 0, 1) := by decide +kernel
theorem dX6_carryOut_340 : decode cX6_carryOut 340 = .ok (.getfield 12, 3) := by decide +kernel
theorem dX6_carryOut_343 : decode cX6_carryOut 343 = .ok (.invokevirtual 171, 3) := by decide +kernel
theorem dX6_carryOut_346 : decode cX6_carryOut 346 = .ok (.invokevirtual 140, 3) := by decide +kernel
theorem dX6_carryOut_349 : decode cX6_carryOut 349 = .ok (.ireturn, 1) := by decide +kernel
theorem dX6_carryOut_350 : decode cX6_carryOut 350 = .ok (.aload_n 0, 1) := by decide +kernel
theorem dX6_carryOut_351 : decode cX6_carryOut 351 = .ok (.iload_n 2, 1) := by decide +kernel
theorem dX6_carryOut_352 : decode cX6_carryOut 352 = .ok (.aload_n 0, 1) := by decide +kernel
theorem dX6_carryOut_353 : decode cX6_carryOut 353 = .ok (.getfield 12, 3) := by decide +kernel
theorem dX6_carryOut_356 : decode cX6_carryOut 356 = .ok (.getfield 175, 3) := by decide +kernel
theorem dX6_carryOut_359 : decode cX6_carryOut 359 = .ok (.iconst 1, 1) := by decide +kernel
theorem dX6_carryOut_360 : decode cX6_carryOut 360 = .ok (.isub, 1) := by decide +kernel
theorem dX6_carryOut_361 : decode cX6_carryOut 361 = .ok (.invokevirtual 140, 3) := by decide +kernel
theorem dX6_carryOut_364 : decode cX6_carryOut 364 = .ok (.ireturn, 1) := by decide +kernel
theorem dX6_carryOut_365 : decode cX6_carryOut 365 = .ok (.aload_n 0, 1) := by decide +kernel
theorem dX6_carryOut_366 : decode cX6_carryOut 366 = .ok (.iload 4, 2) := by decide +kernel
theorem dX6_carryOut_368 : decode cX6_carryOut 368 = .ok (.iload_n 3, 1) := by decide +kernel
theorem dX6_carryOut_369 : decode cX6_carryOut 369 = .ok (.invokevirtual 178, 3) := by decide +kernel
theorem dX6_carryOut_372 : decode cX6_carryOut 372 = .ok (.ireturn, 1) := by decide +kernel
theorem dX6_carryOut_373 : decode cX6_carryOut 373 = .ok (.aload_n 0, 1) := by decide +kernel
theorem dX6_carryOut_374 : decode cX6_carryOut 374 = .ok (.getfield 36, 3) := by decide +kernel
theorem dX6_carryOut_377 : decode cX6_carryOut 377 = .ok (.iload_n 3, 1) := by decide +kernel
theorem dX6_carryOut_378 : decode cX6_carryOut 378 = .ok (.iload 4, 2) := by decide +kernel
theorem dX6_carryOut_380 : decode cX6_carryOut 380 = .ok (.iload 5, 2) := by decide +kernel
theorem dX6_carryOut_382 : decode cX6_carryOut 382 = .ok (.invokestatic 133, 3) := by decide +kernel
theorem dX6_carryOut_385 : decode cX6_carryOut 385 = .ok (.invokevirtual 181, 3) := by decide +kernel
theorem dX6_carryOut_388 : decode cX6_carryOut 388 = .ok (.ireturn, 1) := by decide +kernel
theorem dX6_carryOut_389 : decode cX6_carryOut 389 = .ok (.aload_n 0, 1) := by decide +kernel
theorem dX6_carryOut_390 : decode cX6_carryOut 390 = .ok (.iload_n 2, 1) := by decide +kernel
theorem dX6_carryOut_391 : decode cX6_carryOut 391 = .ok (.aload_n 0, 1) := by decide +kernel
theorem dX6_carryOut_392 : decode cX6_carryOut 392 = .ok (.getfield 36, 3) := by decide +kernel
theorem dX6_carryOut_395 : decode cX6_carryOut 395 = .ok (.iload_n 3, 1) := by decide +kernel
theorem dX6_carryOut_396 : decode cX6_carryOut 396 = .ok (.iload 4, 2) := by decide +kernel
theorem dX6_carryOut_398 : decode cX6_carryOut 398 = .ok (.iload 5, 2) := by decide +kernel
theorem dX6_carryOut_400 : decode cX6_carryOut 400 = .ok (.invokestatic 133, 3) := by decide +kernel
theorem dX6_carryOut_403 : decode cX6_carryOut 403 = .ok (.aload_n 0, 1) := by decide +kernel
theorem dX6_carryOut_404 : decode cX6_carryOut 404 = .ok (.getfield 32, 3) := by decide +kernel
theorem dX6_carryOut_407 : decode cX6_carryOut 407 = .ok (.invokevirtual 184, 3) := by decide +kernel
theorem dX6_carryOut_410 : decode cX6_carryOut 410 = .ok (.invokevirtual 140, 3) := by decide +kernel
theorem dX6_carryOut_413 : decode cX6_carryOut 413 = .ok (.ireturn, 1) := by decide +kernel
theorem dX6_carryOut_414 : decode cX6_carryOut 414 = .ok (.aload_n 0, 1) := by decide +kernel
theorem dX6_carryOut_415 : decode cX6_carryOut 415 = .ok (.iload_n 2, 1) := by decide +kernel
theorem dX6_carryOut_416 : decode cX6_carryOut 416 = .ok (.aload_n 0, 1) := by decide +kernel
theorem dX6_carryOut_417 : decode cX6_carryOut 417 = .ok (.getfield 40, 3) := by decide +kernel
theorem dX6_carryOut_420 : decode cX6_carryOut 420 = .ok (.iload_n 3, 1) := by decide +kernel
theorem dX6_carryOut_421 : decode cX6_carryOut 421 = .ok (.invokestatic 133, 3) := by decide +kernel
theorem dX6_carryOut_424 : decode cX6_carryOut 424 = .ok (.invokevirtual 187, 3) := by decide +kernel
theorem dX6_carryOut_427 : decode cX6_carryOut 427 = .ok (.invokevirtual 140, 3) := by decide +kernel
theorem dX6_carryOut_430 : decode cX6_carryOut 430 = .ok (.ireturn, 1) := by decide +kernel
theorem dX6_carryOut_431 : decode cX6_carryOut 431 = .ok (.aload_n 0, 1) := by decide +kernel
theorem dX6_carryOut_432 : decode cX6_carryOut 432 = .ok (.getfield 21, 3) := by decide +kernel
theorem dX6_carryOut_435 : decode cX6_carryOut 435 = .ok (.iload_n 3, 1) := by decide +kernel
theorem dX6_carryOut_436 : decode cX6_carryOut 436 = .ok (.invokestatic 133, 3) := by decide +kernel
theorem dX6_carryOut_439 : decode cX6_carryOut 439 = .ok (.invokevirtual 192, 3) := by decide +kernel
theorem dX6_carryOut_442 : decode cX6_carryOut 442 = .ok (.ireturn, 1) := by decide +kernel
theorem dX6_carryOut_443 : decode cX6_carryOut 443 = .ok (.aload_n 0, 1) := by decide +kernel
theorem dX6_carryOut_444 : decode cX6_carryOut 444 = .ok (.getfield 21, 3) := by decide +kernel
theorem dX6_carryOut_447 : decode cX6_carryOut 447 = .ok (.iload_n 3, 1) := by decide +kernel
theorem dX6_carryOut_448 : decode cX6_carryOut 448 = .ok (.invokevirtual 195, 3) := by decide +kernel
theorem dX6_carryOut_451 : decode cX6_carryOut 451 = .ok (.ireturn, 1) := by decide +kernel
theorem dX6_carryOut_452 : decode cX6_carryOut 452 = .ok (.aload_n 0, 1) := by decide +kernel
theorem dX6_carryOut_453 : decode cX6_carryOut 453 = .ok (.iload_n 3, 1) := by decide +kernel
theorem dX6_carryOut_454 : decode cX6_carryOut 454 = .ok (.iload 4, 2) := by decide +kernel
theorem dX6_carryOut_456 : decode cX6_carryOut 456 = .ok (.invokestatic 133, 3) := by decide +kernel
theorem dX6_carryOut_459 : decode cX6_carryOut 459 = .ok (.iload 5, 2) := by decide +kernel
theorem dX6_carryOut_461 : decode cX6_carryOut 461 = .ok (.invokestatic 133, 3) := by decide +kernel
theorem dX6_carryOut_464 : decode cX6_carryOut 464 = .ok (.invokevirtual 198, 3) := by decide +kernel
theorem dX6_carryOut_467 : decode cX6_carryOut 467 = .ok (.ireturn, 1) := by decide +kernel
theorem dX6_carryOut_468 : decode cX6_carryOut 468 = .ok (.aload_n 0, 1) := by decide +kernel
theorem dX6_carryOut_469 : decode cX6_carryOut 469 = .ok (.iconst 1, 1) := by decide +kernel
theorem dX6_carryOut_470 : decode cX6_carryOut 470 = .ok (.invokevirtual 201, 3) := by decide +kernel
theorem dX6_carryOut_473 : decode cX6_carryOut 473 = .ok (.ireturn, 1) := by decide +kernel
theorem dX6_carryOut_474 : decode cX6_carryOut 474 = .ok (.bipush (-20), 2) := by decide +kernel
theorem dX6_carryOut_476 : decode cX6_carryOut 476 = .ok (.ireturn, 1) := by decide +kernel
theorem dX6_tell_0 : decode cX6_tell 0 = .ok (.aload_n 0, 1) := by decide +kernel
theorem dX6_tell_1 : decode cX6_tell 1 = .ok (.iload_n 1, 1) := by decide +kernel
theorem dX6_tell_2 : decode cX6_tell 2 = .ok (.putfield 89, 3) := by decide +kernel
theorem dX6_tell_5 : decode cX6_tell 5 = .ok (.iload_n 2, 1) := by decide +kernel
theorem dX6_tell_6 : decode cX6_tell 6 = .ok (.ireturn, 1) := by decide +kernel
theorem dX6_end_0 : decode cX6_end 0 = .ok (.aload_n 0, 1) := by decide +kernel
theorem dX6_end_1 : decode cX6_end 1 = .ok (.iload_n 1, 1) := by decide +kernel
theorem dX6_end_2 : decode cX6_end 2 = .ok (.putfield 60, 3) := by decide +kernel
theorem dX6_end_5 : decode cX6_end 5 = .ok (.aload_n 0, 1) := by decide +kernel
theorem dX6_end_6 : decode cX6_end 6 = .ok (.iconst (-1), 1) := by decide +kernel
theorem dX6_end_7 : decode cX6_end 7 = .ok (.iconst 1, 1) := by decide +kernel
theorem dX6_end_8 : decode cX6_end 8 = .ok (.invokevirtual 140, 3) := by decide +kernel
theorem dX6_end_11 : decode cX6_end 11 = .ok (.ireturn, 1) := by decide +kernel
theorem dX6_goOnIf_0 : decode cX6_goOnIf 0 = .ok (.iload_n 1, 1) := by decide +kernel
theorem dX6_goOnIf_1 : decode cX6_goOnIf 1 = .ok (.ifCond .eq 14, 3) := by decide +kernel
theorem dX6_goOnIf_4 : decode cX6_goOnIf 4 = .ok (.aload_n 0, 1) := by decide +kernel
theorem dX6_goOnIf_5 : decode cX6_goOnIf 5 = .ok (.getfield 12, 3) := by decide +kernel
theorem dX6_goOnIf_8 : decode cX6_goOnIf 8 = .ok (.invokevirtual 92, 3) := by decide +kernel
theorem dX6_goOnIf_11 : decode cX6_goOnIf 11 = .ok (.iload_n 2, 1) := by decide +kernel
theorem dX6_goOnIf_12 : decode cX6_goOnIf 12 = .ok (.putfield 96, 3) := by decide +kernel
theorem dX6_goOnIf_15 : decode cX6_goOnIf 15 = .ok (.iconst 1, 1) := by decide +kernel
theorem dX6_goOnIf_16 : decode cX6_goOnIf 16 = .ok (.ireturn, 1) := by decide +kernel
theorem dX6_change_0 : decode cX6_change 0 = .ok (.aload_n 0, 1) := by decide +kernel
theorem dX6_change_1 : decode cX6_change 1 = .ok (.iload_n 1, 1) := by decide +kernel
theorem dX6_change_2 : decode cX6_change 2 = .ok (.invokevirtual 113, 3) := by decide +kernel
theorem dX6_change_5 : decode cX6_change 5 = .ok (.istore_n 3, 1) := by decide +kernel
theorem dX6_change_6 : decode cX6_change 6 = .ok (.iload_n 3, 1) := by decide +kernel
theorem dX6_change_7 : decode cX6_change 7 = .ok (.ifCond .ge 7, 3) := by decide +kernel
theorem dX6_change_10 : decode cX6_change 10 = .ok (.iload_n 3, 1) := by decide +kernel
theorem dX6_change_11 : decode cX6_change 11 = .ok (.goto 14, 3) := by decide +kernel
theorem dX6_change_14 : decode cX6_change 14 = .ok (.aload_n 0, 1) := by decide +kernel
theorem dX6_change_15 : decode cX6_change 15 = .ok (.iload_n 1, 1) := by decide +kernel
theorem dX6_change_16 : decode cX6_change 16 = .ok (.iload_n 3, 1) := by decide +kernel
theorem dX6_change_17 : decode cX6_change 17 = .ok (.iload_n 2, 1) := by decide +kernel
theorem dX6_change_18 : decode cX6_change 18 = .ok (.iadd, 1) := by decide +kernel
theorem dX6_change_19 : decode cX6_change 19 = .ok (.invokestatic 204, 3) := by decide +kernel
theorem dX6_change_22 : decode cX6_change 22 = .ok (.invokevirtual 140, 3) := by decide +kernel
theorem dX6_change_25 : decode cX6_change 25 = .ok (.ireturn, 1) := by decide +kernel
theorem dX6_ask_0 : decode cX6_ask 0 = .ok (.iload_n 1, 1) := by decide +kernel
theorem dX6_ask_1 : decode cX6_ask 1 = .ok (.ifCond .ne 11, 3) := by decide +kernel
theorem dX6_ask_4 : decode cX6_ask 4 = .ok (.aload_n 0, 1) := by decide +kernel
theorem dX6_ask_5 : decode cX6_ask 5 = .ok (.getfield 12, 3) := by decide +kernel
theorem dX6_ask_8 : decode cX6_ask 8 = .ok (.invokevirtual 171, 3) := by decide +kernel
theorem dX6_ask_11 : decode cX6_ask 11 = .ok (.ireturn, 1) := by decide +kernel
theorem dX6_ask_12 : decode cX6_ask 12 = .ok (.iload_n 1, 1) := by decide +kernel
theorem dX6_ask_13 : decode cX6_ask 13 = .ok (.bipush 16, 2) := by decide +kernel
theorem dX6_ask_15 : decode cX6_ask 15 = .ok (.if_icmp .ge 17, 3) := by decide +kernel
theorem dX6_ask_18 : decode cX6_ask 18 = .ok (.aload_n 0, 1) := by decide +kernel
theorem dX6_ask_19 : decode cX6_ask 19 = .ok (.getfield 12, 3) := by decide +kernel
theorem dX6_ask_22 : decode cX6_ask 22 = .ok (.invokevirtual 92, 3) := by decide +kernel
theorem dX6_ask_25 : decode cX6_ask 25 = .ok (.iload_n 1, 1) := by decide +kernel
theorem dX6_ask_26 : decode cX6_ask 26 = .ok (.invokevirtual 207, 3) := by decide +kernel
theorem dX6_ask_29 : decode cX6_ask 29 = .ok (.goto 15, 3) := by decide +kernel
theorem dX6_ask_32 : decode cX6_ask 32 = .ok (.aload_n 0, 1) := by decide +kernel
theorem dX6_ask_33 : decode cX6_ask 33 = .ok (.getfield 36, 3) := by decide +kernel
theorem dX6_ask_36 : decode cX6_ask 36 = .ok (.aload_n 0, 1) := by decide +kernel
theorem dX6_ask_37 : decode cX6_ask 37 = .ok (.iload_n 1, 1) := by decide +kernel
theorem dX6_ask_38 : decode cX6_ask 38 = .ok (.invokevirtual 210, 3) := by decide +kernel
theorem dX6_ask_41 : decode cX6_ask 41 = .ok (.invokevirtual 150, 3) := by decide +kernel
theorem dX6_ask_44 : decode cX6_ask 44 = .ok (.ireturn, 1) := by decide +kernel
theorem dX6_set_0 : decode cX6_set 0 = .ok (.iload_n 1, 1) := by decide +kernel
theorem dX6_set_1 : decode cX6_set 1 = .ok (.ifCond .ne 12, 3) := by decide +kernel
theorem dX6_set_4 : decode cX6_set 4 = .ok (.aload_n 0, 1) := by decide +kernel
theorem dX6_set_5 : decode cX6_set 5 = .ok (.getfield 12, 3) := by decide +kernel
theorem dX6_set_8 : decode cX6_set 8 = .ok (.iload_n 2, 1) := by decide +kernel
theorem dX6_set_9 : decode cX6_set 9 = .ok (.invokevirtual 168, 3) := by decide +kernel
theorem dX6_set_12 : decode cX6_set 12 = .ok (.ireturn, 1) := by decide +kernel
theorem dX6_set_13 : decode cX6_set 13 = .ok (.iload_n 1, 1) := by decide +kernel
theorem dX6_set_14 : decode cX6_set 14 = .ok (.bipush 16, 2) := by decide +kernel
theorem dX6_set_16 : decode cX6_set 16 = .ok (.if_icmp .ge 16, 3) := by decide +kernel
theorem dX6_set_19 : decode cX6_set 19 = .ok (.aload_n 0, 1) := by decide +kernel
theorem dX6_set_20 : decode cX6_set 20 = .ok (.getfield 12, 3) := by decide +kernel
theorem dX6_set_23 : decode cX6_set 23 = .ok (.invokevirtual 92, 3) := by decide +kernel
theorem dX6_set_26 : decode cX6_set 26 = .ok (.iload_n 1, 1) := by decide +kernel
theorem dX6_set_27 : decode cX6_set 27 = .ok (.iload_n 2, 1) := by decide +kernel
theorem dX6_set_28 : decode cX6_set 28 = .ok (.invokevirtual 213, 3) := by decide +kernel
theorem dX6_set_31 : decode cX6_set 31 = .ok (.ireturn, 1) := by decide +kernel
theorem dX6_set_32 : decode cX6_set 32 = .ok (.aload_n 0, 1) := by decide +kernel
theorem dX6_set_33 : decode cX6_set 33 = .ok (.getfield 36, 3) := by decide +kernel
theorem dX6_set_36 : decode cX6_set 36 = .ok (.aload_n 0, 1) := by decide +kernel
theorem dX6_set_37 : decode cX6_set 37 = .ok (.iload_n 1, 1) := by decide +kernel
theorem dX6_set_38 : decode cX6_set 38 = .ok (.invokevirtual 210, 3) := by decide +kernel
theorem dX6_set_41 : decode cX6_set 41 = .ok (.iload_n 2, 1) := by decide +kernel
theorem dX6_set_42 : decode cX6_set 42 = .ok (.iconst 0, 1) := by decide +kernel
theorem dX6_set_43 : decode cX6_set 43 = .ok (.invokevirtual 158, 3) := by decide +kernel
theorem dX6_set_46 : decode cX6_set 46 = .ok (.ireturn, 1) := by decide +kernel
theorem dX6_placeOfGlobal_0 : decode cX6_placeOfGlobal 0 = .ok (.aload_n 0, 1) := by decide +kernel
theorem dX6_placeOfGlobal_1 : decode cX6_placeOfGlobal 1 = .ok (.getfield 216, 3) := by decide +kernel
theorem dX6_placeOfGlobal_4 : decode cX6_placeOfGlobal 4 = .ok (.iconst 2, 1) := by decide +kernel
theorem dX6_placeOfGlobal_5 : decode cX6_placeOfGlobal 5 = .ok (.iload_n 1, 1) := by decide +kernel
theorem dX6_placeOfGlobal_6 : decode cX6_placeOfGlobal 6 = .ok (.bipush 16, 2) := by decide +kernel
theorem dX6_placeOfGlobal_8 : decode cX6_placeOfGlobal 8 = .ok (.isub, 1) := by decide +kernel
theorem dX6_placeOfGlobal_9 : decode cX6_placeOfGlobal 9 = .ok (.imul, 1) := by decide +kernel
theorem dX6_placeOfGlobal_10 : decode cX6_placeOfGlobal 10 = .ok (.iadd, 1) := by decide +kernel
theorem dX6_placeOfGlobal_11 : decode cX6_placeOfGlobal 11 = .ok (.ireturn, 1) := by decide +kernel
theorem dX6_enter_0 : decode cX6_enter 0 = .ok (.aload_n 0, 1) := by decide +kernel
theorem dX6_enter_1 : decode cX6_enter 1 = .ok (.getfield 44, 3) := by decide +kernel
theorem dX6_enter_4 : decode cX6_enter 4 = .ok (.iload_n 1, 1) := by decide +kernel
theorem dX6_enter_5 : decode cX6_enter 5 = .ok (.invokevirtual 219, 3) := by decide +kernel
theorem dX6_enter_8 : decode cX6_enter 8 = .ok (.ifCond .ne 6, 3) := by decide +kernel
theorem dX6_enter_11 : decode cX6_enter 11 = .ok (.bipush (-19), 2) := by decide +kernel
theorem dX6_enter_13 : decode cX6_enter 13 = .ok (.ireturn, 1) := by decide +kernel
theorem dX6_enter_14 : decode cX6_enter 14 = .ok (.aload_n 0, 1) := by decide +kernel
theorem dX6_enter_15 : decode cX6_enter 15 = .ok (.getfield 12, 3) := by decide +kernel
theorem dX6_enter_18 : decode cX6_enter 18 = .ok (.invokevirtual 223, 3) := by decide +kernel
theorem dX6_enter_21 : decode cX6_enter 21 = .ok (.astore 5, 2) := by decide +kernel
theorem dX6_enter_23 : decode cX6_enter 23 = .ok (.aload 5, 2) := by decide +kernel
theorem dX6_enter_25 : decode cX6_enter 25 = .ok (.ifnonnull 6, 3) := by decide +kernel
theorem dX6_enter_28 : decode cX6_enter 28 = .ok (.bipush (-16), 2) := by decide +kernel
theorem dX6_enter_30 : decode cX6_enter 30 = .ok (.ireturn, 1) := by decide +kernel
theorem dX6_enter_31 : decode cX6_enter 31 = .ok (.aload 5, 2) := by decide +kernel
theorem dX6_enter_33 : decode cX6_enter 33 = .ok (.iload_n 1, 1) := by decide +kernel
theorem dX6_enter_34 : decode cX6_enter 34 = .ok (.putfield 225, 3) := by decide +kernel
theorem dX6_enter_37 : decode cX6_enter 37 = .ok (.aload 5, 2) := by decide +kernel
theorem dX6_enter_39 : decode cX6_enter 39 = .ok (.aload_n 0, 1) := by decide +kernel
theorem dX6_enter_40 : decode cX6_enter 40 = .ok (.getfield 44, 3) := by decide +kernel
theorem dX6_enter_43 : decode cX6_enter 43 = .ok (.getfield 228, 3) := by decide +kernel
theorem dX6_enter_46 : decode cX6_enter 46 = .ok (.iload_n 1, 1) := by decide +kernel
theorem dX6_enter_47 : decode cX6_enter 47 = .ok (.iaload, 1) := by decide +kernel
theorem dX6_enter_48 : decode cX6_enter 48 = .ok (.putfield 96, 3) := by decide +kernel
theorem dX6_enter_51 : decode cX6_enter 51 = .ok (.aload 5, 2) := by decide +kernel
theorem dX6_enter_53 : decode cX6_enter 53 = .ok (.aload_n 0, 1) := by decide +kernel
theorem dX6_enter_54 : decode cX6_enter 54 = .ok (.getfield 44, 3) := by decide +kernel
theorem dX6_enter_57 : decode cX6_enter 57 = .ok (.getfield 231, 3) := by decide +kernel
theorem dX6_enter_60 : decode cX6_enter 60 = .ok (.iload_n 1, 1) := by decide +kernel
theorem dX6_enter_61 : decode cX6_enter 61 = .ok (.iaload, 1) := by decide +kernel
theorem dX6_enter_62 : decode cX6_enter 62 = .ok (.putfield 234, 3) := by decide +kernel
theorem dX6_enter_65 : decode cX6_enter 65 = .ok (.aload 5, 2) := by decide +kernel
theorem dX6_enter_67 : decode cX6_enter 67 = .ok (.iload 4, 2) := by decide +kernel
theorem dX6_enter_69 : decode cX6_enter 69 = .ok (.putfield 237, 3) := by decide +kernel
theorem dX6_enter_72 : decode cX6_enter 72 = .ok (.aload 5, 2) := by decide +kernel
theorem dX6_enter_74 : decode cX6_enter 74 = .ok (.iconst 1, 1) := by decide +kernel
theorem dX6_enter_75 : decode cX6_enter 75 = .ok (.iload_n 2, 1) := by decide +kernel
theorem dX6_enter_76 : decode cX6_enter 76 = .ok (.invokevirtual 213, 3) := by decide +kernel
theorem dX6_enter_79 : decode cX6_enter 79 = .ok (.pop, 1) := by decide +kernel
theorem dX6_enter_80 : decode cX6_enter 80 = .ok (.aload 5, 2) := by decide +kernel
theorem dX6_enter_82 : decode cX6_enter 82 = .ok (.iconst 2, 1) := by decide +kernel
theorem dX6_enter_83 : decode cX6_enter 83 = .ok (.iload_n 3, 1) := by decide +kernel
theorem dX6_enter_84 : decode cX6_enter 84 = .ok (.invokevirtual 213, 3) := by decide +kernel
theorem dX6_enter_87 : decode cX6_enter 87 = .ok (.pop, 1) := by decide +kernel
theorem dX6_enter_88 : decode cX6_enter 88 = .ok (.iconst 1, 1) := by decide +kernel
theorem dX6_enter_89 : decode cX6_enter 89 = .ok (.ireturn, 1) := by decide +kernel
theorem dX6_giveBack_0 : decode cX6_giveBack 0 = .ok (.aload_n 0, 1) := by decide +kernel
theorem dX6_giveBack_1 : decode cX6_giveBack 1 = .ok (.getfield 12, 3) := by decide +kernel
theorem dX6_giveBack_4 : decode cX6_giveBack 4 = .ok (.invokevirtual 92, 3) := by decide +kernel
theorem dX6_giveBack_7 : decode cX6_giveBack 7 = .ok (.getfield 237, 3) := by decide +kernel
theorem dX6_giveBack_10 : decode cX6_giveBack 10 = .ok (.istore_n 2, 1) := by decide +kernel
theorem dX6_giveBack_11 : decode cX6_giveBack 11 = .ok (.aload_n 0, 1) := by decide +kernel
theorem dX6_giveBack_12 : decode cX6_giveBack 12 = .ok (.aload_n 0, 1) := by decide +kernel
theorem dX6_giveBack_13 : decode cX6_giveBack 13 = .ok (.getfield 12, 3) := by decide +kernel
theorem dX6_giveBack_16 : decode cX6_giveBack 16 = .ok (.getfield 175, 3) := by decide +kernel
theorem dX6_giveBack_19 : decode cX6_giveBack 19 = .ok (.iconst 1, 1) := by decide +kernel
theorem dX6_giveBack_20 : decode cX6_giveBack 20 = .ok (.isub, 1) := by decide +kernel
theorem dX6_giveBack_21 : decode cX6_giveBack 21 = .ok (.invokevirtual 85, 3) := by decide +kernel
theorem dX6_giveBack_24 : decode cX6_giveBack 24 = .ok (.aload_n 0, 1) := by decide +kernel
theorem dX6_giveBack_25 : decode cX6_giveBack 25 = .ok (.getfield 12, 3) := by decide +kernel
theorem dX6_giveBack_28 : decode cX6_giveBack 28 = .ok (.getfield 175, 3) := by decide +kernel
theorem dX6_giveBack_31 : decode cX6_giveBack 31 = .ok (.ifCond .ne 14, 3) := by decide +kernel
theorem dX6_giveBack_34 : decode cX6_giveBack 34 = .ok (.aload_n 0, 1) := by decide +kernel
theorem dX6_giveBack_35 : decode cX6_giveBack 35 = .ok (.iload_n 1, 1) := by decide +kernel
theorem dX6_giveBack_36 : decode cX6_giveBack 36 = .ok (.putfield 69, 3) := by decide +kernel
theorem dX6_giveBack_39 : decode cX6_giveBack 39 = .ok (.aload_n 0, 1) := by decide +kernel
theorem dX6_giveBack_40 : decode cX6_giveBack 40 = .ok (.iconst 0, 1) := by decide +kernel
theorem dX6_giveBack_41 : decode cX6_giveBack 41 = .ok (.invokevirtual 201, 3) := by decide +kernel
theorem dX6_giveBack_44 : decode cX6_giveBack 44 = .ok (.ireturn, 1) := by decide +kernel
theorem dX6_giveBack_45 : decode cX6_giveBack 45 = .ok (.aload_n 0, 1) := by decide +kernel
theorem dX6_giveBack_46 : decode cX6_giveBack 46 = .ok (.iload_n 2, 1) := by decide +kernel
theorem dX6_giveBack_47 : decode cX6_giveBack 47 = .ok (.iload_n 1, 1) := by decide +kernel
theorem dX6_giveBack_48 : decode cX6_giveBack 48 = .ok (.invokevirtual 140, 3) := by decide +kernel
theorem dX6_giveBack_51 : decode cX6_giveBack 51 = .ok (.ireturn, 1) := by decide +kernel
theorem dX6_leaveDownTo_0 : decode cX6_leaveDownTo 0 = .ok (.aload_n 0, 1) := by decide +kernel
theorem dX6_leaveDownTo_1 : decode cX6_leaveDownTo 1 = .ok (.getfield 12, 3) := by decide +kernel
theorem dX6_leaveDownTo_4 : decode cX6_leaveDownTo 4 = .ok (.getfield 175, 3) := by decide +kernel
theorem dX6_leaveDownTo_7 : decode cX6_leaveDownTo 7 = .ok (.istore_n 2, 1) := by decide +kernel
theorem dX6_leaveDownTo_8 : decode cX6_leaveDownTo 8 = .ok (.iload_n 2, 1) := by decide +kernel
theorem dX6_leaveDownTo_9 : decode cX6_leaveDownTo 9 = .ok (.iload_n 1, 1) := by decide +kernel
theorem dX6_leaveDownTo_10 : decode cX6_leaveDownTo 10 = .ok (.if_icmp .le 39, 3) := by decide +kernel
theorem dX6_leaveDownTo_13 : decode cX6_leaveDownTo 13 = .ok (.iload_n 2, 1) := by decide +kernel
theorem dX6_leaveDownTo_14 : decode cX6_leaveDownTo 14 = .ok (.ifCond .le 35, 3) := by decide +kernel
theorem dX6_leaveDownTo_17 : decode cX6_leaveDownTo 17 = .ok (.aload_n 0, 1) := by decide +kernel
theorem dX6_leaveDownTo_18 : decode cX6_leaveDownTo 18 = .ok (.getfield 25, 3) := by decide +kernel
theorem dX6_leaveDownTo_21 : decode cX6_leaveDownTo 21 = .ok (.aload_n 0, 1) := by decide +kernel
theorem dX6_leaveDownTo_22 : decode cX6_leaveDownTo 22 = .ok (.getfield 12, 3) := by decide +kernel
theorem dX6_leaveDownTo_25 : decode cX6_leaveDownTo 25 = .ok (.invokevirtual 92, 3) := by decide +kernel
theorem dX6_leaveDownTo_28 : decode cX6_leaveDownTo 28 = .ok (.getfield 225, 3) := by decide +kernel
theorem dX6_leaveDownTo_31 : decode cX6_leaveDownTo 31 = .ok (.dup2, 1) := by decide +kernel
theorem dX6_leaveDownTo_32 : decode cX6_leaveDownTo 32 = .ok (.iaload, 1) := by decide +kernel
theorem dX6_leaveDownTo_33 : decode cX6_leaveDownTo 33 = .ok (.iconst 1, 1) := by decide +kernel
theorem dX6_leaveDownTo_34 : decode cX6_leaveDownTo 34 = .ok (.iadd, 1) := by decide +kernel
theorem dX6_leaveDownTo_35 : decode cX6_leaveDownTo 35 = .ok (.iastore, 1) := by decide +kernel
theorem dX6_leaveDownTo_36 : decode cX6_leaveDownTo 36 = .ok (.aload_n 0, 1) := by decide +kernel
theorem dX6_leaveDownTo_37 : decode cX6_leaveDownTo 37 = .ok (.getfield 12, 3) := by decide +kernel
theorem dX6_leaveDownTo_40 : decode cX6_leaveDownTo 40 = .ok (.invokevirtual 238, 3) := by decide +kernel
theorem dX6_leaveDownTo_43 : decode cX6_leaveDownTo 43 = .ok (.iinc 2 (-1), 3) := by decide +kernel
theorem dX6_leaveDownTo_46 : decode cX6_leaveDownTo 46 = .ok (.goto (-38), 3) := by decide +kernel
theorem dX6_leaveDownTo_49 : decode cX6_leaveDownTo 49 = .ok (.return_, 1) := by decide +kernel
theorem dX6_throwTo_0 : decode cX6_throwTo 0 = .ok (.iload_n 1, 1) := by decide +kernel
theorem dX6_throwTo_1 : decode cX6_throwTo 1 = .ok (.aload_n 0, 1) := by decide +kernel
theorem dX6_throwTo_2 : decode cX6_throwTo 2 = .ok (.getfield 12, 3) := by decide +kernel
theorem dX6_throwTo_5 : decode cX6_throwTo 5 = .ok (.getfield 175, 3) := by decide +kernel
theorem dX6_throwTo_8 : decode cX6_throwTo 8 = .ok (.if_icmp .lt 6, 3) := by decide +kernel
theorem dX6_throwTo_11 : decode cX6_throwTo 11 = .ok (.bipush (-18), 2) := by decide +kernel
theorem dX6_throwTo_13 : decode cX6_throwTo 13 = .ok (.ireturn, 1) := by decide +kernel
theorem dX6_throwTo_14 : decode cX6_throwTo 14 = .ok (.aload_n 0, 1) := by decide +kernel
theorem dX6_throwTo_15 : decode cX6_throwTo 15 = .ok (.getfield 66, 3) := by decide +kernel
theorem dX6_throwTo_18 : decode cX6_throwTo 18 = .ok (.bipush 12, 2) := by decide +kernel
theorem dX6_throwTo_20 : decode cX6_throwTo 20 = .ok (.if_icmp .lt 9, 3) := by decide +kernel
theorem dX6_throwTo_23 : decode cX6_throwTo 23 = .ok (.aload_n 0, 1) := by decide +kernel
theorem dX6_throwTo_24 : decode cX6_throwTo 24 = .ok (.iconst 3, 1) := by decide +kernel
theorem dX6_throwTo_25 : decode cX6_throwTo 25 = .ok (.invokevirtual 201, 3) := by decide +kernel
theorem dX6_throwTo_28 : decode cX6_throwTo 28 = .ok (.ireturn, 1) := by decide +kernel
theorem dX6_throwTo_29 : decode cX6_throwTo 29 = .ok (.aload_n 0, 1) := by decide +kernel
theorem dX6_throwTo_30 : decode cX6_throwTo 30 = .ok (.dup, 1) := by decide +kernel
theorem dX6_throwTo_31 : decode cX6_throwTo 31 = .ok (.getfield 66, 3) := by decide +kernel
theorem dX6_throwTo_34 : decode cX6_throwTo 34 = .ok (.iconst 1, 1) := by decide +kernel
theorem dX6_throwTo_35 : decode cX6_throwTo 35 = .ok (.iadd, 1) := by decide +kernel
theorem dX6_throwTo_36 : decode cX6_throwTo 36 = .ok (.putfield 66, 3) := by decide +kernel
theorem dX6_throwTo_39 : decode cX6_throwTo 39 = .ok (.aload_n 0, 1) := by decide +kernel
theorem dX6_throwTo_40 : decode cX6_throwTo 40 = .ok (.dup, 1) := by decide +kernel
theorem dX6_throwTo_41 : decode cX6_throwTo 41 = .ok (.getfield 78, 3) := by decide +kernel
theorem dX6_throwTo_44 : decode cX6_throwTo 44 = .ok (.iconst 1, 1) := by decide +kernel
theorem dX6_throwTo_45 : decode cX6_throwTo 45 = .ok (.iadd, 1) := by decide +kernel
theorem dX6_throwTo_46 : decode cX6_throwTo 46 = .ok (.putfield 78, 3) := by decide +kernel
theorem dX6_throwTo_49 : decode cX6_throwTo 49 = .ok (.aload_n 0, 1) := by decide +kernel
theorem dX6_throwTo_50 : decode cX6_throwTo 50 = .ok (.iload_n 1, 1) := by decide +kernel
theorem dX6_throwTo_51 : decode cX6_throwTo 51 = .ok (.iconst 1, 1) := by decide +kernel
theorem dX6_throwTo_52 : decode cX6_throwTo 52 = .ok (.iadd, 1) := by decide +kernel
theorem dX6_throwTo_53 : decode cX6_throwTo 53 = .ok (.invokevirtual 85, 3) := by decide +kernel
theorem dX6_throwTo_56 : decode cX6_throwTo 56 = .ok (.aload_n 0, 1) := by decide +kernel
theorem dX6_throwTo_57 : decode cX6_throwTo 57 = .ok (.iload_n 2, 1) := by decide +kernel
theorem dX6_throwTo_58 : decode cX6_throwTo 58 = .ok (.invokevirtual 165, 3) := by decide +kernel
theorem dX6_throwTo_61 : decode cX6_throwTo 61 = .ok (.ireturn, 1) := by decide +kernel
theorem dX6_raise_0 : decode cX6_raise 0 = .ok (.aload_n 0, 1) := by decide +kernel
theorem dX6_raise_1 : decode cX6_raise 1 = .ok (.getfield 66, 3) := by decide +kernel
theorem dX6_raise_4 : decode cX6_raise 4 = .ok (.bipush 12, 2) := by decide +kernel
theorem dX6_raise_6 : decode cX6_raise 6 = .ok (.if_icmp .lt 9, 3) := by decide +kernel
theorem dX6_raise_9 : decode cX6_raise 9 = .ok (.aload_n 0, 1) := by decide +kernel
theorem dX6_raise_10 : decode cX6_raise 10 = .ok (.iconst 3, 1) := by decide +kernel
theorem dX6_raise_11 : decode cX6_raise 11 = .ok (.invokevirtual 201, 3) := by decide +kernel
theorem dX6_raise_14 : decode cX6_raise 14 = .ok (.ireturn, 1) := by decide +kernel
theorem dX6_raise_15 : decode cX6_raise 15 = .ok (.aload_n 0, 1) := by decide +kernel
theorem dX6_raise_16 : decode cX6_raise 16 = .ok (.dup, 1) := by decide +kernel
theorem dX6_raise_17 : decode cX6_raise 17 = .ok (.getfield 66, 3) := by decide +kernel
theorem dX6_raise_20 : decode cX6_raise 20 = .ok (.iconst 1, 1) := by decide +kernel
theorem dX6_raise_21 : decode cX6_raise 21 = .ok (.iadd, 1) := by decide +kernel
theorem dX6_raise_22 : decode cX6_raise 22 = .ok (.putfield 66, 3) := by decide +kernel
theorem dX6_raise_25 : decode cX6_raise 25 = .ok (.aload_n 0, 1) := by decide +kernel
theorem dX6_raise_26 : decode cX6_raise 26 = .ok (.getfield 12, 3) := by decide +kernel
theorem dX6_raise_29 : decode cX6_raise 29 = .ok (.getfield 175, 3) := by decide +kernel
theorem dX6_raise_32 : decode cX6_raise 32 = .ok (.istore_n 2, 1) := by decide +kernel
theorem dX6_raise_33 : decode cX6_raise 33 = .ok (.iload_n 2, 1) := by decide +kernel
theorem dX6_raise_34 : decode cX6_raise 34 = .ok (.ifCond .le 37, 3) := by decide +kernel
theorem dX6_raise_37 : decode cX6_raise 37 = .ok (.aload_n 0, 1) := by decide +kernel
theorem dX6_raise_38 : decode cX6_raise 38 = .ok (.getfield 44, 3) := by decide +kernel
theorem dX6_raise_41 : decode cX6_raise 41 = .ok (.getfield 241, 3) := by decide +kernel
theorem dX6_raise_44 : decode cX6_raise 44 = .ok (.aload_n 0, 1) := by decide +kernel
theorem dX6_raise_45 : decode cX6_raise 45 = .ok (.getfield 12, 3) := by decide +kernel
theorem dX6_raise_48 : decode cX6_raise 48 = .ok (.invokevirtual 92, 3) := by decide +kernel
theorem dX6_raise_51 : decode cX6_raise 51 = .ok (.getfield 225, 3) := by decide +kernel
theorem dX6_raise_54 : decode cX6_raise 54 = .ok (.baload, 1) := by decide +kernel
theorem dX6_raise_55 : decode cX6_raise 55 = .ok (.ifCond .ne 16, 3) := by decide +kernel
theorem dX6_raise_58 : decode cX6_raise 58 = .ok (.aload_n 0, 1) := by decide +kernel
theorem dX6_raise_59 : decode cX6_raise 59 = .ok (.iload_n 2, 1) := by decide +kernel
theorem dX6_raise_60 : decode cX6_raise 60 = .ok (.iconst 1, 1) := by decide +kernel
theorem dX6_raise_61 : decode cX6_raise 61 = .ok (.isub, 1) := by decide +kernel
theorem dX6_raise_62 : decode cX6_raise 62 = .ok (.invokevirtual 85, 3) := by decide +kernel
theorem dX6_raise_65 : decode cX6_raise 65 = .ok (.iinc 2 (-1), 3) := by decide +kernel
theorem dX6_raise_68 : decode cX6_raise 68 = .ok (.goto (-35), 3) := by decide +kernel
theorem dX6_raise_71 : decode cX6_raise 71 = .ok (.aload_n 0, 1) := by decide +kernel
theorem dX6_raise_72 : decode cX6_raise 72 = .ok (.getfield 12, 3) := by decide +kernel
theorem dX6_raise_75 : decode cX6_raise 75 = .ok (.getfield 175, 3) := by decide +kernel
theorem dX6_raise_78 : decode cX6_raise 78 = .ok (.ifCond .ne 17, 3) := by decide +kernel
theorem dX6_raise_81 : decode cX6_raise 81 = .ok (.aload_n 0, 1) := by decide +kernel
theorem dX6_raise_82 : decode cX6_raise 82 = .ok (.bipush (-10), 2) := by decide +kernel
theorem dX6_raise_84 : decode cX6_raise 84 = .ok (.iload_n 1, 1) := by decide +kernel
theorem dX6_raise_85 : decode cX6_raise 85 = .ok (.isub, 1) := by decide +kernel
theorem dX6_raise_86 : decode cX6_raise 86 = .ok (.putfield 72, 3) := by decide +kernel
theorem dX6_raise_89 : decode cX6_raise 89 = .ok (.aload_n 0, 1) := by decide +kernel
theorem dX6_raise_90 : decode cX6_raise 90 = .ok (.iconst 2, 1) := by decide +kernel
theorem dX6_raise_91 : decode cX6_raise 91 = .ok (.invokevirtual 201, 3) := by decide +kernel
theorem dX6_raise_94 : decode cX6_raise 94 = .ok (.ireturn, 1) := by decide +kernel
theorem dX6_raise_95 : decode cX6_raise 95 = .ok (.aload_n 0, 1) := by decide +kernel
theorem dX6_raise_96 : decode cX6_raise 96 = .ok (.dup, 1) := by decide +kernel
theorem dX6_raise_97 : decode cX6_raise 97 = .ok (.getfield 75, 3) := by decide +kernel
theorem dX6_raise_100 : decode cX6_raise 100 = .ok (.iconst 1, 1) := by decide +kernel
theorem dX6_raise_101 : decode cX6_raise 101 = .ok (.iadd, 1) := by decide +kernel
theorem dX6_raise_102 : decode cX6_raise 102 = .ok (.putfield 75, 3) := by decide +kernel
theorem dX6_raise_105 : decode cX6_raise 105 = .ok (.aload_n 0, 1) := by decide +kernel
theorem dX6_raise_106 : decode cX6_raise 106 = .ok (.bipush (-10), 2) := by decide +kernel
theorem dX6_raise_108 : decode cX6_raise 108 = .ok (.iload_n 1, 1) := by decide +kernel
theorem dX6_raise_109 : decode cX6_raise 109 = .ok (.isub, 1) := by decide +kernel
theorem dX6_raise_110 : decode cX6_raise 110 = .ok (.invokevirtual 165, 3) := by decide +kernel
theorem dX6_raise_113 : decode cX6_raise 113 = .ok (.ireturn, 1) := by decide +kernel
theorem dX6_printRows_0 : decode cX6_printRows 0 = .ok (.iload_n 1, 1) := by decide +kernel
theorem dX6_printRows_1 : decode cX6_printRows 1 = .ok (.istore 4, 2) := by decide +kernel
theorem dX6_printRows_3 : decode cX6_printRows 3 = .ok (.iconst 0, 1) := by decide +kernel
theorem dX6_printRows_4 : decode cX6_printRows 4 = .ok (.istore 5, 2) := by decide +kernel
theorem dX6_printRows_6 : decode cX6_printRows 6 = .ok (.iload 5, 2) := by decide +kernel
theorem dX6_printRows_8 : decode cX6_printRows 8 = .ok (.iload_n 3, 1) := by decide +kernel
theorem dX6_printRows_9 : decode cX6_printRows 9 = .ok (.if_icmp .ge 87, 3) := by decide +kernel
theorem dX6_printRows_12 : decode cX6_printRows 12 = .ok (.iload 5, 2) := by decide +kernel
theorem dX6_printRows_14 : decode cX6_printRows 14 = .ok (.ifCond .le 18, 3) := by decide +kernel
theorem dX6_printRows_17 : decode cX6_printRows 17 = .ok (.aload_n 0, 1) := by decide +kernel
theorem dX6_printRows_18 : decode cX6_printRows 18 = .ok (.getfield 21, 3) := by decide +kernel
theorem dX6_printRows_21 : decode cX6_printRows 21 = .ok (.bipush 10, 2) := by decide +kernel
theorem dX6_printRows_23 : decode cX6_printRows 23 = .ok (.invokevirtual 195, 3) := by decide +kernel
theorem dX6_printRows_26 : decode cX6_printRows 26 = .ok (.ifCond .ge 6, 3) := by decide +kernel
theorem dX6_printRows_29 : decode cX6_printRows 29 = .ok (.bipush (-21), 2) := by decide +kernel
theorem dX6_printRows_31 : decode cX6_printRows 31 = .ok (.ireturn, 1) := by decide +kernel
theorem dX6_printRows_32 : decode cX6_printRows 32 = .ok (.iconst 0, 1) := by decide +kernel
theorem dX6_printRows_33 : decode cX6_printRows 33 = .ok (.istore 6, 2) := by decide +kernel
theorem dX6_printRows_35 : decode cX6_printRows 35 = .ok (.iload 6, 2) := by decide +kernel
theorem dX6_printRows_37 : decode cX6_printRows 37 = .ok (.iload_n 2, 1) := by decide +kernel
theorem dX6_printRows_38 : decode cX6_printRows 38 = .ok (.if_icmp .ge 52, 3) := by decide +kernel
theorem dX6_printRows_41 : decode cX6_printRows 41 = .ok (.aload_n 0, 1) := by decide +kernel
theorem dX6_printRows_42 : decode cX6_printRows 42 = .ok (.getfield 36, 3) := by decide +kernel
theorem dX6_printRows_45 : decode cX6_printRows 45 = .ok (.iload 4, 2) := by decide +kernel
theorem dX6_printRows_47 : decode cX6_printRows 47 = .ok (.invokevirtual 155, 3) := by decide +kernel
theorem dX6_printRows_50 : decode cX6_printRows 50 = .ok (.istore 7, 2) := by decide +kernel
theorem dX6_printRows_52 : decode cX6_printRows 52 = .ok (.iload 7, 2) := by decide +kernel
theorem dX6_printRows_54 : decode cX6_printRows 54 = .ok (.ifCond .ge 8, 3) := by decide +kernel
theorem dX6_printRows_57 : decode cX6_printRows 57 = .ok (.iload 7, 2) := by decide +kernel
theorem dX6_printRows_59 : decode cX6_printRows 59 = .ok (.goto 12, 3) := by decide +kernel
theorem dX6_printRows_62 : decode cX6_printRows 62 = .ok (.aload_n 0, 1) := by decide +kernel
theorem dX6_printRows_63 : decode cX6_printRows 63 = .ok (.getfield 21, 3) := by decide +kernel
theorem dX6_printRows_66 : decode cX6_printRows 66 = .ok (.iload 7, 2) := by decide +kernel
theorem dX6_printRows_68 : decode cX6_printRows 68 = .ok (.invokevirtual 195, 3) := by decide +kernel
theorem dX6_printRows_71 : decode cX6_printRows 71 = .ok (.istore 8, 2) := by decide +kernel
theorem dX6_printRows_73 : decode cX6_printRows 73 = .ok (.iload 8, 2) := by decide +kernel
theorem dX6_printRows_75 : decode cX6_printRows 75 = .ok (.ifCond .ge 6, 3) := by decide +kernel
theorem dX6_printRows_78 : decode cX6_printRows 78 = .ok (.iload 8, 2) := by decide +kernel
theorem dX6_printRows_80 : decode cX6_printRows 80 = .ok (.ireturn, 1) := by decide +kernel
theorem dX6_printRows_81 : decode cX6_printRows 81 = .ok (.iinc 4 1, 3) := by decide +kernel
theorem dX6_printRows_84 : decode cX6_printRows 84 = .ok (.iinc 6 1, 3) := by decide +kernel
theorem dX6_printRows_87 : decode cX6_printRows 87 = .ok (.goto (-52), 3) := by decide +kernel
theorem dX6_printRows_90 : decode cX6_printRows 90 = .ok (.iinc 5 1, 3) := by decide +kernel
theorem dX6_printRows_93 : decode cX6_printRows 93 = .ok (.goto (-87), 3) := by decide +kernel
theorem dX6_printRows_96 : decode cX6_printRows 96 = .ok (.iconst 1, 1) := by decide +kernel
theorem dX6_printRows_97 : decode cX6_printRows 97 = .ok (.ireturn, 1) := by decide +kernel
theorem dX7_init_0 : decode cX7_init 0 = .ok (.aload_n 0, 1) := by decide +kernel
theorem dX7_init_1 : decode cX7_init 1 = .ok (.invokespecial 3, 3) := by decide +kernel
theorem dX7_init_4 : decode cX7_init 4 = .ok (.aload_n 0, 1) := by decide +kernel
theorem dX7_init_5 : decode cX7_init 5 = .ok (.new 9, 3) := by decide +kernel
theorem dX7_init_8 : decode cX7_init 8 = .ok (.dup, 1) := by decide +kernel
theorem dX7_init_9 : decode cX7_init 9 = .ok (.invokespecial 11, 3) := by decide +kernel
theorem dX7_init_12 : decode cX7_init 12 = .ok (.putfield 12, 3) := by decide +kernel
theorem dX7_init_15 : decode cX7_init 15 = .ok (.aload_n 0, 1) := by decide +kernel
theorem dX7_init_16 : decode cX7_init 16 = .ok (.new 16, 3) := by decide +kernel
theorem dX7_init_19 : decode cX7_init 19 = .ok (.dup, 1) := by decide +kernel
theorem dX7_init_20 : decode cX7_init 20 = .ok (.invokespecial 18, 3) := by decide +kernel
theorem dX7_init_23 : decode cX7_init 23 = .ok (.putfield 19, 3) := by decide +kernel
theorem dX7_init_26 : decode cX7_init 26 = .ok (.aload_n 0, 1) := by decide +kernel
theorem dX7_init_27 : decode cX7_init 27 = .ok (.new 23, 3) := by decide +kernel
theorem dX7_init_30 : decode cX7_init 30 = .ok (.dup, 1) := by decide +kernel
theorem dX7_init_31 : decode cX7_init 31 = .ok (.invokespecial 25, 3) := by decide +kernel
theorem dX7_init_34 : decode cX7_init 34 = .ok (.putfield 26, 3) := by decide +kernel
theorem dX7_init_37 : decode cX7_init 37 = .ok (.aload_n 0, 1) := by decide +kernel
theorem dX7_init_38 : decode cX7_init 38 = .ok (.new 30, 3) := by decide +kernel
theorem dX7_init_41 : decode cX7_init 41 = .ok (.dup, 1) := by decide +kernel
theorem dX7_init_42 : decode cX7_init 42 = .ok (.aload_n 0, 1) := by decide +kernel
theorem dX7_init_43 : decode cX7_init 43 = .ok (.getfield 12, 3) := by decide +kernel
theorem dX7_init_46 : decode cX7_init 46 = .ok (.aload_n 0, 1) := by decide +kernel
theorem dX7_init_47 : decode cX7_init 47 = .ok (.getfield 19, 3) := by decide +kernel
theorem dX7_init_50 : decode cX7_init 50 = .ok (.aload_n 0, 1) := by decide +kernel
theorem dX7_init_51 : decode cX7_init 51 = .ok (.getfield 26, 3) := by decide +kernel
theorem dX7_init_54 : decode cX7_init 54 = .ok (.invokespecial 32, 3) := by decide +kernel
theorem dX7_init_57 : decode cX7_init 57 = .ok (.putfield 35, 3) := by decide +kernel
theorem dX7_init_60 : decode cX7_init 60 = .ok (.return_, 1) := by decide +kernel
theorem dX7_size_0 : decode cX7_size 0 = .ok (.iload_n 1, 1) := by decide +kernel
theorem dX7_size_1 : decode cX7_size 1 = .ok (.ifCond .lt 19, 3) := by decide +kernel
theorem dX7_size_4 : decode cX7_size 4 = .ok (.iload_n 1, 1) := by decide +kernel
theorem dX7_size_5 : decode cX7_size 5 = .ok (.sipush 2000, 3) := by decide +kernel
theorem dX7_size_8 : decode cX7_size 8 = .ok (.if_icmp .gt 12, 3) := by decide +kernel
theorem dX7_size_11 : decode cX7_size 11 = .ok (.iload_n 2, 1) := by decide +kernel
theorem dX7_size_12 : decode cX7_size 12 = .ok (.ifCond .lt 8, 3) := by decide +kernel
theorem dX7_size_15 : decode cX7_size 15 = .ok (.iload_n 2, 1) := by decide +kernel
theorem dX7_size_16 : decode cX7_size 16 = .ok (.iload_n 1, 1) := by decide +kernel
theorem dX7_size_17 : decode cX7_size 17 = .ok (.if_icmp .le 6, 3) := by decide +kernel
theorem dX7_size_20 : decode cX7_size 20 = .ok (.bipush (-2), 2) := by decide +kernel
theorem dX7_size_22 : decode cX7_size 22 = .ok (.ireturn, 1) := by decide +kernel
theorem dX7_size_23 : decode cX7_size 23 = .ok (.aload_n 0, 1) := by decide +kernel
theorem dX7_size_24 : decode cX7_size 24 = .ok (.getfield 12, 3) := by decide +kernel
theorem dX7_size_27 : decode cX7_size 27 = .ok (.iload_n 1, 1) := by decide +kernel
theorem dX7_size_28 : decode cX7_size 28 = .ok (.iload_n 2, 1) := by decide +kernel
theorem dX7_size_29 : decode cX7_size 29 = .ok (.invokevirtual 39, 3) := by decide +kernel
theorem dX7_size_32 : decode cX7_size 32 = .ok (.iconst 1, 1) := by decide +kernel
theorem dX7_size_33 : decode cX7_size 33 = .ok (.ireturn, 1) := by decide +kernel
theorem dX7_get_0 : decode cX7_get 0 = .ok (.iload_n 2, 1) := by decide +kernel
theorem dX7_get_1 : decode cX7_get 1 = .ok (.ifCond .eq 14, 3) := by decide +kernel
theorem dX7_get_4 : decode cX7_get 4 = .ok (.aload_n 0, 1) := by decide +kernel
theorem dX7_get_5 : decode cX7_get 5 = .ok (.getfield 12, 3) := by decide +kernel
theorem dX7_get_8 : decode cX7_get 8 = .ok (.iload_n 1, 1) := by decide +kernel
theorem dX7_get_9 : decode cX7_get 9 = .ok (.invokevirtual 43, 3) := by decide +kernel
theorem dX7_get_12 : decode cX7_get 12 = .ok (.goto 11, 3) := by decide +kernel
theorem dX7_get_15 : decode cX7_get 15 = .ok (.aload_n 0, 1) := by decide +kernel
theorem dX7_get_16 : decode cX7_get 16 = .ok (.getfield 12, 3) := by decide +kernel
theorem dX7_get_19 : decode cX7_get 19 = .ok (.iload_n 1, 1) := by decide +kernel
theorem dX7_get_20 : decode cX7_get 20 = .ok (.invokevirtual 47, 3) := by decide +kernel
theorem dX7_get_23 : decode cX7_get 23 = .ok (.ireturn, 1) := by decide +kernel
theorem dX7_put_0 : decode cX7_put 0 = .ok (.iload_n 3, 1) := by decide +kernel
theorem dX7_put_1 : decode cX7_put 1 = .ok (.ifCond .eq 17, 3) := by decide +kernel
theorem dX7_put_4 : decode cX7_put 4 = .ok (.aload_n 0, 1) := by decide +kernel
theorem dX7_put_5 : decode cX7_put 5 = .ok (.getfield 12, 3) := by decide +kernel
theorem dX7_put_8 : decode cX7_put 8 = .ok (.iload_n 1, 1) := by decide +kernel
theorem dX7_put_9 : decode cX7_put 9 = .ok (.iload_n 2, 1) := by decide +kernel
theorem dX7_put_10 : decode cX7_put 10 = .ok (.iload 4, 2) := by decide +kernel
theorem dX7_put_12 : decode cX7_put 12 = .ok (.invokevirtual 50, 3) := by decide +kernel
theorem dX7_put_15 : decode cX7_put 15 = .ok (.goto 14, 3) := by decide +kernel
theorem dX7_put_18 : decode cX7_put 18 = .ok (.aload_n 0, 1) := by decide +kernel
theorem dX7_put_19 : decode cX7_put 19 = .ok (.getfield 12, 3) := by decide +kernel
theorem dX7_put_22 : decode cX7_put 22 = .ok (.iload_n 1, 1) := by decide +kernel
theorem dX7_put_23 : decode cX7_put 23 = .ok (.iload_n 2, 1) := by decide +kernel
theorem dX7_put_24 : decode cX7_put 24 = .ok (.iload 4, 2) := by decide +kernel
theorem dX7_put_26 : decode cX7_put 26 = .ok (.invokevirtual 54, 3) := by decide +kernel
theorem dX7_put_29 : decode cX7_put 29 = .ok (.ireturn, 1) := by decide +kernel
theorem dX7_work_0 : decode cX7_work 0 = .ok (.iload_n 1, 1) := by decide +kernel
theorem dX7_work_1 : decode cX7_work 1 = .ok (.ifCond .lt 9, 3) := by decide +kernel
theorem dX7_work_4 : decode cX7_work 4 = .ok (.iload_n 1, 1) := by decide +kernel
theorem dX7_work_5 : decode cX7_work 5 = .ok (.bipush 9, 2) := by decide +kernel
theorem dX7_work_7 : decode cX7_work 7 = .ok (.if_icmp .le 13, 3) := by decide +kernel
theorem dX7_work_10 : decode cX7_work 10 = .ok (.new 57, 3) := by decide +kernel
theorem dX7_work_13 : decode cX7_work 13 = .ok (.dup, 1) := by decide +kernel
theorem dX7_work_14 : decode cX7_work 14 = .ok (.ldc 59, 2) := by decide +kernel
theorem dX7_work_16 : decode cX7_work 16 = .ok (.invokespecial 61, 3) := by decide +kernel
theorem dX7_work_19 : decode cX7_work 19 = .ok (.athrow, 1) := by decide +kernel
theorem dX7_work_20 : decode cX7_work 20 = .ok (.iload_n 1, 1) := by decide +kernel
theorem dX7_work_21 : decode cX7_work 21 = .ok (.iload_n 2, 1) := by decide +kernel
theorem dX7_work_22 : decode cX7_work 22 = .ok (.invokestatic 64, 3) := by decide +kernel
theorem dX7_work_25 : decode cX7_work 25 = .ok (.iload_n 3, 1) := by decide +kernel
theorem dX7_work_26 : decode cX7_work 26 = .ok (.invokestatic 64, 3) := by decide +kernel
theorem dX7_work_29 : decode cX7_work 29 = .ok (.invokestatic 67, 3) := by decide +kernel
theorem dX7_work_32 : decode cX7_work 32 = .ok (.istore 4, 2) := by decide +kernel
theorem dX7_work_34 : decode cX7_work 34 = .ok (.iload 4, 2) := by decide +kernel
theorem dX7_work_36 : decode cX7_work 36 = .ok (.ifCond .ge 13, 3) := by decide +kernel
theorem dX7_work_39 : decode cX7_work 39 = .ok (.new 71, 3) := by decide +kernel
theorem dX7_work_42 : decode cX7_work 42 = .ok (.dup, 1) := by decide +kernel
theorem dX7_work_43 : decode cX7_work 43 = .ok (.ldc 73, 2) := by decide +kernel
theorem dX7_work_45 : decode cX7_work 45 = .ok (.invokespecial 75, 3) := by decide +kernel
theorem dX7_work_48 : decode cX7_work 48 = .ok (.athrow, 1) := by decide +kernel
theorem dX7_work_49 : decode cX7_work 49 = .ok (.iload 4, 2) := by decide +kernel
theorem dX7_work_51 : decode cX7_work 51 = .ok (.invokestatic 64, 3) := by decide +kernel
theorem dX7_work_54 : decode cX7_work 54 = .ok (.ireturn, 1) := by decide +kernel
theorem dX7_copy_0 : decode cX7_copy 0 = .ok (.aload_n 0, 1) := by decide +kernel
theorem dX7_copy_1 : decode cX7_copy 1 = .ok (.getfield 12, 3) := by decide +kernel
theorem dX7_copy_4 : decode cX7_copy 4 = .ok (.iload_n 1, 1) := by decide +kernel
theorem dX7_copy_5 : decode cX7_copy 5 = .ok (.invokestatic 76, 3) := by decide +kernel
theorem dX7_copy_8 : decode cX7_copy 8 = .ok (.iload_n 2, 1) := by decide +kernel
theorem dX7_copy_9 : decode cX7_copy 9 = .ok (.invokestatic 76, 3) := by decide +kernel
theorem dX7_copy_12 : decode cX7_copy 12 = .ok (.iload_n 3, 1) := by decide +kernel
theorem dX7_copy_13 : decode cX7_copy 13 = .ok (.invokestatic 64, 3) := by decide +kernel
theorem dX7_copy_16 : decode cX7_copy 16 = .ok (.invokevirtual 79, 3) := by decide +kernel
theorem dX7_copy_19 : decode cX7_copy 19 = .ok (.ireturn, 1) := by decide +kernel
theorem dX7_look_0 : decode cX7_look 0 = .ok (.iload 4, 2) := by decide +kernel
theorem dX7_look_2 : decode cX7_look 2 = .ok (.sipush 255, 3) := by decide +kernel
theorem dX7_look_5 : decode cX7_look 5 = .ok (.invokestatic 82, 3) := by decide +kernel
theorem dX7_look_8 : decode cX7_look 8 = .ok (.ifCond .ne 6, 3) := by decide +kernel
theorem dX7_look_11 : decode cX7_look 11 = .ok (.bipush (-2), 2) := by decide +kernel
theorem dX7_look_13 : decode cX7_look 13 = .ok (.ireturn, 1) := by decide +kernel
theorem dX7_look_14 : decode cX7_look 14 = .ok (.aload_n 0, 1) := by decide +kernel
theorem dX7_look_15 : decode cX7_look 15 = .ok (.getfield 12, 3) := by decide +kernel
theorem dX7_look_18 : decode cX7_look 18 = .ok (.iload_n 1, 1) := by decide +kernel
theorem dX7_look_19 : decode cX7_look 19 = .ok (.invokestatic 76, 3) := by decide +kernel
theorem dX7_look_22 : decode cX7_look 22 = .ok (.iload_n 2, 1) := by decide +kernel
theorem dX7_look_23 : decode cX7_look 23 = .ok (.invokestatic 76, 3) := by decide +kernel
theorem dX7_look_26 : decode cX7_look 26 = .ok (.iload_n 3, 1) := by decide +kernel
theorem dX7_look_27 : decode cX7_look 27 = .ok (.invokestatic 64, 3) := by decide +kernel
theorem dX7_look_30 : decode cX7_look 30 = .ok (.iload 4, 2) := by decide +kernel
theorem dX7_look_32 : decode cX7_look 32 = .ok (.invokevirtual 86, 3) := by decide +kernel
theorem dX7_look_35 : decode cX7_look 35 = .ok (.ireturn, 1) := by decide +kernel
theorem dX7_random_0 : decode cX7_random 0 = .ok (.aload_n 0, 1) := by decide +kernel
theorem dX7_random_1 : decode cX7_random 1 = .ok (.getfield 19, 3) := by decide +kernel
theorem dX7_random_4 : decode cX7_random 4 = .ok (.iload_n 1, 1) := by decide +kernel
theorem dX7_random_5 : decode cX7_random 5 = .ok (.invokestatic 64, 3) := by decide +kernel
theorem dX7_random_8 : decode cX7_random 8 = .ok (.invokevirtual 90, 3) := by decide +kernel
theorem dX7_random_11 : decode cX7_random 11 = .ok (.ireturn, 1) := by decide +kernel
theorem dX7_tape_0 : decode cX7_tape 0 = .ok (.iload_n 1, 1) := by decide +kernel
theorem dX7_tape_1 : decode cX7_tape 1 = .ok (.ldc 93, 2) := by decide +kernel
theorem dX7_tape_3 : decode cX7_tape 3 = .ok (.invokestatic 82, 3) := by decide +kernel
theorem dX7_tape_6 : decode cX7_tape 6 = .ok (.ifCond .ne 6, 3) := by decide +kernel
theorem dX7_tape_9 : decode cX7_tape 9 = .ok (.bipush (-2), 2) := by decide +kernel
theorem dX7_tape_11 : decode cX7_tape 11 = .ok (.ireturn, 1) := by decide +kernel
theorem dX7_tape_12 : decode cX7_tape 12 = .ok (.aload_n 0, 1) := by decide +kernel
theorem dX7_tape_13 : decode cX7_tape 13 = .ok (.getfield 19, 3) := by decide +kernel
theorem dX7_tape_16 : decode cX7_tape 16 = .ok (.iload_n 1, 1) := by decide +kernel
theorem dX7_tape_17 : decode cX7_tape 17 = .ok (.invokevirtual 94, 3) := by decide +kernel
theorem dX7_tape_20 : decode cX7_tape 20 = .ok (.ireturn, 1) := by decide +kernel
theorem dX7_globe_0 : decode cX7_globe 0 = .ok (.iload_n 1, 1) := by decide +kernel
theorem dX7_globe_1 : decode cX7_globe 1 = .ok (.ldc 93, 2) := by decide +kernel
theorem dX7_globe_3 : decode cX7_globe 3 = .ok (.invokestatic 82, 3) := by decide +kernel
theorem dX7_globe_6 : decode cX7_globe 6 = .ok (.ifCond .ne 6, 3) := by decide +kernel
theorem dX7_globe_9 : decode cX7_globe 9 = .ok (.bipush (-2), 2) := by decide +kernel
theorem dX7_globe_11 : decode cX7_globe 11 = .ok (.ireturn, 1) := by decide +kernel
theorem dX7_globe_12 : decode cX7_globe 12 = .ok (.aload_n 0, 1) := by decide +kernel
theorem dX7_globe_13 : decode cX7_globe 13 = .ok (.getfield 35, 3) := by decide +kernel
theorem dX7_globe_16 : decode cX7_globe 16 = .ok (.getfield 97, 3) := by decide +kernel
theorem dX7_globe_19 : decode cX7_globe 19 = .ok (.istore_n 2, 1) := by decide +kernel
theorem dX7_globe_20 : decode cX7_globe 20 = .ok (.aload_n 0, 1) := by decide +kernel
theorem dX7_globe_21 : decode cX7_globe 21 = .ok (.getfield 35, 3) := by decide +kernel
theorem dX7_globe_24 : decode cX7_globe 24 = .ok (.iload_n 1, 1) := by decide +kernel
theorem dX7_globe_25 : decode cX7_globe 25 = .ok (.putfield 97, 3) := by decide +kernel
theorem dX7_globe_28 : decode cX7_globe 28 = .ok (.iload_n 2, 1) := by decide +kernel
theorem dX7_globe_29 : decode cX7_globe 29 = .ok (.ireturn, 1) := by decide +kernel
theorem dX7_form_0 : decode cX7_form 0 = .ok (.iload_n 1, 1) := by decide +kernel
theorem dX7_form_1 : decode cX7_form 1 = .ok (.sipush 255, 3) := by decide +kernel
theorem dX7_form_4 : decode cX7_form 4 = .ok (.invokestatic 82, 3) := by decide +kernel
theorem dX7_form_7 : decode cX7_form 7 = .ok (.ifCond .ne 6, 3) := by decide +kernel
theorem dX7_form_10 : decode cX7_form 10 = .ok (.bipush (-2), 2) := by decide +kernel
theorem dX7_form_12 : decode cX7_form 12 = .ok (.ireturn, 1) := by decide +kernel
theorem dX7_form_13 : decode cX7_form 13 = .ok (.aload_n 0, 1) := by decide +kernel
theorem dX7_form_14 : decode cX7_form 14 = .ok (.getfield 35, 3) := by decide +kernel
theorem dX7_form_17 : decode cX7_form 17 = .ok (.getfield 101, 3) := by decide +kernel
theorem dX7_form_20 : decode cX7_form 20 = .ok (.istore_n 2, 1) := by decide +kernel
theorem dX7_form_21 : decode cX7_form 21 = .ok (.aload_n 0, 1) := by decide +kernel
theorem dX7_form_22 : decode cX7_form 22 = .ok (.getfield 35, 3) := by decide +kernel
theorem dX7_form_25 : decode cX7_form 25 = .ok (.iload_n 1, 1) := by decide +kernel
theorem dX7_form_26 : decode cX7_form 26 = .ok (.putfield 101, 3) := by decide +kernel
theorem dX7_form_29 : decode cX7_form 29 = .ok (.iload_n 2, 1) := by decide +kernel
theorem dX7_form_30 : decode cX7_form 30 = .ok (.ireturn, 1) := by decide +kernel
theorem dX7_instruction_0 : decode cX7_instruction 0 = .ok (.iload_n 2, 1) := by decide +kernel
theorem dX7_instruction_1 : decode cX7_instruction 1 = .ok (.invokestatic 104, 3) := by decide +kernel
theorem dX7_instruction_4 : decode cX7_instruction 4 = .ok (.ifCond .eq 18, 3) := by decide +kernel
theorem dX7_instruction_7 : decode cX7_instruction 7 = .ok (.iload_n 3, 1) := by decide +kernel
theorem dX7_instruction_8 : decode cX7_instruction 8 = .ok (.invokestatic 104, 3) := by decide +kernel
theorem dX7_instruction_11 : decode cX7_instruction 11 = .ok (.ifCond .eq 11, 3) := by decide +kernel
theorem dX7_instruction_14 : decode cX7_instruction 14 = .ok (.iload 4, 2) := by decide +kernel
theorem dX7_instruction_16 : decode cX7_instruction 16 = .ok (.invokestatic 104, 3) := by decide +kernel
theorem dX7_instruction_19 : decode cX7_instruction 19 = .ok (.ifCond .ne 6, 3) := by decide +kernel
theorem dX7_instruction_22 : decode cX7_instruction 22 = .ok (.bipush (-2), 2) := by decide +kernel
theorem dX7_instruction_24 : decode cX7_instruction 24 = .ok (.ireturn, 1) := by decide +kernel
theorem dX7_instruction_25 : decode cX7_instruction 25 = .ok (.iload 5, 2) := by decide +kernel
theorem dX7_instruction_27 : decode cX7_instruction 27 = .ok (.iconst (-1), 1) := by decide +kernel
theorem dX7_instruction_28 : decode cX7_instruction 28 = .ok (.if_icmp .lt 11, 3) := by decide +kernel
theorem dX7_instruction_31 : decode cX7_instruction 31 = .ok (.iload 5, 2) := by decide +kernel
theorem dX7_instruction_33 : decode cX7_instruction 33 = .ok (.sipush 255, 3) := by decide +kernel
theorem dX7_instruction_36 : decode cX7_instruction 36 = .ok (.if_icmp .le 6, 3) := by decide +kernel
theorem dX7_instruction_39 : decode cX7_instruction 39 = .ok (.bipush (-2), 2) := by decide +kernel
theorem dX7_instruction_41 : decode cX7_instruction 41 = .ok (.ireturn, 1) := by decide +kernel
theorem dX7_instruction_42 : decode cX7_instruction 42 = .ok (.aload_n 0, 1) := by decide +kernel
theorem dX7_instruction_43 : decode cX7_instruction 43 = .ok (.getfield 26, 3) := by decide +kernel
theorem dX7_instruction_46 : decode cX7_instruction 46 = .ok (.iload_n 1, 1) := by decide +kernel
theorem dX7_instruction_47 : decode cX7_instruction 47 = .ok (.iload_n 2, 1) := by decide +kernel
theorem dX7_instruction_48 : decode cX7_instruction 48 = .ok (.iload_n 3, 1) := by decide +kernel
theorem dX7_instruction_49 : decode cX7_instruction 49 = .ok (.iload 4, 2) := by decide +kernel
theorem dX7_instruction_51 : decode cX7_instruction 51 = .ok (.iload 5, 2) := by decide +kernel
theorem dX7_instruction_53 : decode cX7_instruction 53 = .ok (.invokevirtual 108, 3) := by decide +kernel
theorem dX7_instruction_56 : decode cX7_instruction 56 = .ok (.ireturn, 1) := by decide +kernel
theorem dX7_routine_0 : decode cX7_routine 0 = .ok (.iload_n 1, 1) := by decide +kernel
theorem dX7_routine_1 : decode cX7_routine 1 = .ok (.bipush 7, 2) := by decide +kernel
theorem dX7_routine_3 : decode cX7_routine 3 = .ok (.invokestatic 82, 3) := by decide +kernel
theorem dX7_routine_6 : decode cX7_routine 6 = .ok (.ifCond .ne 5, 3) := by decide +kernel
theorem dX7_routine_9 : decode cX7_routine 9 = .ok (.iconst (-1), 1) := by decide +kernel
theorem dX7_routine_10 : decode cX7_routine 10 = .ok (.ireturn, 1) := by decide +kernel
theorem dX7_routine_11 : decode cX7_routine 11 = .ok (.iload_n 2, 1) := by decide +kernel
theorem dX7_routine_12 : decode cX7_routine 12 = .ok (.bipush 99, 2) := by decide +kernel
theorem dX7_routine_14 : decode cX7_routine 14 = .ok (.invokestatic 82, 3) := by decide +kernel
theorem dX7_routine_17 : decode cX7_routine 17 = .ok (.ifCond .eq 12, 3) := by decide +kernel
theorem dX7_routine_20 : decode cX7_routine 20 = .ok (.iload_n 3, 1) := by decide +kernel
theorem dX7_routine_21 : decode cX7_routine 21 = .ok (.bipush 15, 2) := by decide +kernel
theorem dX7_routine_23 : decode cX7_routine 23 = .ok (.invokestatic 82, 3) := by decide +kernel
theorem dX7_routine_26 : decode cX7_routine 26 = .ok (.ifCond .ne 6, 3) := by decide +kernel
theorem dX7_routine_29 : decode cX7_routine 29 = .ok (.bipush (-2), 2) := by decide +kernel
theorem dX7_routine_31 : decode cX7_routine 31 = .ok (.ireturn, 1) := by decide +kernel
theorem dX7_routine_32 : decode cX7_routine 32 = .ok (.aload_n 0, 1) := by decide +kernel
theorem dX7_routine_33 : decode cX7_routine 33 = .ok (.getfield 26, 3) := by decide +kernel
theorem dX7_routine_36 : decode cX7_routine 36 = .ok (.iload_n 1, 1) := by decide +kernel
theorem dX7_routine_37 : decode cX7_routine 37 = .ok (.iload_n 2, 1) := by decide +kernel
theorem dX7_routine_38 : decode cX7_routine 38 = .ok (.iload_n 3, 1) := by decide +kernel
theorem dX7_routine_39 : decode cX7_routine 39 = .ok (.iload 4, 2) := by decide +kernel
theorem dX7_routine_41 : decode cX7_routine 41 = .ok (.invokevirtual 112, 3) := by decide +kernel
theorem dX7_routine_44 : decode cX7_routine 44 = .ok (.iconst 1, 1) := by decide +kernel
theorem dX7_routine_45 : decode cX7_routine 45 = .ok (.ireturn, 1) := by decide +kernel
theorem dX7_clear_0 : decode cX7_clear 0 = .ok (.aload_n 0, 1) := by decide +kernel
theorem dX7_clear_1 : decode cX7_clear 1 = .ok (.getfield 26, 3) := by decide +kernel
theorem dX7_clear_4 : decode cX7_clear 4 = .ok (.invokevirtual 116, 3) := by decide +kernel
theorem dX7_clear_7 : decode cX7_clear 7 = .ok (.ireturn, 1) := by decide +kernel
theorem dX7_run_0 : decode cX7_run 0 = .ok (.aload_n 0, 1) := by decide +kernel
theorem dX7_run_1 : decode cX7_run 1 = .ok (.getfield 26, 3) := by decide +kernel
theorem dX7_run_4 : decode cX7_run 4 = .ok (.iload_n 1, 1) := by decide +kernel
theorem dX7_run_5 : decode cX7_run 5 = .ok (.invokevirtual 120, 3) := by decide +kernel
theorem dX7_run_8 : decode cX7_run 8 = .ok (.ifCond .ne 5, 3) := by decide +kernel
theorem dX7_run_11 : decode cX7_run 11 = .ok (.iconst (-1), 1) := by decide +kernel
theorem dX7_run_12 : decode cX7_run 12 = .ok (.ireturn, 1) := by decide +kernel
theorem dX7_run_13 : decode cX7_run 13 = .ok (.aload_n 0, 1) := by decide +kernel
theorem dX7_run_14 : decode cX7_run 14 = .ok (.getfield 35, 3) := by decide +kernel
theorem dX7_run_17 : decode cX7_run 17 = .ok (.iload_n 1, 1) := by decide +kernel
theorem dX7_run_18 : decode cX7_run 18 = .ok (.iload_n 2, 1) := by decide +kernel
theorem dX7_run_19 : decode cX7_run 19 = .ok (.invokestatic 76, 3) := by decide +kernel
theorem dX7_run_22 : decode cX7_run 22 = .ok (.iload_n 3, 1) := by decide +kernel
theorem dX7_run_23 : decode cX7_run 23 = .ok (.invokestatic 76, 3) := by decide +kernel
theorem dX7_run_26 : decode cX7_run 26 = .ok (.invokevirtual 123, 3) := by decide +kernel
theorem dX7_run_29 : decode cX7_run 29 = .ok (.iconst 0, 1) := by decide +kernel
theorem dX7_run_30 : decode cX7_run 30 = .ok (.istore 4, 2) := by decide +kernel
theorem dX7_run_32 : decode cX7_run 32 = .ok (.iload 4, 2) := by decide +kernel
theorem dX7_run_34 : decode cX7_run 34 = .ok (.sipush 300, 3) := by decide +kernel
theorem dX7_run_37 : decode cX7_run 37 = .ok (.if_icmp .ge 33, 3) := by decide +kernel
theorem dX7_run_40 : decode cX7_run 40 = .ok (.aload_n 0, 1) := by decide +kernel
theorem dX7_run_41 : decode cX7_run 41 = .ok (.getfield 35, 3) := by decide +kernel
theorem dX7_run_44 : decode cX7_run 44 = .ok (.invokevirtual 126, 3) := by decide +kernel
theorem dX7_run_47 : decode cX7_run 47 = .ok (.ifCond .eq 23, 3) := by decide +kernel
theorem dX7_run_50 : decode cX7_run 50 = .ok (.aload_n 0, 1) := by decide +kernel
theorem dX7_run_51 : decode cX7_run 51 = .ok (.getfield 35, 3) := by decide +kernel
theorem dX7_run_54 : decode cX7_run 54 = .ok (.aload_n 0, 1) := by decide +kernel
theorem dX7_run_55 : decode cX7_run 55 = .ok (.getfield 35, 3) := by decide +kernel
theorem dX7_run_58 : decode cX7_run 58 = .ok (.invokevirtual 130, 3) := by decide +kernel
theorem dX7_run_61 : decode cX7_run 61 = .ok (.invokevirtual 133, 3) := by decide +kernel
theorem dX7_run_64 : decode cX7_run 64 = .ok (.iinc 4 1, 3) := by decide +kernel
theorem dX7_run_67 : decode cX7_run 67 = .ok (.goto (-35), 3) := by decide +kernel
theorem dX7_run_70 : decode cX7_run 70 = .ok (.aload_n 0, 1) := by decide +kernel
theorem dX7_run_71 : decode cX7_run 71 = .ok (.getfield 35, 3) := by decide +kernel
theorem dX7_run_74 : decode cX7_run 74 = .ok (.invokevirtual 137, 3) := by decide +kernel
theorem dX7_run_77 : decode cX7_run 77 = .ok (.ireturn, 1) := by decide +kernel
theorem dX7_told_0 : decode cX7_told 0 = .ok (.iload_n 1, 1) := by decide +kernel
theorem dX7_told_1 : decode cX7_told 1 = .ok (.tableswitch 132 0 8 #[51, 59, 70, 78, 86, 94, 105, 116, 124], 51) := by decide +kernel
theorem dX7_told_52 : decode cX7_told 52 = .ok (.aload_n 0, 1) := by decide +kernel
theorem dX7_told_53 : decode cX7_told 53 = .ok (.getfield 35, 3) := by decide +kernel
theorem dX7_told_56 : decode cX7_told 56 = .ok (.getfield 140, 3) := by decide +kernel
theorem dX7_told_59 : decode cX7_told 59 = .ok (.ireturn, 1) := by decide +kernel
theorem dX7_told_60 : decode cX7_told 60 = .ok (.aload_n 0, 1) := by decide +kernel
theorem dX7_told_61 : decode cX7_told 61 = .ok (.getfield 35, 3) := by decide +kernel
theorem dX7_told_64 : decode cX7_told 64 = .ok (.getfield 143, 3) := by decide +kernel
theorem dX7_told_67 : decode cX7_told 67 = .ok (.invokestatic 64, 3) := by decide +kernel
theorem dX7_told_70 : decode cX7_told 70 = .ok (.ireturn, 1) := by decide +kernel
theorem dX7_told_71 : decode cX7_told 71 = .ok (.aload_n 0, 1) := by decide +kernel
theorem dX7_told_72 : decode cX7_told 72 = .ok (.getfield 35, 3) := by decide +kernel
theorem dX7_told_75 : decode cX7_told 75 = .ok (.getfield 146, 3) := by decide +kernel
theorem dX7_told_78 : decode cX7_told 78 = .ok (.ireturn, 1) := by decide +kernel
theorem dX7_told_79 : decode cX7_told 79 = .ok (.aload_n 0, 1) := by decide +kernel
theorem dX7_told_80 : decode cX7_told 80 = .ok (.getfield 35, 3) := by decide +kernel
theorem dX7_told_83 : decode cX7_told 83 = .ok (.getfield 149, 3) := by decide +kernel
theorem dX7_told_86 : decode cX7_told 86 = .ok (.ireturn, 1) := by decide +kernel
theorem dX7_told_87 : decode cX7_told 87 = .ok (.aload_n 0, 1) := by decide +kernel
theorem dX7_told_88 : decode cX7_told 88 = .ok (.getfield 35, 3) := by decide +kernel
theorem dX7_told_91 : decode cX7_told 91 = .ok (.getfield 152, 3) := by decide +kernel
theorem dX7_told_94 : decode cX7_told 94 = .ok (.ireturn, 1) := by decide +kernel
theorem dX7_told_95 : decode cX7_told 95 = .ok (.aload_n 0, 1) := by decide +kernel
theorem dX7_told_96 : decode cX7_told 96 = .ok (.getfield 35, 3) := by decide +kernel
theorem dX7_told_99 : decode cX7_told 99 = .ok (.getfield 155, 3) := by decide +kernel
theorem dX7_told_102 : decode cX7_told 102 = .ok (.getfield 159, 3) := by decide +kernel
theorem dX7_told_105 : decode cX7_told 105 = .ok (.ireturn, 1) := by decide +kernel
theorem dX7_told_106 : decode cX7_told 106 = .ok (.aload_n 0, 1) := by decide +kernel
theorem dX7_told_107 : decode cX7_told 107 = .ok (.getfield 35, 3) := by decide +kernel
theorem dX7_told_110 : decode cX7_told 110 = .ok (.getfield 164, 3) := by decide +kernel
theorem dX7_told_113 : decode cX7_told 113 = .ok (.getfield 168, 3) := by decide +kernel
theorem dX7_told_116 : decode cX7_told 116 = .ok (.ireturn, 1) := by decide +kernel
theorem dX7_told_117 : decode cX7_told 117 = .ok (.aload_n 0, 1) := by decide +kernel
theorem dX7_told_118 : decode cX7_told 118 = .ok (.getfield 26, 3) := by decide +kernel
theorem dX7_told_121 : decode cX7_told 121 = .ok (.getfield 173, 3) := by decide +kernel
theorem dX7_told_124 : decode cX7_told 124 = .ok (.ireturn, 1) := by decide +kernel
theorem dX7_told_125 : decode cX7_told 125 = .ok (.aload_n 0, 1) := by decide +kernel
theorem dX7_told_126 : decode cX7_told 126 = .ok (.getfield 19, 3) := by decide +kernel
theorem dX7_told_129 : decode cX7_told 129 = .ok (.getfield 174, 3) := by decide +kernel
theorem dX7_told_132 : decode cX7_told 132 = .ok (.ireturn, 1) := by decide +kernel
theorem dX7_told_133 : decode cX7_told 133 = .ok (.bipush (-2), 2) := by decide +kernel
theorem dX7_told_135 : decode cX7_told 135 = .ok (.ireturn, 1) := by decide +kernel
theorem dX7_printed_0 : decode cX7_printed 0 = .ok (.aload_n 0, 1) := by decide +kernel
theorem dX7_printed_1 : decode cX7_printed 1 = .ok (.getfield 35, 3) := by decide +kernel
theorem dX7_printed_4 : decode cX7_printed 4 = .ok (.getfield 155, 3) := by decide +kernel
theorem dX7_printed_7 : decode cX7_printed 7 = .ok (.iload_n 1, 1) := by decide +kernel
theorem dX7_printed_8 : decode cX7_printed 8 = .ok (.invokevirtual 177, 3) := by decide +kernel
theorem dX7_printed_11 : decode cX7_printed 11 = .ok (.istore_n 2, 1) := by decide +kernel
theorem dX7_printed_12 : decode cX7_printed 12 = .ok (.iload_n 2, 1) := by decide +kernel
theorem dX7_printed_13 : decode cX7_printed 13 = .ok (.ifCond .ge 13, 3) := by decide +kernel
theorem dX7_printed_16 : decode cX7_printed 16 = .ok (.new 180, 3) := by decide +kernel
theorem dX7_printed_19 : decode cX7_printed 19 = .ok (.dup, 1) := by decide +kernel
theorem dX7_printed_20 : decode cX7_printed 20 = .ok (.ldc 182, 2) := by decide +kernel
theorem dX7_printed_22 : decode cX7_printed 22 = .ok (.invokespecial 184, 3) := by decide +kernel
theorem dX7_printed_25 : decode cX7_printed 25 = .ok (.athrow, 1) := by decide +kernel
theorem dX7_printed_26 : decode cX7_printed 26 = .ok (.iload_n 2, 1) := by decide +kernel
theorem dX7_printed_27 : decode cX7_printed 27 = .ok (.ireturn, 1) := by decide +kernel
theorem dX7_left_0 : decode cX7_left 0 = .ok (.iload_n 1, 1) := by decide +kernel
theorem dX7_left_1 : decode cX7_left 1 = .ok (.bipush 7, 2) := by decide +kernel
theorem dX7_left_3 : decode cX7_left 3 = .ok (.invokestatic 82, 3) := by decide +kernel
theorem dX7_left_6 : decode cX7_left 6 = .ok (.ifCond .eq 15, 3) := by decide +kernel
theorem dX7_left_9 : decode cX7_left 9 = .ok (.aload_n 0, 1) := by decide +kernel
theorem dX7_left_10 : decode cX7_left 10 = .ok (.getfield 35, 3) := by decide +kernel
theorem dX7_left_13 : decode cX7_left 13 = .ok (.getfield 185, 3) := by decide +kernel
theorem dX7_left_16 : decode cX7_left 16 = .ok (.iload_n 1, 1) := by decide +kernel
theorem dX7_left_17 : decode cX7_left 17 = .ok (.iaload, 1) := by decide +kernel
theorem dX7_left_18 : decode cX7_left 18 = .ok (.goto 4, 3) := by decide +kernel
theorem dX7_left_21 : decode cX7_left 21 = .ok (.iconst (-1), 1) := by decide +kernel
theorem dX7_left_22 : decode cX7_left 22 = .ok (.ireturn, 1) := by decide +kernel
theorem dX7_isWithin_0 : decode cX7_isWithin 0 = .ok (.iload_n 0, 1) := by decide +kernel
theorem dX7_isWithin_1 : decode cX7_isWithin 1 = .ok (.ifCond .lt 12, 3) := by decide +kernel
theorem dX7_isWithin_4 : decode cX7_isWithin 4 = .ok (.iload_n 0, 1) := by decide +kernel
theorem dX7_isWithin_5 : decode cX7_isWithin 5 = .ok (.iload_n 1, 1) := by decide +kernel
theorem dX7_isWithin_6 : decode cX7_isWithin 6 = .ok (.if_icmp .gt 7, 3) := by decide +kernel
theorem dX7_isWithin_9 : decode cX7_isWithin 9 = .ok (.iconst 1, 1) := by decide +kernel
theorem dX7_isWithin_10 : decode cX7_isWithin 10 = .ok (.goto 4, 3) := by decide +kernel
theorem dX7_isWithin_13 : decode cX7_isWithin 13 = .ok (.iconst 0, 1) := by decide +kernel
theorem dX7_isWithin_14 : decode cX7_isWithin 14 = .ok (.ireturn, 1) := by decide +kernel
theorem dX7_isOperand_0 : decode cX7_isOperand 0 = .ok (.iload_n 0, 1) := by decide +kernel
theorem dX7_isOperand_1 : decode cX7_isOperand 1 = .ok (.sipush (-256), 3) := by decide +kernel
theorem dX7_isOperand_4 : decode cX7_isOperand 4 = .ok (.if_icmp .lt 13, 3) := by decide +kernel
theorem dX7_isOperand_7 : decode cX7_isOperand 7 = .ok (.iload_n 0, 1) := by decide +kernel
theorem dX7_isOperand_8 : decode cX7_isOperand 8 = .ok (.ldc 93, 2) := by decide +kernel
theorem dX7_isOperand_10 : decode cX7_isOperand 10 = .ok (.if_icmp .gt 7, 3) := by decide +kernel
theorem dX7_isOperand_13 : decode cX7_isOperand 13 = .ok (.iconst 1, 1) := by decide +kernel
theorem dX7_isOperand_14 : decode cX7_isOperand 14 = .ok (.goto 4, 3) := by decide +kernel
theorem dX7_isOperand_17 : decode cX7_isOperand 17 = .ok (.iconst 0, 1) := by decide +kernel
theorem dX7_isOperand_18 : decode cX7_isOperand 18 = .ok (.ireturn, 1) := by decide +kernel
theorem dX7_word_0 : decode cX7_word 0 = .ok (.iload_n 0, 1) := by decide +kernel
theorem dX7_word_1 : decode cX7_word 1 = .ok (.ldc 93, 2) := by decide +kernel
theorem dX7_word_3 : decode cX7_word 3 = .ok (.iand, 1) := by decide +kernel
theorem dX7_word_4 : decode cX7_word 4 = .ok (.ireturn, 1) := by decide +kernel
theorem dX7_number_0 : decode cX7_number 0 = .ok (.iload_n 0, 1) := by decide +kernel
theorem dX7_number_1 : decode cX7_number 1 = .ok (.i2s, 1) := by decide +kernel
theorem dX7_number_2 : decode cX7_number 2 = .ok (.ireturn, 1) := by decide +kernel
theorem dX7_arithmetic_0 : decode cX7_arithmetic 0 = .ok (.iload_n 0, 1) := by decide +kernel
theorem dX7_arithmetic_1 : decode cX7_arithmetic 1 = .ok (.tableswitch 144 0 9 #[55, 62, 69, 76, 92, 108, 115, 122, 129, 135], 55) := by decide +kernel
theorem dX7_arithmetic_56 : decode cX7_arithmetic 56 = .ok (.iload_n 1, 1) := by decide +kernel
theorem dX7_arithmetic_57 : decode cX7_arithmetic 57 = .ok (.iload_n 2, 1) := by decide +kernel
theorem dX7_arithmetic_58 : decode cX7_arithmetic 58 = .ok (.iadd, 1) := by decide +kernel
theorem dX7_arithmetic_59 : decode cX7_arithmetic 59 = .ok (.invokestatic 76, 3) := by decide +kernel
theorem dX7_arithmetic_62 : decode cX7_arithmetic 62 = .ok (.ireturn, 1) := by decide +kernel
theorem dX7_arithmetic_63 : decode cX7_arithmetic 63 = .ok (.iload_n 1, 1) := by decide +kernel
theorem dX7_arithmetic_64 : decode cX7_arithmetic 64 = .ok (.iload_n 2, 1) := by decide +kernel
theorem dX7_arithmetic_65 : decode cX7_arithmetic 65 = .ok (.isub, 1) := by decide +kernel
theorem dX7_arithmetic_66 : decode cX7_arithmetic 66 = .ok (.invokestatic 76, 3) := by decide +kernel
theorem dX7_arithmetic_69 : decode cX7_arithmetic 69 = .ok (.ireturn, 1) := by decide +kernel
theorem dX7_arithmetic_70 : decode cX7_arithmetic 70 = .ok (.iload_n 1, 1) := by decide +kernel
theorem dX7_arithmetic_71 : decode cX7_arithmetic 71 = .ok (.iload_n 2, 1) := by decide +kernel
theorem dX7_arithmetic_72 : decode cX7_arithmetic 72 = .ok (.imul, 1) := by decide +kernel
theorem dX7_arithmetic_73 : decode cX7_arithmetic 73 = .ok (.invokestatic 76, 3) := by decide +kernel
theorem dX7_arithmetic_76 : decode cX7_arithmetic 76 = .ok (.ireturn, 1) := by decide +kernel
theorem dX7_arithmetic_77 : decode cX7_arithmetic 77 = .ok (.iload_n 2, 1) := by decide +kernel
theorem dX7_arithmetic_78 : decode cX7_arithmetic 78 = .ok (.ifCond .ne 8, 3) := by decide +kernel
theorem dX7_arithmetic_81 : decode cX7_arithmetic 81 = .ok (.bipush (-11), 2) := by decide +kernel
theorem dX7_arithmetic_83 : decode cX7_arithmetic 83 = .ok (.goto 9, 3) := by decide +kernel
theorem dX7_arithmetic_86 : decode cX7_arithmetic 86 = .ok (.iload_n 1, 1) := by decide +kernel
theorem dX7_arithmetic_87 : decode cX7_arithmetic 87 = .ok (.iload_n 2, 1) := by decide +kernel
theorem dX7_arithmetic_88 : decode cX7_arithmetic 88 = .ok (.idiv, 1) := by decide +kernel
theorem dX7_arithmetic_89 : decode cX7_arithmetic 89 = .ok (.invokestatic 76, 3) := by decide +kernel
theorem dX7_arithmetic_92 : decode cX7_arithmetic 92 = .ok (.ireturn, 1) := by decide +kernel
theorem dX7_arithmetic_93 : decode cX7_arithmetic 93 = .ok (.iload_n 2, 1) := by decide +kernel
theorem dX7_arithmetic_94 : decode cX7_arithmetic 94 = .ok (.ifCond .ne 8, 3) := by decide +kernel
theorem dX7_arithmetic_97 : decode cX7_arithmetic 97 = .ok (.bipush (-11), 2) := by decide +kernel
theorem dX7_arithmetic_99 : decode cX7_arithmetic 99 = .ok (.goto 9, 3) := by decide +kernel
theorem dX7_arithmetic_102 : decode cX7_arithmetic 102 = .ok (.iload_n 1, 1) := by decide +kernel
theorem dX7_arithmetic_103 : decode cX7_arithmetic 103 = .ok (.iload_n 2, 1) := by decide +kernel
theorem dX7_arithmetic_104 : decode cX7_arithmetic 104 = .ok (.irem, 1) := by decide +kernel
theorem dX7_arithmetic_105 : decode cX7_arithmetic 105 = .ok (.invokestatic 76, 3) := by decide +kernel
theorem dX7_arithmetic_108 : decode cX7_arithmetic 108 = .ok (.ireturn, 1) := by decide +kernel
theorem dX7_arithmetic_109 : decode cX7_arithmetic 109 = .ok (.iload_n 1, 1) := by decide +kernel
theorem dX7_arithmetic_110 : decode cX7_arithmetic 110 = .ok (.iload_n 2, 1) := by decide +kernel
theorem dX7_arithmetic_111 : decode cX7_arithmetic 111 = .ok (.iand, 1) := by decide +kernel
theorem dX7_arithmetic_112 : decode cX7_arithmetic 112 = .ok (.invokestatic 76, 3) := by decide +kernel
theorem dX7_arithmetic_115 : decode cX7_arithmetic 115 = .ok (.ireturn, 1) := by decide +kernel
theorem dX7_arithmetic_116 : decode cX7_arithmetic 116 = .ok (.iload_n 1, 1) := by decide +kernel
theorem dX7_arithmetic_117 : decode cX7_arithmetic 117 = .ok (.iload_n 2, 1) := by decide +kernel
theorem dX7_arithmetic_118 : decode cX7_arithmetic 118 = .ok (.ior, 1) := by decide +kernel
theorem dX7_arithmetic_119 : decode cX7_arithmetic 119 = .ok (.invokestatic 76, 3) := by decide +kernel
theorem dX7_arithmetic_122 : decode cX7_arithmetic 122 = .ok (.ireturn, 1) := by decide +kernel
theorem dX7_arithmetic_123 : decode cX7_arithmetic 123 = .ok (.iload_n 1, 1) := by decide +kernel
theorem dX7_arithmetic_124 : decode cX7_arithmetic 124 = .ok (.iconst (-1), 1) := by decide +kernel
theorem dX7_arithmetic_125 : decode cX7_arithmetic 125 = .ok (.ixor, 1) := by decide +kernel
theorem dX7_arithmetic_126 : decode cX7_arithmetic 126 = .ok (.invokestatic 76, 3) := by decide +kernel
theorem dX7_arithmetic_129 : decode cX7_arithmetic 129 = .ok (.ireturn, 1) := by decide +kernel
theorem dX7_arithmetic_130 : decode cX7_arithmetic 130 = .ok (.iload_n 1, 1) := by decide +kernel
theorem dX7_arithmetic_131 : decode cX7_arithmetic 131 = .ok (.iload_n 2, 1) := by decide +kernel
theorem dX7_arithmetic_132 : decode cX7_arithmetic 132 = .ok (.invokestatic 189, 3) := by decide +kernel
theorem dX7_arithmetic_135 : decode cX7_arithmetic 135 = .ok (.ireturn, 1) := by decide +kernel
theorem dX7_arithmetic_136 : decode cX7_arithmetic 136 = .ok (.iload_n 1, 1) := by decide +kernel
theorem dX7_arithmetic_137 : decode cX7_arithmetic 137 = .ok (.invokestatic 76, 3) := by decide +kernel
theorem dX7_arithmetic_140 : decode cX7_arithmetic 140 = .ok (.iload_n 2, 1) := by decide +kernel
theorem dX7_arithmetic_141 : decode cX7_arithmetic 141 = .ok (.invokestatic 193, 3) := by decide +kernel
theorem dX7_arithmetic_144 : decode cX7_arithmetic 144 = .ok (.ireturn, 1) := by decide +kernel
theorem dX7_arithmetic_145 : decode cX7_arithmetic 145 = .ok (.bipush (-20), 2) := by decide +kernel
theorem dX7_arithmetic_147 : decode cX7_arithmetic 147 = .ok (.ireturn, 1) := by decide +kernel
theorem dX7_shiftNumber_0 : decode cX7_shiftNumber 0 = .ok (.iload_n 1, 1) := by decide +kernel
theorem dX7_shiftNumber_1 : decode cX7_shiftNumber 1 = .ok (.ifCond .le 14, 3) := by decide +kernel
theorem dX7_shiftNumber_4 : decode cX7_shiftNumber 4 = .ok (.iload_n 0, 1) := by decide +kernel
theorem dX7_shiftNumber_5 : decode cX7_shiftNumber 5 = .ok (.iload_n 1, 1) := by decide +kernel
theorem dX7_shiftNumber_6 : decode cX7_shiftNumber 6 = .ok (.bipush 15, 2) := by decide +kernel
theorem dX7_shiftNumber_8 : decode cX7_shiftNumber 8 = .ok (.invokestatic 196, 3) := by decide +kernel
theorem dX7_shiftNumber_11 : decode cX7_shiftNumber 11 = .ok (.ishl, 1) := by decide +kernel
theorem dX7_shiftNumber_12 : decode cX7_shiftNumber 12 = .ok (.goto 12, 3) := by decide +kernel
theorem dX7_shiftNumber_15 : decode cX7_shiftNumber 15 = .ok (.iload_n 0, 1) := by decide +kernel
theorem dX7_shiftNumber_16 : decode cX7_shiftNumber 16 = .ok (.iload_n 1, 1) := by decide +kernel
theorem dX7_shiftNumber_17 : decode cX7_shiftNumber 17 = .ok (.ineg, 1) := by decide +kernel
theorem dX7_shiftNumber_18 : decode cX7_shiftNumber 18 = .ok (.bipush 15, 2) := by decide +kernel
theorem dX7_shiftNumber_20 : decode cX7_shiftNumber 20 = .ok (.invokestatic 196, 3) := by decide +kernel
theorem dX7_shiftNumber_23 : decode cX7_shiftNumber 23 = .ok (.ishr, 1) := by decide +kernel
theorem dX7_shiftNumber_24 : decode cX7_shiftNumber 24 = .ok (.invokestatic 76, 3) := by decide +kernel
theorem dX7_shiftNumber_27 : decode cX7_shiftNumber 27 = .ok (.ireturn, 1) := by decide +kernel
theorem dX7_shiftBits_0 : decode cX7_shiftBits 0 = .ok (.iload_n 1, 1) := by decide +kernel
theorem dX7_shiftBits_1 : decode cX7_shiftBits 1 = .ok (.bipush 15, 2) := by decide +kernel
theorem dX7_shiftBits_3 : decode cX7_shiftBits 3 = .ok (.if_icmp .gt 9, 3) := by decide +kernel
theorem dX7_shiftBits_6 : decode cX7_shiftBits 6 = .ok (.iload_n 1, 1) := by decide +kernel
theorem dX7_shiftBits_7 : decode cX7_shiftBits 7 = .ok (.bipush (-15), 2) := by decide +kernel
theorem dX7_shiftBits_9 : decode cX7_shiftBits 9 = .ok (.if_icmp .ge 5, 3) := by decide +kernel
theorem dX7_shiftBits_12 : decode cX7_shiftBits 12 = .ok (.iconst 0, 1) := by decide +kernel
theorem dX7_shiftBits_13 : decode cX7_shiftBits 13 = .ok (.ireturn, 1) := by decide +kernel
theorem dX7_shiftBits_14 : decode cX7_shiftBits 14 = .ok (.iload_n 1, 1) := by decide +kernel
theorem dX7_shiftBits_15 : decode cX7_shiftBits 15 = .ok (.ifCond .le 12, 3) := by decide +kernel
theorem dX7_shiftBits_18 : decode cX7_shiftBits 18 = .ok (.iload_n 0, 1) := by decide +kernel
theorem dX7_shiftBits_19 : decode cX7_shiftBits 19 = .ok (.iload_n 1, 1) := by decide +kernel
theorem dX7_shiftBits_20 : decode cX7_shiftBits 20 = .ok (.ishl, 1) := by decide +kernel
theorem dX7_shiftBits_21 : decode cX7_shiftBits 21 = .ok (.invokestatic 76, 3) := by decide +kernel
theorem dX7_shiftBits_24 : decode cX7_shiftBits 24 = .ok (.goto 7, 3) := by decide +kernel
theorem dX7_shiftBits_27 : decode cX7_shiftBits 27 = .ok (.iload_n 0, 1) := by decide +kernel
theorem dX7_shiftBits_28 : decode cX7_shiftBits 28 = .ok (.iload_n 1, 1) := by decide +kernel
theorem dX7_shiftBits_29 : decode cX7_shiftBits 29 = .ok (.ineg, 1) := by decide +kernel
theorem dX7_shiftBits_30 : decode cX7_shiftBits 30 = .ok (.iushr, 1) := by decide +kernel
theorem dX7_shiftBits_31 : decode cX7_shiftBits 31 = .ok (.ireturn, 1) := by decide +kernel
theorem dX8_init_0 : decode cX8_init 0 = .ok (.aload_n 0, 1) := by decide +kernel
theorem dX8_init_1 : decode cX8_init 1 = .ok (.invokespecial 1, 3) := by decide +kernel
theorem dX8_init_4 : decode cX8_init 4 = .ok (.aload_n 0, 1) := by decide +kernel
theorem dX8_init_5 : decode cX8_init 5 = .ok (.sipush 2000, 3) := by decide +kernel
theorem dX8_init_8 : decode cX8_init 8 = .ok (.newarray .int, 2) := by decide +kernel
theorem dX8_init_10 : decode cX8_init 10 = .ok (.putfield 7, 3) := by decide +kernel
theorem dX8_init_13 : decode cX8_init 13 = .ok (.aload_n 0, 1) := by decide +kernel
theorem dX8_init_14 : decode cX8_init 14 = .ok (.sipush 130, 3) := by decide +kernel
theorem dX8_init_17 : decode cX8_init 17 = .ok (.putfield 13, 3) := by decide +kernel
theorem dX8_init_20 : decode cX8_init 20 = .ok (.aload_n 0, 1) := by decide +kernel
theorem dX8_init_21 : decode cX8_init 21 = .ok (.iconst 1, 1) := by decide +kernel
theorem dX8_init_22 : decode cX8_init 22 = .ok (.putfield 17, 3) := by decide +kernel
theorem dX8_init_25 : decode cX8_init 25 = .ok (.aload_n 0, 1) := by decide +kernel
theorem dX8_init_26 : decode cX8_init 26 = .ok (.bipush 50, 2) := by decide +kernel
theorem dX8_init_28 : decode cX8_init 28 = .ok (.newarray .int, 2) := by decide +kernel
theorem dX8_init_30 : decode cX8_init 30 = .ok (.putfield 20, 3) := by decide +kernel
theorem dX8_init_33 : decode cX8_init 33 = .ok (.aload_n 0, 1) := by decide +kernel
theorem dX8_init_34 : decode cX8_init 34 = .ok (.sipush 2000, 3) := by decide +kernel
theorem dX8_init_37 : decode cX8_init 37 = .ok (.newarray .int, 2) := by decide +kernel
theorem dX8_init_39 : decode cX8_init 39 = .ok (.putfield 23, 3) := by decide +kernel
theorem dX8_init_42 : decode cX8_init 42 = .ok (.aload_n 0, 1) := by decide +kernel
theorem dX8_init_43 : decode cX8_init 43 = .ok (.bipush 100, 2) := by decide +kernel
theorem dX8_init_45 : decode cX8_init 45 = .ok (.newarray .int, 2) := by decide +kernel
theorem dX8_init_47 : decode cX8_init 47 = .ok (.putfield 26, 3) := by decide +kernel
theorem dX8_init_50 : decode cX8_init 50 = .ok (.aload_n 0, 1) := by decide +kernel
theorem dX8_init_51 : decode cX8_init 51 = .ok (.sipush 300, 3) := by decide +kernel
theorem dX8_init_54 : decode cX8_init 54 = .ok (.newarray .int, 2) := by decide +kernel
theorem dX8_init_56 : decode cX8_init 56 = .ok (.putfield 29, 3) := by decide +kernel
theorem dX8_init_59 : decode cX8_init 59 = .ok (.aload_n 0, 1) := by decide +kernel
theorem dX8_init_60 : decode cX8_init 60 = .ok (.bipush 100, 2) := by decide +kernel
theorem dX8_init_62 : decode cX8_init 62 = .ok (.newarray .int, 2) := by decide +kernel
theorem dX8_init_64 : decode cX8_init 64 = .ok (.putfield 32, 3) := by decide +kernel
theorem dX8_init_67 : decode cX8_init 67 = .ok (.aload_n 0, 1) := by decide +kernel
theorem dX8_init_68 : decode cX8_init 68 = .ok (.bipush 8, 2) := by decide +kernel
theorem dX8_init_70 : decode cX8_init 70 = .ok (.newarray .boolean, 2) := by decide +kernel
theorem dX8_init_72 : decode cX8_init 72 = .ok (.putfield 35, 3) := by decide +kernel
theorem dX8_init_75 : decode cX8_init 75 = .ok (.aload_n 0, 1) := by decide +kernel
theorem dX8_init_76 : decode cX8_init 76 = .ok (.bipush 8, 2) := by decide +kernel
theorem dX8_init_78 : decode cX8_init 78 = .ok (.newarray .int, 2) := by decide +kernel
theorem dX8_init_80 : decode cX8_init 80 = .ok (.putfield 39, 3) := by decide +kernel
theorem dX8_init_83 : decode cX8_init 83 = .ok (.aload_n 0, 1) := by decide +kernel
theorem dX8_init_84 : decode cX8_init 84 = .ok (.bipush 8, 2) := by decide +kernel
theorem dX8_init_86 : decode cX8_init 86 = .ok (.newarray .int, 2) := by decide +kernel
theorem dX8_init_88 : decode cX8_init 88 = .ok (.putfield 42, 3) := by decide +kernel
theorem dX8_init_91 : decode cX8_init 91 = .ok (.aload_n 0, 1) := by decide +kernel
theorem dX8_init_92 : decode cX8_init 92 = .ok (.bipush 8, 2) := by decide +kernel
theorem dX8_init_94 : decode cX8_init 94 = .ok (.newarray .boolean, 2) := by decide +kernel
theorem dX8_init_96 : decode cX8_init 96 = .ok (.putfield 45, 3) := by decide +kernel
theorem dX8_init_99 : decode cX8_init 99 = .ok (.aload_n 0, 1) := by decide +kernel
theorem dX8_init_100 : decode cX8_init 100 = .ok (.bipush 12, 2) := by decide +kernel
theorem dX8_init_102 : decode cX8_init 102 = .ok (.newarray .int, 2) := by decide +kernel
theorem dX8_init_104 : decode cX8_init 104 = .ok (.putfield 48, 3) := by decide +kernel
theorem dX8_init_107 : decode cX8_init 107 = .ok (.aload_n 0, 1) := by decide +kernel
theorem dX8_init_108 : decode cX8_init 108 = .ok (.bipush 12, 2) := by decide +kernel
theorem dX8_init_110 : decode cX8_init 110 = .ok (.newarray .int, 2) := by decide +kernel
theorem dX8_init_112 : decode cX8_init 112 = .ok (.putfield 51, 3) := by decide +kernel
theorem dX8_init_115 : decode cX8_init 115 = .ok (.aload_n 0, 1) := by decide +kernel
theorem dX8_init_116 : decode cX8_init 116 = .ok (.bipush 12, 2) := by decide +kernel
theorem dX8_init_118 : decode cX8_init 118 = .ok (.newarray .int, 2) := by decide +kernel
theorem dX8_init_120 : decode cX8_init 120 = .ok (.putfield 54, 3) := by decide +kernel
theorem dX8_init_123 : decode cX8_init 123 = .ok (.aload_n 0, 1) := by decide +kernel
theorem dX8_init_124 : decode cX8_init 124 = .ok (.bipush 12, 2) := by decide +kernel
theorem dX8_init_126 : decode cX8_init 126 = .ok (.newarray .int, 2) := by decide +kernel
theorem dX8_init_128 : decode cX8_init 128 = .ok (.putfield 57, 3) := by decide +kernel
theorem dX8_init_131 : decode cX8_init 131 = .ok (.aload_n 0, 1) := by decide +kernel
theorem dX8_init_132 : decode cX8_init 132 = .ok (.sipush 180, 3) := by decide +kernel
theorem dX8_init_135 : decode cX8_init 135 = .ok (.newarray .int, 2) := by decide +kernel
theorem dX8_init_137 : decode cX8_init 137 = .ok (.putfield 60, 3) := by decide +kernel
theorem dX8_init_140 : decode cX8_init 140 = .ok (.aload_n 0, 1) := by decide +kernel
theorem dX8_init_141 : decode cX8_init 141 = .ok (.bipush 100, 2) := by decide +kernel
theorem dX8_init_143 : decode cX8_init 143 = .ok (.newarray .int, 2) := by decide +kernel
theorem dX8_init_145 : decode cX8_init 145 = .ok (.putfield 63, 3) := by decide +kernel
theorem dX8_init_148 : decode cX8_init 148 = .ok (.aload_n 0, 1) := by decide +kernel
theorem dX8_init_149 : decode cX8_init 149 = .ok (.bipush 120, 2) := by decide +kernel
theorem dX8_init_151 : decode cX8_init 151 = .ok (.newarray .int, 2) := by decide +kernel
theorem dX8_init_153 : decode cX8_init 153 = .ok (.putfield 66, 3) := by decide +kernel
theorem dX8_init_156 : decode cX8_init 156 = .ok (.aload_n 0, 1) := by decide +kernel
theorem dX8_init_157 : decode cX8_init 157 = .ok (.bipush 8, 2) := by decide +kernel
theorem dX8_init_159 : decode cX8_init 159 = .ok (.newarray .int, 2) := by decide +kernel
theorem dX8_init_161 : decode cX8_init 161 = .ok (.putfield 69, 3) := by decide +kernel
theorem dX8_init_164 : decode cX8_init 164 = .ok (.return_, 1) := by decide +kernel
theorem dX8_signed_0 : decode cX8_signed 0 = .ok (.iload_n 0, 1) := by decide +kernel
theorem dX8_signed_1 : decode cX8_signed 1 = .ok (.ldc 75, 2) := by decide +kernel
theorem dX8_signed_3 : decode cX8_signed 3 = .ok (.iand, 1) := by decide +kernel
theorem dX8_signed_4 : decode cX8_signed 4 = .ok (.istore_n 1, 1) := by decide +kernel
theorem dX8_signed_5 : decode cX8_signed 5 = .ok (.iload_n 1, 1) := by decide +kernel
theorem dX8_signed_6 : decode cX8_signed 6 = .ok (.ldc 76, 2) := by decide +kernel
theorem dX8_signed_8 : decode cX8_signed 8 = .ok (.if_icmp .lt 10, 3) := by decide +kernel
theorem dX8_signed_11 : decode cX8_signed 11 = .ok (.iload_n 1, 1) := by decide +kernel
theorem dX8_signed_12 : decode cX8_signed 12 = .ok (.ldc 77, 2) := by decide +kernel
theorem dX8_signed_14 : decode cX8_signed 14 = .ok (.isub, 1) := by decide +kernel
theorem dX8_signed_15 : decode cX8_signed 15 = .ok (.goto 4, 3) := by decide +kernel
theorem dX8_signed_18 : decode cX8_signed 18 = .ok (.iload_n 1, 1) := by decide +kernel
theorem dX8_signed_19 : decode cX8_signed 19 = .ok (.ireturn, 1) := by decide +kernel
theorem dX8_isThere_0 : decode cX8_isThere 0 = .ok (.iload_n 1, 1) := by decide +kernel
theorem dX8_isThere_1 : decode cX8_isThere 1 = .ok (.ifCond .lt 17, 3) := by decide +kernel
theorem dX8_isThere_4 : decode cX8_isThere 4 = .ok (.iload_n 1, 1) := by decide +kernel
theorem dX8_isThere_5 : decode cX8_isThere 5 = .ok (.i2l, 1) := by decide +kernel
theorem dX8_isThere_6 : decode cX8_isThere 6 = .ok (.iload_n 2, 1) := by decide +kernel
theorem dX8_isThere_7 : decode cX8_isThere 7 = .ok (.i2l, 1) := by decide +kernel
theorem dX8_isThere_8 : decode cX8_isThere 8 = .ok (.ladd, 1) := by decide +kernel
theorem dX8_isThere_9 : decode cX8_isThere 9 = .ok (.aload_n 0, 1) := by decide +kernel
theorem dX8_isThere_10 : decode cX8_isThere 10 = .ok (.getfield 78, 3) := by decide +kernel
theorem dX8_isThere_13 : decode cX8_isThere 13 = .ok (.i2l, 1) := by decide +kernel
theorem dX8_isThere_14 : decode cX8_isThere 14 = .ok (.lcmp, 1) := by decide +kernel
theorem dX8_isThere_15 : decode cX8_isThere 15 = .ok (.ifCond .le 10, 3) := by decide +kernel
theorem dX8_isThere_18 : decode cX8_isThere 18 = .ok (.aload_n 0, 1) := by decide +kernel
theorem dX8_isThere_19 : decode cX8_isThere 19 = .ok (.iconst 2, 1) := by decide +kernel
theorem dX8_isThere_20 : decode cX8_isThere 20 = .ok (.putfield 81, 3) := by decide +kernel
theorem dX8_isThere_23 : decode cX8_isThere 23 = .ok (.iconst 0, 1) := by decide +kernel
theorem dX8_isThere_24 : decode cX8_isThere 24 = .ok (.ireturn, 1) := by decide +kernel
theorem dX8_isThere_25 : decode cX8_isThere 25 = .ok (.iconst 1, 1) := by decide +kernel
theorem dX8_isThere_26 : decode cX8_isThere 26 = .ok (.ireturn, 1) := by decide +kernel
theorem dX8_read_0 : decode cX8_read 0 = .ok (.aload_n 0, 1) := by decide +kernel
theorem dX8_read_1 : decode cX8_read 1 = .ok (.iload_n 1, 1) := by decide +kernel
theorem dX8_read_2 : decode cX8_read 2 = .ok (.iload_n 2, 1) := by decide +kernel
theorem dX8_read_3 : decode cX8_read 3 = .ok (.ifCond .eq 7, 3) := by decide +kernel
theorem dX8_read_6 : decode cX8_read 6 = .ok (.iconst 2, 1) := by decide +kernel
theorem dX8_read_7 : decode cX8_read 7 = .ok (.goto 4, 3) := by decide +kernel
theorem dX8_read_10 : decode cX8_read 10 = .ok (.iconst 1, 1) := by decide +kernel
theorem dX8_read_11 : decode cX8_read 11 = .ok (.invokevirtual 84, 3) := by decide +kernel
theorem dX8_read_14 : decode cX8_read 14 = .ok (.ifCond .ne 5, 3) := by decide +kernel
theorem dX8_read_17 : decode cX8_read 17 = .ok (.iconst 0, 1) := by decide +kernel
theorem dX8_read_18 : decode cX8_read 18 = .ok (.ireturn, 1) := by decide +kernel
theorem dX8_read_19 : decode cX8_read 19 = .ok (.iload_n 2, 1) := by decide +kernel
theorem dX8_read_20 : decode cX8_read 20 = .ok (.ifCond .eq 25, 3) := by decide +kernel
theorem dX8_read_23 : decode cX8_read 23 = .ok (.aload_n 0, 1) := by decide +kernel
theorem dX8_read_24 : decode cX8_read 24 = .ok (.getfield 7, 3) := by decide +kernel
theorem dX8_read_27 : decode cX8_read 27 = .ok (.iload_n 1, 1) := by decide +kernel
theorem dX8_read_28 : decode cX8_read 28 = .ok (.iaload, 1) := by decide +kernel
theorem dX8_read_29 : decode cX8_read 29 = .ok (.sipush 256, 3) := by decide +kernel
theorem dX8_read_32 : decode cX8_read 32 = .ok (.imul, 1) := by decide +kernel
theorem dX8_read_33 : decode cX8_read 33 = .ok (.aload_n 0, 1) := by decide +kernel
theorem dX8_read_34 : decode cX8_read 34 = .ok (.getfield 7, 3) := by decide +kernel
theorem dX8_read_37 : decode cX8_read 37 = .ok (.iload_n 1, 1) := by decide +kernel
theorem dX8_read_38 : decode cX8_read 38 = .ok (.iconst 1, 1) := by decide +kernel
theorem dX8_read_39 : decode cX8_read 39 = .ok (.iadd, 1) := by decide +kernel
theorem dX8_read_40 : decode cX8_read 40 = .ok (.iaload, 1) := by decide +kernel
theorem dX8_read_41 : decode cX8_read 41 = .ok (.iadd, 1) := by decide +kernel
theorem dX8_read_42 : decode cX8_read 42 = .ok (.goto 9, 3) := by decide +kernel
theorem dX8_read_45 : decode cX8_read 45 = .ok (.aload_n 0, 1) := by decide +kernel
theorem dX8_read_46 : decode cX8_read 46 = .ok (.getfield 7, 3) := by decide +kernel
theorem dX8_read_49 : decode cX8_read 49 = .ok (.iload_n 1, 1) := by decide +kernel
theorem dX8_read_50 : decode cX8_read 50 = .ok (.iaload, 1) := by decide +kernel
theorem dX8_read_51 : decode cX8_read 51 = .ok (.ireturn, 1) := by decide +kernel
theorem dX8_write_0 : decode cX8_write 0 = .ok (.aload_n 0, 1) := by decide +kernel
theorem dX8_write_1 : decode cX8_write 1 = .ok (.iload_n 1, 1) := by decide +kernel
theorem dX8_write_2 : decode cX8_write 2 = .ok (.iload_n 3, 1) := by decide +kernel
theorem dX8_write_3 : decode cX8_write 3 = .ok (.ifCond .eq 7, 3) := by decide +kernel
theorem dX8_write_6 : decode cX8_write 6 = .ok (.iconst 2, 1) := by decide +kernel
theorem dX8_write_7 : decode cX8_write 7 = .ok (.goto 4, 3) := by decide +kernel
theorem dX8_write_10 : decode cX8_write 10 = .ok (.iconst 1, 1) := by decide +kernel
theorem dX8_write_11 : decode cX8_write 11 = .ok (.invokevirtual 84, 3) := by decide +kernel
theorem dX8_write_14 : decode cX8_write 14 = .ok (.ifCond .ne 4, 3) := by decide +kernel
theorem dX8_write_17 : decode cX8_write 17 = .ok (.return_, 1) := by decide +kernel
theorem dX8_write_18 : decode cX8_write 18 = .ok (.iload 4, 2) := by decide +kernel
theorem dX8_write_20 : decode cX8_write 20 = .ok (.ifCond .ne 27, 3) := by decide +kernel
theorem dX8_write_23 : decode cX8_write 23 = .ok (.iload_n 1, 1) := by decide +kernel
theorem dX8_write_24 : decode cX8_write 24 = .ok (.iload_n 3, 1) := by decide +kernel
theorem dX8_write_25 : decode cX8_write 25 = .ok (.ifCond .eq 7, 3) := by decide +kernel
theorem dX8_write_28 : decode cX8_write 28 = .ok (.iconst 1, 1) := by decide +kernel
theorem dX8_write_29 : decode cX8_write 29 = .ok (.goto 4, 3) := by decide +kernel
theorem dX8_write_32 : decode cX8_write 32 = .ok (.iconst 0, 1) := by decide +kernel
theorem dX8_write_33 : decode cX8_write 33 = .ok (.iadd, 1) := by decide +kernel
theorem dX8_write_34 : decode cX8_write 34 = .ok (.aload_n 0, 1) := by decide +kernel
theorem dX8_write_35 : decode cX8_write 35 = .ok (.getfield 88, 3) := by decide +kernel
theorem dX8_write_38 : decode cX8_write 38 = .ok (.if_icmp .lt 9, 3) := by decide +kernel
theorem dX8_write_41 : decode cX8_write 41 = .ok (.aload_n 0, 1) := by decide +kernel
theorem dX8_write_42 : decode cX8_write 42 = .ok (.iconst 3, 1) := by decide +kernel
theorem dX8_write_43 : decode cX8_write 43 = .ok (.putfield 81, 3) := by decide +kernel
theorem dX8_write_46 : decode cX8_write 46 = .ok (.return_, 1) := by decide +kernel
theorem dX8_write_47 : decode cX8_write 47 = .ok (.iload_n 3, 1) := by decide +kernel
theorem dX8_write_48 : decode cX8_write 48 = .ok (.ifCond .eq 33, 3) := by decide +kernel
theorem dX8_write_51 : decode cX8_write 51 = .ok (.aload_n 0, 1) := by decide +kernel
theorem dX8_write_52 : decode cX8_write 52 = .ok (.getfield 7, 3) := by decide +kernel
theorem dX8_write_55 : decode cX8_write 55 = .ok (.iload_n 1, 1) := by decide +kernel
theorem dX8_write_56 : decode cX8_write 56 = .ok (.iload_n 2, 1) := by decide +kernel
theorem dX8_write_57 : decode cX8_write 57 = .ok (.bipush 8, 2) := by decide +kernel
theorem dX8_write_59 : decode cX8_write 59 = .ok (.ishr, 1) := by decide +kernel
theorem dX8_write_60 : decode cX8_write 60 = .ok (.sipush 255, 3) := by decide +kernel
theorem dX8_write_63 : decode cX8_write 63 = .ok (.iand, 1) := by decide +kernel
theorem dX8_write_64 : decode cX8_write 64 = .ok (.iastore, 1) := by decide +kernel
theorem dX8_write_65 : decode cX8_write 65 = .ok (.aload_n 0, 1) := by decide +kernel
theorem dX8_write_66 : decode cX8_write 66 = .ok (.getfield 7, 3) := by decide +kernel
theorem dX8_write_69 : decode cX8_write 69 = .ok (.iload_n 1, 1) := by decide +kernel
theorem dX8_write_70 : decode cX8_write 70 = .ok (.iconst 1, 1) := by decide +kernel
theorem dX8_write_71 : decode cX8_write 71 = .ok (.iadd, 1) := by decide +kernel
theorem dX8_write_72 : decode cX8_write 72 = .ok (.iload_n 2, 1) := by decide +kernel
theorem dX8_write_73 : decode cX8_write 73 = .ok (.sipush 255, 3) := by decide +kernel
theorem dX8_write_76 : decode cX8_write 76 = .ok (.iand, 1) := by decide +kernel
theorem dX8_write_77 : decode cX8_write 77 = .ok (.iastore, 1) := by decide +kernel
theorem dX8_write_78 : decode cX8_write 78 = .ok (.goto 14, 3) := by decide +kernel
theorem dX8_write_81 : decode cX8_write 81 = .ok (.aload_n 0, 1) := by decide +kernel
theorem dX8_write_82 : decode cX8_write 82 = .ok (.getfield 7, 3) := by decide +kernel
theorem dX8_write_85 : decode cX8_write 85 = .ok (.iload_n 1, 1) := by decide +kernel
theorem dX8_write_86 : decode cX8_write 86 = .ok (.iload_n 2, 1) := by decide +kernel
theorem dX8_write_87 : decode cX8_write 87 = .ok (.sipush 255, 3) := by decide +kernel
theorem dX8_write_90 : decode cX8_write 90 = .ok (.iand, 1) := by decide +kernel
theorem dX8_write_91 : decode cX8_write 91 = .ok (.iastore, 1) := by decide +kernel
theorem dX8_write_92 : decode cX8_write 92 = .ok (.return_, 1) := by decide +kernel
theorem dX8_size_0 : decode cX8_size 0 = .ok (.aload_n 0, 1) := by decide +kernel
theorem dX8_size_1 : decode cX8_size 1 = .ok (.iconst 0, 1) := by decide +kernel
theorem dX8_size_2 : decode cX8_size 2 = .ok (.putfield 72, 3) := by decide +kernel
theorem dX8_size_5 : decode cX8_size 5 = .ok (.iload_n 1, 1) := by decide +kernel
theorem dX8_size_6 : decode cX8_size 6 = .ok (.ifCond .lt 19, 3) := by decide +kernel
theorem dX8_size_9 : decode cX8_size 9 = .ok (.iload_n 1, 1) := by decide +kernel
theorem dX8_size_10 : decode cX8_size 10 = .ok (.sipush 2000, 3) := by decide +kernel
theorem dX8_size_13 : decode cX8_size 13 = .ok (.if_icmp .gt 12, 3) := by decide +kernel
theorem dX8_size_16 : decode cX8_size 16 = .ok (.iload_n 2, 1) := by decide +kernel
theorem dX8_size_17 : decode cX8_size 17 = .ok (.ifCond .lt 8, 3) := by decide +kernel
theorem dX8_size_20 : decode cX8_size 20 = .ok (.iload_n 2, 1) := by decide +kernel
theorem dX8_size_21 : decode cX8_size 21 = .ok (.iload_n 1, 1) := by decide +kernel
theorem dX8_size_22 : decode cX8_size 22 = .ok (.if_icmp .le 6, 3) := by decide +kernel
theorem dX8_size_25 : decode cX8_size 25 = .ok (.bipush (-2), 2) := by decide +kernel
theorem dX8_size_27 : decode cX8_size 27 = .ok (.ireturn, 1) := by decide +kernel
theorem dX8_size_28 : decode cX8_size 28 = .ok (.aload_n 0, 1) := by decide +kernel
theorem dX8_size_29 : decode cX8_size 29 = .ok (.iload_n 1, 1) := by decide +kernel
theorem dX8_size_30 : decode cX8_size 30 = .ok (.putfield 78, 3) := by decide +kernel
theorem dX8_size_33 : decode cX8_size 33 = .ok (.aload_n 0, 1) := by decide +kernel
theorem dX8_size_34 : decode cX8_size 34 = .ok (.iload_n 2, 1) := by decide +kernel
theorem dX8_size_35 : decode cX8_size 35 = .ok (.putfield 88, 3) := by decide +kernel
theorem dX8_size_38 : decode cX8_size 38 = .ok (.iconst 0, 1) := by decide +kernel
theorem dX8_size_39 : decode cX8_size 39 = .ok (.istore_n 3, 1) := by decide +kernel
theorem dX8_size_40 : decode cX8_size 40 = .ok (.iload_n 3, 1) := by decide +kernel
theorem dX8_size_41 : decode cX8_size 41 = .ok (.sipush 2000, 3) := by decide +kernel
theorem dX8_size_44 : decode cX8_size 44 = .ok (.if_icmp .ge 16, 3) := by decide +kernel
theorem dX8_size_47 : decode cX8_size 47 = .ok (.aload_n 0, 1) := by decide +kernel
theorem dX8_size_48 : decode cX8_size 48 = .ok (.getfield 7, 3) := by decide +kernel
theorem dX8_size_51 : decode cX8_size 51 = .ok (.iload_n 3, 1) := by decide +kernel
theorem dX8_size_52 : decode cX8_size 52 = .ok (.iconst 0, 1) := by decide +kernel
theorem dX8_size_53 : decode cX8_size 53 = .ok (.iastore, 1) := by decide +kernel
theorem dX8_size_54 : decode cX8_size 54 = .ok (.iinc 3 1, 3) := by decide +kernel
theorem dX8_size_57 : decode cX8_size 57 = .ok (.goto (-17), 3) := by decide +kernel
theorem dX8_size_60 : decode cX8_size 60 = .ok (.iconst 1, 1) := by decide +kernel
theorem dX8_size_61 : decode cX8_size 61 = .ok (.ireturn, 1) := by decide +kernel
theorem dX8_get_0 : decode cX8_get 0 = .ok (.aload_n 0, 1) := by decide +kernel
theorem dX8_get_1 : decode cX8_get 1 = .ok (.iconst 0, 1) := by decide +kernel
theorem dX8_get_2 : decode cX8_get 2 = .ok (.putfield 72, 3) := by decide +kernel
theorem dX8_get_5 : decode cX8_get 5 = .ok (.aload_n 0, 1) := by decide +kernel
theorem dX8_get_6 : decode cX8_get 6 = .ok (.iconst 0, 1) := by decide +kernel
theorem dX8_get_7 : decode cX8_get 7 = .ok (.putfield 81, 3) := by decide +kernel
theorem dX8_get_10 : decode cX8_get 10 = .ok (.aload_n 0, 1) := by decide +kernel
theorem dX8_get_11 : decode cX8_get 11 = .ok (.iload_n 1, 1) := by decide +kernel
theorem dX8_get_12 : decode cX8_get 12 = .ok (.iload_n 2, 1) := by decide +kernel
theorem dX8_get_13 : decode cX8_get 13 = .ok (.invokevirtual 91, 3) := by decide +kernel
theorem dX8_get_16 : decode cX8_get 16 = .ok (.istore_n 3, 1) := by decide +kernel
theorem dX8_get_17 : decode cX8_get 17 = .ok (.aload_n 0, 1) := by decide +kernel
theorem dX8_get_18 : decode cX8_get 18 = .ok (.getfield 81, 3) := by decide +kernel
theorem dX8_get_21 : decode cX8_get 21 = .ok (.ifCond .ne 7, 3) := by decide +kernel
theorem dX8_get_24 : decode cX8_get 24 = .ok (.iload_n 3, 1) := by decide +kernel
theorem dX8_get_25 : decode cX8_get 25 = .ok (.goto 10, 3) := by decide +kernel
theorem dX8_get_28 : decode cX8_get 28 = .ok (.bipush (-10), 2) := by decide +kernel
theorem dX8_get_30 : decode cX8_get 30 = .ok (.aload_n 0, 1) := by decide +kernel
theorem dX8_get_31 : decode cX8_get 31 = .ok (.getfield 81, 3) := by decide +kernel
theorem dX8_get_34 : decode cX8_get 34 = .ok (.isub, 1) := by decide +kernel
theorem dX8_get_35 : decode cX8_get 35 = .ok (.ireturn, 1) := by decide +kernel
theorem dX8_put_0 : decode cX8_put 0 = .ok (.aload_n 0, 1) := by decide +kernel
theorem dX8_put_1 : decode cX8_put 1 = .ok (.iconst 0, 1) := by decide +kernel
theorem dX8_put_2 : decode cX8_put 2 = .ok (.putfield 72, 3) := by decide +kernel
theorem dX8_put_5 : decode cX8_put 5 = .ok (.aload_n 0, 1) := by decide +kernel
theorem dX8_put_6 : decode cX8_put 6 = .ok (.iconst 0, 1) := by decide +kernel
theorem dX8_put_7 : decode cX8_put 7 = .ok (.putfield 81, 3) := by decide +kernel
theorem dX8_put_10 : decode cX8_put 10 = .ok (.aload_n 0, 1) := by decide +kernel
theorem dX8_put_11 : decode cX8_put 11 = .ok (.iload_n 1, 1) := by decide +kernel
theorem dX8_put_12 : decode cX8_put 12 = .ok (.iload_n 2, 1) := by decide +kernel
theorem dX8_put_13 : decode cX8_put 13 = .ok (.iload_n 3, 1) := by decide +kernel
theorem dX8_put_14 : decode cX8_put 14 = .ok (.iload 4, 2) := by decide +kernel
theorem dX8_put_16 : decode cX8_put 16 = .ok (.invokevirtual 95, 3) := by decide +kernel
theorem dX8_put_19 : decode cX8_put 19 = .ok (.aload_n 0, 1) := by decide +kernel
theorem dX8_put_20 : decode cX8_put 20 = .ok (.getfield 81, 3) := by decide +kernel
theorem dX8_put_23 : decode cX8_put 23 = .ok (.ifCond .ne 7, 3) := by decide +kernel
theorem dX8_put_26 : decode cX8_put 26 = .ok (.iconst 1, 1) := by decide +kernel
theorem dX8_put_27 : decode cX8_put 27 = .ok (.goto 10, 3) := by decide +kernel
theorem dX8_put_30 : decode cX8_put 30 = .ok (.bipush (-10), 2) := by decide +kernel
theorem dX8_put_32 : decode cX8_put 32 = .ok (.aload_n 0, 1) := by decide +kernel
theorem dX8_put_33 : decode cX8_put 33 = .ok (.getfield 81, 3) := by decide +kernel
theorem dX8_put_36 : decode cX8_put 36 = .ok (.isub, 1) := by decide +kernel
theorem dX8_put_37 : decode cX8_put 37 = .ok (.ireturn, 1) := by decide +kernel
theorem dX8_worked_0 : decode cX8_worked 0 = .ok (.iload_n 1, 1) := by decide +kernel
theorem dX8_worked_1 : decode cX8_worked 1 = .ok (.tableswitch 113 0 7 #[47, 54, 61, 68, 68, 101, 105, 109], 47) := by decide +kernel
theorem dX8_worked_48 : decode cX8_worked 48 = .ok (.iload_n 2, 1) := by decide +kernel
theorem dX8_worked_49 : decode cX8_worked 49 = .ok (.iload_n 3, 1) := by decide +kernel
theorem dX8_worked_50 : decode cX8_worked 50 = .ok (.iadd, 1) := by decide +kernel
theorem dX8_worked_51 : decode cX8_worked 51 = .ok (.invokestatic 99, 3) := by decide +kernel
theorem dX8_worked_54 : decode cX8_worked 54 = .ok (.ireturn, 1) := by decide +kernel
theorem dX8_worked_55 : decode cX8_worked 55 = .ok (.iload_n 2, 1) := by decide +kernel
theorem dX8_worked_56 : decode cX8_worked 56 = .ok (.iload_n 3, 1) := by decide +kernel
theorem dX8_worked_57 : decode cX8_worked 57 = .ok (.isub, 1) := by decide +kernel
theorem dX8_worked_58 : decode cX8_worked 58 = .ok (.invokestatic 99, 3) := by decide +kernel
theorem dX8_worked_61 : decode cX8_worked 61 = .ok (.ireturn, 1) := by decide +kernel
theorem dX8_worked_62 : decode cX8_worked 62 = .ok (.iload_n 2, 1) := by decide +kernel
theorem dX8_worked_63 : decode cX8_worked 63 = .ok (.iload_n 3, 1) := by decide +kernel
theorem dX8_worked_64 : decode cX8_worked 64 = .ok (.imul, 1) := by decide +kernel
theorem dX8_worked_65 : decode cX8_worked 65 = .ok (.invokestatic 99, 3) := by decide +kernel
theorem dX8_worked_68 : decode cX8_worked 68 = .ok (.ireturn, 1) := by decide +kernel
theorem dX8_worked_69 : decode cX8_worked 69 = .ok (.iload_n 3, 1) := by decide +kernel
theorem dX8_worked_70 : decode cX8_worked 70 = .ok (.ifCond .ne 10, 3) := by decide +kernel
theorem dX8_worked_73 : decode cX8_worked 73 = .ok (.aload_n 0, 1) := by decide +kernel
theorem dX8_worked_74 : decode cX8_worked 74 = .ok (.iconst 1, 1) := by decide +kernel
theorem dX8_worked_75 : decode cX8_worked 75 = .ok (.putfield 81, 3) := by decide +kernel
theorem dX8_worked_78 : decode cX8_worked 78 = .ok (.iconst 0, 1) := by decide +kernel
theorem dX8_worked_79 : decode cX8_worked 79 = .ok (.ireturn, 1) := by decide +kernel
theorem dX8_worked_80 : decode cX8_worked 80 = .ok (.iload_n 1, 1) := by decide +kernel
theorem dX8_worked_81 : decode cX8_worked 81 = .ok (.iconst 3, 1) := by decide +kernel
theorem dX8_worked_82 : decode cX8_worked 82 = .ok (.if_icmp .ne 9, 3) := by decide +kernel
theorem dX8_worked_85 : decode cX8_worked 85 = .ok (.iload_n 2, 1) := by decide +kernel
theorem dX8_worked_86 : decode cX8_worked 86 = .ok (.iload_n 3, 1) := by decide +kernel
theorem dX8_worked_87 : decode cX8_worked 87 = .ok (.idiv, 1) := by decide +kernel
theorem dX8_worked_88 : decode cX8_worked 88 = .ok (.goto 10, 3) := by decide +kernel
theorem dX8_worked_91 : decode cX8_worked 91 = .ok (.iload_n 2, 1) := by decide +kernel
theorem dX8_worked_92 : decode cX8_worked 92 = .ok (.iload_n 2, 1) := by decide +kernel
theorem dX8_worked_93 : decode cX8_worked 93 = .ok (.iload_n 3, 1) := by decide +kernel
theorem dX8_worked_94 : decode cX8_worked 94 = .ok (.idiv, 1) := by decide +kernel
theorem dX8_worked_95 : decode cX8_worked 95 = .ok (.iload_n 3, 1) := by decide +kernel
theorem dX8_worked_96 : decode cX8_worked 96 = .ok (.imul, 1) := by decide +kernel
theorem dX8_worked_97 : decode cX8_worked 97 = .ok (.isub, 1) := by decide +kernel
theorem dX8_worked_98 : decode cX8_worked 98 = .ok (.invokestatic 99, 3) := by decide +kernel
theorem dX8_worked_101 : decode cX8_worked 101 = .ok (.ireturn, 1) := by decide +kernel
theorem dX8_worked_102 : decode cX8_worked 102 = .ok (.iload_n 2, 1) := by decide +kernel
theorem dX8_worked_103 : decode cX8_worked 103 = .ok (.iload_n 3, 1) := by decide +kernel
theorem dX8_worked_104 : decode cX8_worked 104 = .ok (.iand, 1) := by decide +kernel
theorem dX8_worked_105 : decode cX8_worked 105 = .ok (.ireturn, 1) := by decide +kernel
theorem dX8_worked_106 : decode cX8_worked 106 = .ok (.iload_n 2, 1) := by decide +kernel
theorem dX8_worked_107 : decode cX8_worked 107 = .ok (.iload_n 3, 1) := by decide +kernel
theorem dX8_worked_108 : decode cX8_worked 108 = .ok (.ior, 1) := by decide +kernel
theorem dX8_worked_109 : decode cX8_worked 109 = .ok (.ireturn, 1) := by decide +kernel
theorem dX8_worked_110 : decode cX8_worked 110 = .ok (.iconst (-1), 1) := by decide +kernel
theorem dX8_worked_111 : decode cX8_worked 111 = .ok (.iload_n 2, 1) := by decide +kernel
theorem dX8_worked_112 : decode cX8_worked 112 = .ok (.isub, 1) := by decide +kernel
theorem dX8_worked_113 : decode cX8_worked 113 = .ok (.ireturn, 1) := by decide +kernel
theorem dX8_worked_114 : decode cX8_worked 114 = .ok (.iload_n 1, 1) := by decide +kernel
theorem dX8_worked_115 : decode cX8_worked 115 = .ok (.bipush 8, 2) := by decide +kernel
theorem dX8_worked_117 : decode cX8_worked 117 = .ok (.if_icmp .ne 7, 3) := by decide +kernel
theorem dX8_worked_120 : decode cX8_worked 120 = .ok (.iconst 1, 1) := by decide +kernel
theorem dX8_worked_121 : decode cX8_worked 121 = .ok (.goto 4, 3) := by decide +kernel
theorem dX8_worked_124 : decode cX8_worked 124 = .ok (.iconst 0, 1) := by decide +kernel
theorem dX8_worked_125 : decode cX8_worked 125 = .ok (.iload_n 2, 1) := by decide +kernel
theorem dX8_worked_126 : decode cX8_worked 126 = .ok (.iload_n 3, 1) := by decide +kernel
theorem dX8_worked_127 : decode cX8_worked 127 = .ok (.invokestatic 103, 3) := by decide +kernel
theorem dX8_worked_130 : decode cX8_worked 130 = .ok (.ireturn, 1) := by decide +kernel
theorem dX8_shifted_0 : decode cX8_shifted 0 = .ok (.iload_n 2, 1) := by decide +kernel
theorem dX8_shifted_1 : decode cX8_shifted 1 = .ok (.ifCond .ge 8, 3) := by decide +kernel
theorem dX8_shifted_4 : decode cX8_shifted 4 = .ok (.iload_n 2, 1) := by decide +kernel
theorem dX8_shifted_5 : decode cX8_shifted 5 = .ok (.ineg, 1) := by decide +kernel
theorem dX8_shifted_6 : decode cX8_shifted 6 = .ok (.goto 4, 3) := by decide +kernel
theorem dX8_shifted_9 : decode cX8_shifted 9 = .ok (.iload_n 2, 1) := by decide +kernel
theorem dX8_shifted_10 : decode cX8_shifted 10 = .ok (.istore_n 3, 1) := by decide +kernel
theorem dX8_shifted_11 : decode cX8_shifted 11 = .ok (.iload_n 3, 1) := by decide +kernel
theorem dX8_shifted_12 : decode cX8_shifted 12 = .ok (.bipush 15, 2) := by decide +kernel
theorem dX8_shifted_14 : decode cX8_shifted 14 = .ok (.if_icmp .le 12, 3) := by decide +kernel
theorem dX8_shifted_17 : decode cX8_shifted 17 = .ok (.iload_n 0, 1) := by decide +kernel
theorem dX8_shifted_18 : decode cX8_shifted 18 = .ok (.ifCond .ne 5, 3) := by decide +kernel
theorem dX8_shifted_21 : decode cX8_shifted 21 = .ok (.iconst 0, 1) := by decide +kernel
theorem dX8_shifted_22 : decode cX8_shifted 22 = .ok (.ireturn, 1) := by decide +kernel
theorem dX8_shifted_23 : decode cX8_shifted 23 = .ok (.bipush 15, 2) := by decide +kernel
theorem dX8_shifted_25 : decode cX8_shifted 25 = .ok (.istore_n 3, 1) := by decide +kernel
theorem dX8_shifted_26 : decode cX8_shifted 26 = .ok (.iload_n 0, 1) := by decide +kernel
theorem dX8_shifted_27 : decode cX8_shifted 27 = .ok (.ifCond .eq 7, 3) := by decide +kernel
theorem dX8_shifted_30 : decode cX8_shifted 30 = .ok (.iload_n 1, 1) := by decide +kernel
theorem dX8_shifted_31 : decode cX8_shifted 31 = .ok (.goto 7, 3) := by decide +kernel
theorem dX8_shifted_34 : decode cX8_shifted 34 = .ok (.iload_n 1, 1) := by decide +kernel
theorem dX8_shifted_35 : decode cX8_shifted 35 = .ok (.ldc 75, 2) := by decide +kernel
theorem dX8_shifted_37 : decode cX8_shifted 37 = .ok (.iand, 1) := by decide +kernel
theorem dX8_shifted_38 : decode cX8_shifted 38 = .ok (.istore 4, 2) := by decide +kernel
theorem dX8_shifted_40 : decode cX8_shifted 40 = .ok (.iconst 0, 1) := by decide +kernel
theorem dX8_shifted_41 : decode cX8_shifted 41 = .ok (.istore 5, 2) := by decide +kernel
theorem dX8_shifted_43 : decode cX8_shifted 43 = .ok (.iload 5, 2) := by decide +kernel
theorem dX8_shifted_45 : decode cX8_shifted 45 = .ok (.iload_n 3, 1) := by decide +kernel
theorem dX8_shifted_46 : decode cX8_shifted 46 = .ok (.if_icmp .ge 26, 3) := by decide +kernel
theorem dX8_shifted_49 : decode cX8_shifted 49 = .ok (.iload_n 2, 1) := by decide +kernel
theorem dX8_shifted_50 : decode cX8_shifted 50 = .ok (.ifCond .le 10, 3) := by decide +kernel
theorem dX8_shifted_53 : decode cX8_shifted 53 = .ok (.iload 4, 2) := by decide +kernel
theorem dX8_shifted_55 : decode cX8_shifted 55 = .ok (.iconst 2, 1) := by decide +kernel
theorem dX8_shifted_56 : decode cX8_shifted 56 = .ok (.imul, 1) := by decide +kernel
theorem dX8_shifted_57 : decode cX8_shifted 57 = .ok (.goto 7, 3) := by decide +kernel
theorem dX8_shifted_60 : decode cX8_shifted 60 = .ok (.iload 4, 2) := by decide +kernel
theorem dX8_shifted_62 : decode cX8_shifted 62 = .ok (.iconst 1, 1) := by decide +kernel
theorem dX8_shifted_63 : decode cX8_shifted 63 = .ok (.ishr, 1) := by decide +kernel
theorem dX8_shifted_64 : decode cX8_shifted 64 = .ok (.istore 4, 2) := by decide +kernel
theorem dX8_shifted_66 : decode cX8_shifted 66 = .ok (.iinc 5 1, 3) := by decide +kernel
theorem dX8_shifted_69 : decode cX8_shifted 69 = .ok (.goto (-26), 3) := by decide +kernel
theorem dX8_shifted_72 : decode cX8_shifted 72 = .ok (.iload 4, 2) := by decide +kernel
theorem dX8_shifted_74 : decode cX8_shifted 74 = .ok (.invokestatic 99, 3) := by decide +kernel
theorem dX8_shifted_77 : decode cX8_shifted 77 = .ok (.ireturn, 1) := by decide +kernel
theorem dX8_work_0 : decode cX8_work 0 = .ok (.aload_n 0, 1) := by decide +kernel
theorem dX8_work_1 : decode cX8_work 1 = .ok (.iconst 0, 1) := by decide +kernel
theorem dX8_work_2 : decode cX8_work 2 = .ok (.putfield 72, 3) := by decide +kernel
theorem dX8_work_5 : decode cX8_work 5 = .ok (.aload_n 0, 1) := by decide +kernel
theorem dX8_work_6 : decode cX8_work 6 = .ok (.iconst 0, 1) := by decide +kernel
theorem dX8_work_7 : decode cX8_work 7 = .ok (.putfield 81, 3) := by decide +kernel
theorem dX8_work_10 : decode cX8_work 10 = .ok (.iload_n 1, 1) := by decide +kernel
theorem dX8_work_11 : decode cX8_work 11 = .ok (.ifCond .lt 9, 3) := by decide +kernel
theorem dX8_work_14 : decode cX8_work 14 = .ok (.iload_n 1, 1) := by decide +kernel
theorem dX8_work_15 : decode cX8_work 15 = .ok (.bipush 9, 2) := by decide +kernel
theorem dX8_work_17 : decode cX8_work 17 = .ok (.if_icmp .le 10, 3) := by decide +kernel
theorem dX8_work_20 : decode cX8_work 20 = .ok (.aload_n 0, 1) := by decide +kernel
theorem dX8_work_21 : decode cX8_work 21 = .ok (.iconst 1, 1) := by decide +kernel
theorem dX8_work_22 : decode cX8_work 22 = .ok (.putfield 72, 3) := by decide +kernel
theorem dX8_work_25 : decode cX8_work 25 = .ok (.iconst 0, 1) := by decide +kernel
theorem dX8_work_26 : decode cX8_work 26 = .ok (.ireturn, 1) := by decide +kernel
theorem dX8_work_27 : decode cX8_work 27 = .ok (.aload_n 0, 1) := by decide +kernel
theorem dX8_work_28 : decode cX8_work 28 = .ok (.iload_n 1, 1) := by decide +kernel
theorem dX8_work_29 : decode cX8_work 29 = .ok (.iload_n 2, 1) := by decide +kernel
theorem dX8_work_30 : decode cX8_work 30 = .ok (.invokestatic 99, 3) := by decide +kernel
theorem dX8_work_33 : decode cX8_work 33 = .ok (.iload_n 3, 1) := by decide +kernel
theorem dX8_work_34 : decode cX8_work 34 = .ok (.invokestatic 99, 3) := by decide +kernel
theorem dX8_work_37 : decode cX8_work 37 = .ok (.invokevirtual 107, 3) := by decide +kernel
theorem dX8_work_40 : decode cX8_work 40 = .ok (.istore 4, 2) := by decide +kernel
theorem dX8_work_42 : decode cX8_work 42 = .ok (.aload_n 0, 1) := by decide +kernel
theorem dX8_work_43 : decode cX8_work 43 = .ok (.aload_n 0, 1) := by decide +kernel
theorem dX8_work_44 : decode cX8_work 44 = .ok (.getfield 81, 3) := by decide +kernel
theorem dX8_work_47 : decode cX8_work 47 = .ok (.ifCond .ne 7, 3) := by decide +kernel
theorem dX8_work_50 : decode cX8_work 50 = .ok (.iconst 0, 1) := by decide +kernel
theorem dX8_work_51 : decode cX8_work 51 = .ok (.goto 4, 3) := by decide +kernel
theorem dX8_work_54 : decode cX8_work 54 = .ok (.iconst 2, 1) := by decide +kernel
theorem dX8_work_55 : decode cX8_work 55 = .ok (.putfield 72, 3) := by decide +kernel
theorem dX8_work_58 : decode cX8_work 58 = .ok (.iload 4, 2) := by decide +kernel
theorem dX8_work_60 : decode cX8_work 60 = .ok (.ireturn, 1) := by decide +kernel
theorem dX8_copied_0 : decode cX8_copied 0 = .ok (.iload_n 3, 1) := by decide +kernel
theorem dX8_copied_1 : decode cX8_copied 1 = .ok (.ifCond .ge 8, 3) := by decide +kernel
theorem dX8_copied_4 : decode cX8_copied 4 = .ok (.iload_n 3, 1) := by decide +kernel
theorem dX8_copied_5 : decode cX8_copied 5 = .ok (.ineg, 1) := by decide +kernel
theorem dX8_copied_6 : decode cX8_copied 6 = .ok (.goto 4, 3) := by decide +kernel
theorem dX8_copied_9 : decode cX8_copied 9 = .ok (.iload_n 3, 1) := by decide +kernel
theorem dX8_copied_10 : decode cX8_copied 10 = .ok (.istore 4, 2) := by decide +kernel
theorem dX8_copied_12 : decode cX8_copied 12 = .ok (.iload 4, 2) := by decide +kernel
theorem dX8_copied_14 : decode cX8_copied 14 = .ok (.ifCond .ne 4, 3) := by decide +kernel
theorem dX8_copied_17 : decode cX8_copied 17 = .ok (.return_, 1) := by decide +kernel
theorem dX8_copied_18 : decode cX8_copied 18 = .ok (.iload_n 2, 1) := by decide +kernel
theorem dX8_copied_19 : decode cX8_copied 19 = .ok (.ifCond .ne 63, 3) := by decide +kernel
theorem dX8_copied_22 : decode cX8_copied 22 = .ok (.aload_n 0, 1) := by decide +kernel
theorem dX8_copied_23 : decode cX8_copied 23 = .ok (.iload_n 1, 1) := by decide +kernel
theorem dX8_copied_24 : decode cX8_copied 24 = .ok (.iload 4, 2) := by decide +kernel
theorem dX8_copied_26 : decode cX8_copied 26 = .ok (.invokevirtual 84, 3) := by decide +kernel
theorem dX8_copied_29 : decode cX8_copied 29 = .ok (.ifCond .eq 19, 3) := by decide +kernel
theorem dX8_copied_32 : decode cX8_copied 32 = .ok (.iload_n 1, 1) := by decide +kernel
theorem dX8_copied_33 : decode cX8_copied 33 = .ok (.iload 4, 2) := by decide +kernel
theorem dX8_copied_35 : decode cX8_copied 35 = .ok (.iadd, 1) := by decide +kernel
theorem dX8_copied_36 : decode cX8_copied 36 = .ok (.aload_n 0, 1) := by decide +kernel
theorem dX8_copied_37 : decode cX8_copied 37 = .ok (.getfield 88, 3) := by decide +kernel
theorem dX8_copied_40 : decode cX8_copied 40 = .ok (.if_icmp .le 8, 3) := by decide +kernel
theorem dX8_copied_43 : decode cX8_copied 43 = .ok (.aload_n 0, 1) := by decide +kernel
theorem dX8_copied_44 : decode cX8_copied 44 = .ok (.iconst 3, 1) := by decide +kernel
theorem dX8_copied_45 : decode cX8_copied 45 = .ok (.putfield 81, 3) := by decide +kernel
theorem dX8_copied_48 : decode cX8_copied 48 = .ok (.iconst 0, 1) := by decide +kernel
theorem dX8_copied_49 : decode cX8_copied 49 = .ok (.istore 5, 2) := by decide +kernel
theorem dX8_copied_51 : decode cX8_copied 51 = .ok (.iload 5, 2) := by decide +kernel
theorem dX8_copied_53 : decode cX8_copied 53 = .ok (.iload 4, 2) := by decide +kernel
theorem dX8_copied_55 : decode cX8_copied 55 = .ok (.if_icmp .ge 26, 3) := by decide +kernel
theorem dX8_copied_58 : decode cX8_copied 58 = .ok (.aload_n 0, 1) := by decide +kernel
theorem dX8_copied_59 : decode cX8_copied 59 = .ok (.getfield 81, 3) := by decide +kernel
theorem dX8_copied_62 : decode cX8_copied 62 = .ok (.ifCond .ne 19, 3) := by decide +kernel
theorem dX8_copied_65 : decode cX8_copied 65 = .ok (.aload_n 0, 1) := by decide +kernel
theorem dX8_copied_66 : decode cX8_copied 66 = .ok (.getfield 7, 3) := by decide +kernel
theorem dX8_copied_69 : decode cX8_copied 69 = .ok (.iload_n 1, 1) := by decide +kernel
theorem dX8_copied_70 : decode cX8_copied 70 = .ok (.iload 5, 2) := by decide +kernel
theorem dX8_copied_72 : decode cX8_copied 72 = .ok (.iadd, 1) := by decide +kernel
theorem dX8_copied_73 : decode cX8_copied 73 = .ok (.iconst 0, 1) := by decide +kernel
theorem dX8_copied_74 : decode cX8_copied 74 = .ok (.iastore, 1) := by decide +kernel
theorem dX8_copied_75 : decode cX8_copied 75 = .ok (.iinc 5 1, 3) := by decide +kernel
theorem dX8_copied_78 : decode cX8_copied 78 = .ok (.goto (-27), 3) := by decide +kernel
theorem dX8_copied_81 : decode cX8_copied 81 = .ok (.return_, 1) := by decide +kernel
theorem dX8_copied_82 : decode cX8_copied 82 = .ok (.iload_n 3, 1) := by decide +kernel
theorem dX8_copied_83 : decode cX8_copied 83 = .ok (.ifCond .ge 57, 3) := by decide +kernel
theorem dX8_copied_86 : decode cX8_copied 86 = .ok (.iconst 0, 1) := by decide +kernel
theorem dX8_copied_87 : decode cX8_copied 87 = .ok (.istore 5, 2) := by decide +kernel
theorem dX8_copied_89 : decode cX8_copied 89 = .ok (.iload 5, 2) := by decide +kernel
theorem dX8_copied_91 : decode cX8_copied 91 = .ok (.iload 4, 2) := by decide +kernel
theorem dX8_copied_93 : decode cX8_copied 93 = .ok (.if_icmp .ge 46, 3) := by decide +kernel
theorem dX8_copied_96 : decode cX8_copied 96 = .ok (.aload_n 0, 1) := by decide +kernel
theorem dX8_copied_97 : decode cX8_copied 97 = .ok (.getfield 81, 3) := by decide +kernel
theorem dX8_copied_100 : decode cX8_copied 100 = .ok (.ifCond .ne 39, 3) := by decide +kernel
theorem dX8_copied_103 : decode cX8_copied 103 = .ok (.aload_n 0, 1) := by decide +kernel
theorem dX8_copied_104 : decode cX8_copied 104 = .ok (.iload_n 1, 1) := by decide +kernel
theorem dX8_copied_105 : decode cX8_copied 105 = .ok (.iload 5, 2) := by decide +kernel
theorem dX8_copied_107 : decode cX8_copied 107 = .ok (.iadd, 1) := by decide +kernel
theorem dX8_copied_108 : decode cX8_copied 108 = .ok (.iconst 0, 1) := by decide +kernel
theorem dX8_copied_109 : decode cX8_copied 109 = .ok (.invokevirtual 91, 3) := by decide +kernel
theorem dX8_copied_112 : decode cX8_copied 112 = .ok (.istore 6, 2) := by decide +kernel
theorem dX8_copied_114 : decode cX8_copied 114 = .ok (.aload_n 0, 1) := by decide +kernel
theorem dX8_copied_115 : decode cX8_copied 115 = .ok (.getfield 81, 3) := by decide +kernel
theorem dX8_copied_118 : decode cX8_copied 118 = .ok (.ifCond .ne 15, 3) := by decide +kernel
theorem dX8_copied_121 : decode cX8_copied 121 = .ok (.aload_n 0, 1) := by decide +kernel
theorem dX8_copied_122 : decode cX8_copied 122 = .ok (.iload_n 2, 1) := by decide +kernel
theorem dX8_copied_123 : decode cX8_copied 123 = .ok (.iload 5, 2) := by decide +kernel
theorem dX8_copied_125 : decode cX8_copied 125 = .ok (.iadd, 1) := by decide +kernel
theorem dX8_copied_126 : decode cX8_copied 126 = .ok (.iload 6, 2) := by decide +kernel
theorem dX8_copied_128 : decode cX8_copied 128 = .ok (.iconst 0, 1) := by decide +kernel
theorem dX8_copied_129 : decode cX8_copied 129 = .ok (.iconst 0, 1) := by decide +kernel
theorem dX8_copied_130 : decode cX8_copied 130 = .ok (.invokevirtual 95, 3) := by decide +kernel
theorem dX8_copied_133 : decode cX8_copied 133 = .ok (.iinc 5 1, 3) := by decide +kernel
theorem dX8_copied_136 : decode cX8_copied 136 = .ok (.goto (-47), 3) := by decide +kernel
theorem dX8_copied_139 : decode cX8_copied 139 = .ok (.return_, 1) := by decide +kernel
theorem dX8_copied_140 : decode cX8_copied 140 = .ok (.aload_n 0, 1) := by decide +kernel
theorem dX8_copied_141 : decode cX8_copied 141 = .ok (.iload_n 1, 1) := by decide +kernel
theorem dX8_copied_142 : decode cX8_copied 142 = .ok (.iload 4, 2) := by decide +kernel
theorem dX8_copied_144 : decode cX8_copied 144 = .ok (.invokevirtual 84, 3) := by decide +kernel
theorem dX8_copied_147 : decode cX8_copied 147 = .ok (.ifCond .eq 29, 3) := by decide +kernel
theorem dX8_copied_150 : decode cX8_copied 150 = .ok (.aload_n 0, 1) := by decide +kernel
theorem dX8_copied_151 : decode cX8_copied 151 = .ok (.iload_n 2, 1) := by decide +kernel
theorem dX8_copied_152 : decode cX8_copied 152 = .ok (.iload 4, 2) := by decide +kernel
theorem dX8_copied_154 : decode cX8_copied 154 = .ok (.invokevirtual 84, 3) := by decide +kernel
theorem dX8_copied_157 : decode cX8_copied 157 = .ok (.ifCond .eq 19, 3) := by decide +kernel
theorem dX8_copied_160 : decode cX8_copied 160 = .ok (.iload_n 2, 1) := by decide +kernel
theorem dX8_copied_161 : decode cX8_copied 161 = .ok (.iload 4, 2) := by decide +kernel
theorem dX8_copied_163 : decode cX8_copied 163 = .ok (.iadd, 1) := by decide +kernel
theorem dX8_copied_164 : decode cX8_copied 164 = .ok (.aload_n 0, 1) := by decide +kernel
theorem dX8_copied_165 : decode cX8_copied 165 = .ok (.getfield 88, 3) := by decide +kernel
theorem dX8_copied_168 : decode cX8_copied 168 = .ok (.if_icmp .le 8, 3) := by decide +kernel
theorem dX8_copied_171 : decode cX8_copied 171 = .ok (.aload_n 0, 1) := by decide +kernel
theorem dX8_copied_172 : decode cX8_copied 172 = .ok (.iconst 3, 1) := by decide +kernel
theorem dX8_copied_173 : decode cX8_copied 173 = .ok (.putfield 81, 3) := by decide +kernel
theorem dX8_copied_176 : decode cX8_copied 176 = .ok (.iconst 0, 1) := by decide +kernel
theorem dX8_copied_177 : decode cX8_copied 177 = .ok (.istore 5, 2) := by decide +kernel
theorem dX8_copied_179 : decode cX8_copied 179 = .ok (.iload 5, 2) := by decide +kernel
theorem dX8_copied_181 : decode cX8_copied 181 = .ok (.iload 4, 2) := by decide +kernel
theorem dX8_copied_183 : decode cX8_copied 183 = .ok (.if_icmp .ge 32, 3) := by decide +kernel
theorem dX8_copied_186 : decode cX8_copied 186 = .ok (.aload_n 0, 1) := by decide +kernel
theorem dX8_copied_187 : decode cX8_copied 187 = .ok (.getfield 81, 3) := by decide +kernel
theorem dX8_copied_190 : decode cX8_copied 190 = .ok (.ifCond .ne 25, 3) := by decide +kernel
theorem dX8_copied_193 : decode cX8_copied 193 = .ok (.aload_n 0, 1) := by decide +kernel
theorem dX8_copied_194 : decode cX8_copied 194 = .ok (.getfield 23, 3) := by decide +kernel
theorem dX8_copied_197 : decode cX8_copied 197 = .ok (.iload 5, 2) := by decide +kernel
theorem dX8_copied_199 : decode cX8_copied 199 = .ok (.aload_n 0, 1) := by decide +kernel
theorem dX8_copied_200 : decode cX8_copied 200 = .ok (.getfield 7, 3) := by decide +kernel
theorem dX8_copied_203 : decode cX8_copied 203 = .ok (.iload_n 1, 1) := by decide +kernel
theorem dX8_copied_204 : decode cX8_copied 204 = .ok (.iload 5, 2) := by decide +kernel
theorem dX8_copied_206 : decode cX8_copied 206 = .ok (.iadd, 1) := by decide +kernel
theorem dX8_copied_207 : decode cX8_copied 207 = .ok (.iaload, 1) := by decide +kernel
theorem dX8_copied_208 : decode cX8_copied 208 = .ok (.iastore, 1) := by decide +kernel
theorem dX8_copied_209 : decode cX8_copied 209 = .ok (.iinc 5 1, 3) := by decide +kernel
theorem dX8_copied_212 : decode cX8_copied 212 = .ok (.goto (-33), 3) := by decide +kernel
theorem dX8_copied_215 : decode cX8_copied 215 = .ok (.iconst 0, 1) := by decide +kernel
theorem dX8_copied_216 : decode cX8_copied 216 = .ok (.istore 5, 2) := by decide +kernel
theorem dX8_copied_218 : decode cX8_copied 218 = .ok (.iload 5, 2) := by decide +kernel
theorem dX8_copied_220 : decode cX8_copied 220 = .ok (.iload 4, 2) := by decide +kernel
theorem dX8_copied_222 : decode cX8_copied 222 = .ok (.if_icmp .ge 32, 3) := by decide +kernel
theorem dX8_copied_225 : decode cX8_copied 225 = .ok (.aload_n 0, 1) := by decide +kernel
theorem dX8_copied_226 : decode cX8_copied 226 = .ok (.getfield 81, 3) := by decide +kernel
theorem dX8_copied_229 : decode cX8_copied 229 = .ok (.ifCond .ne 25, 3) := by decide +kernel
theorem dX8_copied_232 : decode cX8_copied 232 = .ok (.aload_n 0, 1) := by decide +kernel
theorem dX8_copied_233 : decode cX8_copied 233 = .ok (.getfield 7, 3) := by decide +kernel
theorem dX8_copied_236 : decode cX8_copied 236 = .ok (.iload_n 2, 1) := by decide +kernel
theorem dX8_copied_237 : decode cX8_copied 237 = .ok (.iload 5, 2) := by decide +kernel
theorem dX8_copied_239 : decode cX8_copied 239 = .ok (.iadd, 1) := by decide +kernel
theorem dX8_copied_240 : decode cX8_copied 240 = .ok (.aload_n 0, 1) := by decide +kernel
theorem dX8_copied_241 : decode cX8_copied 241 = .ok (.getfield 23, 3) := by decide +kernel
theorem dX8_copied_244 : decode cX8_copied 244 = .ok (.iload 5, 2) := by decide +kernel
theorem dX8_copied_246 : decode cX8_copied 246 = .ok (.iaload, 1) := by decide +kernel
theorem dX8_copied_247 : decode cX8_copied 247 = .ok (.iastore, 1) := by decide +kernel
theorem dX8_copied_248 : decode cX8_copied 248 = .ok (.iinc 5 1, 3) := by decide +kernel
theorem dX8_copied_251 : decode cX8_copied 251 = .ok (.goto (-33), 3) := by decide +kernel
theorem dX8_copied_254 : decode cX8_copied 254 = .ok (.return_, 1) := by decide +kernel
theorem dX8_copy_0 : decode cX8_copy 0 = .ok (.aload_n 0, 1) := by decide +kernel
theorem dX8_copy_1 : decode cX8_copy 1 = .ok (.iconst 0, 1) := by decide +kernel
theorem dX8_copy_2 : decode cX8_copy 2 = .ok (.putfield 72, 3) := by decide +kernel
theorem dX8_copy_5 : decode cX8_copy 5 = .ok (.aload_n 0, 1) := by decide +kernel
theorem dX8_copy_6 : decode cX8_copy 6 = .ok (.iconst 0, 1) := by decide +kernel
theorem dX8_copy_7 : decode cX8_copy 7 = .ok (.putfield 81, 3) := by decide +kernel
theorem dX8_copy_10 : decode cX8_copy 10 = .ok (.aload_n 0, 1) := by decide +kernel
theorem dX8_copy_11 : decode cX8_copy 11 = .ok (.iload_n 1, 1) := by decide +kernel
theorem dX8_copy_12 : decode cX8_copy 12 = .ok (.ldc 75, 2) := by decide +kernel
theorem dX8_copy_14 : decode cX8_copy 14 = .ok (.iand, 1) := by decide +kernel
theorem dX8_copy_15 : decode cX8_copy 15 = .ok (.iload_n 2, 1) := by decide +kernel
theorem dX8_copy_16 : decode cX8_copy 16 = .ok (.ldc 75, 2) := by decide +kernel
theorem dX8_copy_18 : decode cX8_copy 18 = .ok (.iand, 1) := by decide +kernel
theorem dX8_copy_19 : decode cX8_copy 19 = .ok (.iload_n 3, 1) := by decide +kernel
theorem dX8_copy_20 : decode cX8_copy 20 = .ok (.invokestatic 99, 3) := by decide +kernel
theorem dX8_copy_23 : decode cX8_copy 23 = .ok (.invokevirtual 111, 3) := by decide +kernel
theorem dX8_copy_26 : decode cX8_copy 26 = .ok (.aload_n 0, 1) := by decide +kernel
theorem dX8_copy_27 : decode cX8_copy 27 = .ok (.getfield 81, 3) := by decide +kernel
theorem dX8_copy_30 : decode cX8_copy 30 = .ok (.ifCond .ne 7, 3) := by decide +kernel
theorem dX8_copy_33 : decode cX8_copy 33 = .ok (.iconst 1, 1) := by decide +kernel
theorem dX8_copy_34 : decode cX8_copy 34 = .ok (.goto 10, 3) := by decide +kernel
theorem dX8_copy_37 : decode cX8_copy 37 = .ok (.bipush (-10), 2) := by decide +kernel
theorem dX8_copy_39 : decode cX8_copy 39 = .ok (.aload_n 0, 1) := by decide +kernel
theorem dX8_copy_40 : decode cX8_copy 40 = .ok (.getfield 81, 3) := by decide +kernel
theorem dX8_copy_43 : decode cX8_copy 43 = .ok (.isub, 1) := by decide +kernel
theorem dX8_copy_44 : decode cX8_copy 44 = .ok (.ireturn, 1) := by decide +kernel
theorem dX8_looked_0 : decode cX8_looked 0 = .ok (.iload 4, 2) := by decide +kernel
theorem dX8_looked_2 : decode cX8_looked 2 = .ok (.bipush 127, 2) := by decide +kernel
theorem dX8_looked_4 : decode cX8_looked 4 = .ok (.iand, 1) := by decide +kernel
theorem dX8_looked_5 : decode cX8_looked 5 = .ok (.istore 5, 2) := by decide +kernel
theorem dX8_looked_7 : decode cX8_looked 7 = .ok (.iload_n 2, 1) := by decide +kernel
theorem dX8_looked_8 : decode cX8_looked 8 = .ok (.istore 6, 2) := by decide +kernel
theorem dX8_looked_10 : decode cX8_looked 10 = .ok (.iconst 0, 1) := by decide +kernel
theorem dX8_looked_11 : decode cX8_looked 11 = .ok (.istore 7, 2) := by decide +kernel
theorem dX8_looked_13 : decode cX8_looked 13 = .ok (.iload 7, 2) := by decide +kernel
theorem dX8_looked_15 : decode cX8_looked 15 = .ok (.iload_n 3, 1) := by decide +kernel
theorem dX8_looked_16 : decode cX8_looked 16 = .ok (.if_icmp .ge 55, 3) := by decide +kernel
theorem dX8_looked_19 : decode cX8_looked 19 = .ok (.aload_n 0, 1) := by decide +kernel
theorem dX8_looked_20 : decode cX8_looked 20 = .ok (.iload 6, 2) := by decide +kernel
theorem dX8_looked_22 : decode cX8_looked 22 = .ok (.iload 4, 2) := by decide +kernel
theorem dX8_looked_24 : decode cX8_looked 24 = .ok (.sipush 128, 3) := by decide +kernel
theorem dX8_looked_27 : decode cX8_looked 27 = .ok (.if_icmp .lt 7, 3) := by decide +kernel
theorem dX8_looked_30 : decode cX8_looked 30 = .ok (.iconst 1, 1) := by decide +kernel
theorem dX8_looked_31 : decode cX8_looked 31 = .ok (.goto 4, 3) := by decide +kernel
theorem dX8_looked_34 : decode cX8_looked 34 = .ok (.iconst 0, 1) := by decide +kernel
theorem dX8_looked_35 : decode cX8_looked 35 = .ok (.invokevirtual 91, 3) := by decide +kernel
theorem dX8_looked_38 : decode cX8_looked 38 = .ok (.istore 8, 2) := by decide +kernel
theorem dX8_looked_40 : decode cX8_looked 40 = .ok (.aload_n 0, 1) := by decide +kernel
theorem dX8_looked_41 : decode cX8_looked 41 = .ok (.getfield 81, 3) := by decide +kernel
theorem dX8_looked_44 : decode cX8_looked 44 = .ok (.ifCond .eq 5, 3) := by decide +kernel
theorem dX8_looked_47 : decode cX8_looked 47 = .ok (.iconst 0, 1) := by decide +kernel
theorem dX8_looked_48 : decode cX8_looked 48 = .ok (.ireturn, 1) := by decide +kernel
theorem dX8_looked_49 : decode cX8_looked 49 = .ok (.iload 8, 2) := by decide +kernel
theorem dX8_looked_51 : decode cX8_looked 51 = .ok (.iload_n 1, 1) := by decide +kernel
theorem dX8_looked_52 : decode cX8_looked 52 = .ok (.if_icmp .ne 6, 3) := by decide +kernel
theorem dX8_looked_55 : decode cX8_looked 55 = .ok (.iload 6, 2) := by decide +kernel
theorem dX8_looked_57 : decode cX8_looked 57 = .ok (.ireturn, 1) := by decide +kernel
theorem dX8_looked_58 : decode cX8_looked 58 = .ok (.iload 6, 2) := by decide +kernel
theorem dX8_looked_60 : decode cX8_looked 60 = .ok (.iload 5, 2) := by decide +kernel
theorem dX8_looked_62 : decode cX8_looked 62 = .ok (.iadd, 1) := by decide +kernel
theorem dX8_looked_63 : decode cX8_looked 63 = .ok (.istore 6, 2) := by decide +kernel
theorem dX8_looked_65 : decode cX8_looked 65 = .ok (.iinc 7 1, 3) := by decide +kernel
theorem dX8_looked_68 : decode cX8_looked 68 = .ok (.goto (-55), 3) := by decide +kernel
theorem dX8_looked_71 : decode cX8_looked 71 = .ok (.iconst 0, 1) := by decide +kernel
theorem dX8_looked_72 : decode cX8_looked 72 = .ok (.ireturn, 1) := by decide +kernel
theorem dX8_look_0 : decode cX8_look 0 = .ok (.aload_n 0, 1) := by decide +kernel
theorem dX8_look_1 : decode cX8_look 1 = .ok (.iconst 0, 1) := by decide +kernel
theorem dX8_look_2 : decode cX8_look 2 = .ok (.putfield 72, 3) := by decide +kernel
theorem dX8_look_5 : decode cX8_look 5 = .ok (.iload 4, 2) := by decide +kernel
theorem dX8_look_7 : decode cX8_look 7 = .ok (.ifCond .lt 11, 3) := by decide +kernel
theorem dX8_look_10 : decode cX8_look 10 = .ok (.iload 4, 2) := by decide +kernel
theorem dX8_look_12 : decode cX8_look 12 = .ok (.sipush 255, 3) := by decide +kernel
theorem dX8_look_15 : decode cX8_look 15 = .ok (.if_icmp .le 6, 3) := by decide +kernel
theorem dX8_look_18 : decode cX8_look 18 = .ok (.bipush (-2), 2) := by decide +kernel
theorem dX8_look_20 : decode cX8_look 20 = .ok (.ireturn, 1) := by decide +kernel
theorem dX8_look_21 : decode cX8_look 21 = .ok (.aload_n 0, 1) := by decide +kernel
theorem dX8_look_22 : decode cX8_look 22 = .ok (.iconst 0, 1) := by decide +kernel
theorem dX8_look_23 : decode cX8_look 23 = .ok (.putfield 81, 3) := by decide +kernel
theorem dX8_look_26 : decode cX8_look 26 = .ok (.aload_n 0, 1) := by decide +kernel
theorem dX8_look_27 : decode cX8_look 27 = .ok (.iload_n 1, 1) := by decide +kernel
theorem dX8_look_28 : decode cX8_look 28 = .ok (.ldc 75, 2) := by decide +kernel
theorem dX8_look_30 : decode cX8_look 30 = .ok (.iand, 1) := by decide +kernel
theorem dX8_look_31 : decode cX8_look 31 = .ok (.iload_n 2, 1) := by decide +kernel
theorem dX8_look_32 : decode cX8_look 32 = .ok (.ldc 75, 2) := by decide +kernel
theorem dX8_look_34 : decode cX8_look 34 = .ok (.iand, 1) := by decide +kernel
theorem dX8_look_35 : decode cX8_look 35 = .ok (.iload_n 3, 1) := by decide +kernel
theorem dX8_look_36 : decode cX8_look 36 = .ok (.invokestatic 99, 3) := by decide +kernel
theorem dX8_look_39 : decode cX8_look 39 = .ok (.iload 4, 2) := by decide +kernel
theorem dX8_look_41 : decode cX8_look 41 = .ok (.invokevirtual 115, 3) := by decide +kernel
theorem dX8_look_44 : decode cX8_look 44 = .ok (.istore 5, 2) := by decide +kernel
theorem dX8_look_46 : decode cX8_look 46 = .ok (.aload_n 0, 1) := by decide +kernel
theorem dX8_look_47 : decode cX8_look 47 = .ok (.getfield 81, 3) := by decide +kernel
theorem dX8_look_50 : decode cX8_look 50 = .ok (.ifCond .ne 8, 3) := by decide +kernel
theorem dX8_look_53 : decode cX8_look 53 = .ok (.iload 5, 2) := by decide +kernel
theorem dX8_look_55 : decode cX8_look 55 = .ok (.goto 10, 3) := by decide +kernel
theorem dX8_look_58 : decode cX8_look 58 = .ok (.bipush (-10), 2) := by decide +kernel
theorem dX8_look_60 : decode cX8_look 60 = .ok (.aload_n 0, 1) := by decide +kernel
theorem dX8_look_61 : decode cX8_look 61 = .ok (.getfield 81, 3) := by decide +kernel
theorem dX8_look_64 : decode cX8_look 64 = .ok (.isub, 1) := by decide +kernel
theorem dX8_look_65 : decode cX8_look 65 = .ok (.ireturn, 1) := by decide +kernel
theorem dX8_drawn_0 : decode cX8_drawn 0 = .ok (.iload_n 1, 1) := by decide +kernel
theorem dX8_drawn_1 : decode cX8_drawn 1 = .ok (.ifCond .le 147, 3) := by decide +kernel
theorem dX8_drawn_4 : decode cX8_drawn 4 = .ok (.aload_n 0, 1) := by decide +kernel
theorem dX8_drawn_5 : decode cX8_drawn 5 = .ok (.getfield 119, 3) := by decide +kernel
theorem dX8_drawn_8 : decode cX8_drawn 8 = .ok (.iconst 1, 1) := by decide +kernel
theorem dX8_drawn_9 : decode cX8_drawn 9 = .ok (.if_icmp .ne 41, 3) := by decide +kernel
theorem dX8_drawn_12 : decode cX8_drawn 12 = .ok (.aload_n 0, 1) := by decide +kernel
theorem dX8_drawn_13 : decode cX8_drawn 13 = .ok (.getfield 122, 3) := by decide +kernel
theorem dX8_drawn_16 : decode cX8_drawn 16 = .ok (.iconst 1, 1) := by decide +kernel
theorem dX8_drawn_17 : decode cX8_drawn 17 = .ok (.isub, 1) := by decide +kernel
theorem dX8_drawn_18 : decode cX8_drawn 18 = .ok (.iload_n 1, 1) := by decide +kernel
theorem dX8_drawn_19 : decode cX8_drawn 19 = .ok (.irem, 1) := by decide +kernel
theorem dX8_drawn_20 : decode cX8_drawn 20 = .ok (.iconst 1, 1) := by decide +kernel
theorem dX8_drawn_21 : decode cX8_drawn 21 = .ok (.iadd, 1) := by decide +kernel
theorem dX8_drawn_22 : decode cX8_drawn 22 = .ok (.istore_n 2, 1) := by decide +kernel
theorem dX8_drawn_23 : decode cX8_drawn 23 = .ok (.aload_n 0, 1) := by decide +kernel
theorem dX8_drawn_24 : decode cX8_drawn 24 = .ok (.aload_n 0, 1) := by decide +kernel
theorem dX8_drawn_25 : decode cX8_drawn 25 = .ok (.getfield 122, 3) := by decide +kernel
theorem dX8_drawn_28 : decode cX8_drawn 28 = .ok (.aload_n 0, 1) := by decide +kernel
theorem dX8_drawn_29 : decode cX8_drawn 29 = .ok (.getfield 125, 3) := by decide +kernel
theorem dX8_drawn_32 : decode cX8_drawn 32 = .ok (.if_icmp .ne 7, 3) := by decide +kernel
theorem dX8_drawn_35 : decode cX8_drawn 35 = .ok (.iconst 1, 1) := by decide +kernel
theorem dX8_drawn_36 : decode cX8_drawn 36 = .ok (.goto 9, 3) := by decide +kernel
theorem dX8_drawn_39 : decode cX8_drawn 39 = .ok (.aload_n 0, 1) := by decide +kernel
theorem dX8_drawn_40 : decode cX8_drawn 40 = .ok (.getfield 122, 3) := by decide +kernel
theorem dX8_drawn_43 : decode cX8_drawn 43 = .ok (.iconst 1, 1) := by decide +kernel
theorem dX8_drawn_44 : decode cX8_drawn 44 = .ok (.iadd, 1) := by decide +kernel
theorem dX8_drawn_45 : decode cX8_drawn 45 = .ok (.putfield 122, 3) := by decide +kernel
theorem dX8_drawn_48 : decode cX8_drawn 48 = .ok (.iload_n 2, 1) := by decide +kernel
theorem dX8_drawn_49 : decode cX8_drawn 49 = .ok (.ireturn, 1) := by decide +kernel
theorem dX8_drawn_50 : decode cX8_drawn 50 = .ok (.aload_n 0, 1) := by decide +kernel
theorem dX8_drawn_51 : decode cX8_drawn 51 = .ok (.getfield 119, 3) := by decide +kernel
theorem dX8_drawn_54 : decode cX8_drawn 54 = .ok (.iconst 2, 1) := by decide +kernel
theorem dX8_drawn_55 : decode cX8_drawn 55 = .ok (.if_icmp .ne 63, 3) := by decide +kernel
theorem dX8_drawn_58 : decode cX8_drawn 58 = .ok (.aload_n 0, 1) := by decide +kernel
theorem dX8_drawn_59 : decode cX8_drawn 59 = .ok (.getfield 128, 3) := by decide +kernel
theorem dX8_drawn_62 : decode cX8_drawn 62 = .ok (.ifCond .le 56, 3) := by decide +kernel
theorem dX8_drawn_65 : decode cX8_drawn 65 = .ok (.aload_n 0, 1) := by decide +kernel
theorem dX8_drawn_66 : decode cX8_drawn 66 = .ok (.getfield 20, 3) := by decide +kernel
theorem dX8_drawn_69 : decode cX8_drawn 69 = .ok (.iconst 0, 1) := by decide +kernel
theorem dX8_drawn_70 : decode cX8_drawn 70 = .ok (.iaload, 1) := by decide +kernel
theorem dX8_drawn_71 : decode cX8_drawn 71 = .ok (.istore_n 2, 1) := by decide +kernel
theorem dX8_drawn_72 : decode cX8_drawn 72 = .ok (.aload_n 0, 1) := by decide +kernel
theorem dX8_drawn_73 : decode cX8_drawn 73 = .ok (.dup, 1) := by decide +kernel
theorem dX8_drawn_74 : decode cX8_drawn 74 = .ok (.getfield 128, 3) := by decide +kernel
theorem dX8_drawn_77 : decode cX8_drawn 77 = .ok (.iconst 1, 1) := by decide +kernel
theorem dX8_drawn_78 : decode cX8_drawn 78 = .ok (.isub, 1) := by decide +kernel
theorem dX8_drawn_79 : decode cX8_drawn 79 = .ok (.putfield 128, 3) := by decide +kernel
theorem dX8_drawn_82 : decode cX8_drawn 82 = .ok (.iconst 0, 1) := by decide +kernel
theorem dX8_drawn_83 : decode cX8_drawn 83 = .ok (.istore_n 3, 1) := by decide +kernel
theorem dX8_drawn_84 : decode cX8_drawn 84 = .ok (.iload_n 3, 1) := by decide +kernel
theorem dX8_drawn_85 : decode cX8_drawn 85 = .ok (.aload_n 0, 1) := by decide +kernel
theorem dX8_drawn_86 : decode cX8_drawn 86 = .ok (.getfield 128, 3) := by decide +kernel
theorem dX8_drawn_89 : decode cX8_drawn 89 = .ok (.if_icmp .ge 23, 3) := by decide +kernel
theorem dX8_drawn_92 : decode cX8_drawn 92 = .ok (.aload_n 0, 1) := by decide +kernel
theorem dX8_drawn_93 : decode cX8_drawn 93 = .ok (.getfield 20, 3) := by decide +kernel
theorem dX8_drawn_96 : decode cX8_drawn 96 = .ok (.iload_n 3, 1) := by decide +kernel
theorem dX8_drawn_97 : decode cX8_drawn 97 = .ok (.aload_n 0, 1) := by decide +kernel
theorem dX8_drawn_98 : decode cX8_drawn 98 = .ok (.getfield 20, 3) := by decide +kernel
theorem dX8_drawn_101 : decode cX8_drawn 101 = .ok (.iload_n 3, 1) := by decide +kernel
theorem dX8_drawn_102 : decode cX8_drawn 102 = .ok (.iconst 1, 1) := by decide +kernel
theorem dX8_drawn_103 : decode cX8_drawn 103 = .ok (.iadd, 1) := by decide +kernel
theorem dX8_drawn_104 : decode cX8_drawn 104 = .ok (.iaload, 1) := by decide +kernel
theorem dX8_drawn_105 : decode cX8_drawn 105 = .ok (.iastore, 1) := by decide +kernel
theorem dX8_drawn_106 : decode cX8_drawn 106 = .ok (.iinc 3 1, 3) := by decide +kernel
theorem dX8_drawn_109 : decode cX8_drawn 109 = .ok (.goto (-25), 3) := by decide +kernel
theorem dX8_drawn_112 : decode cX8_drawn 112 = .ok (.iload_n 2, 1) := by decide +kernel
theorem dX8_drawn_113 : decode cX8_drawn 113 = .ok (.iload_n 1, 1) := by decide +kernel
theorem dX8_drawn_114 : decode cX8_drawn 114 = .ok (.irem, 1) := by decide +kernel
theorem dX8_drawn_115 : decode cX8_drawn 115 = .ok (.iconst 1, 1) := by decide +kernel
theorem dX8_drawn_116 : decode cX8_drawn 116 = .ok (.iadd, 1) := by decide +kernel
theorem dX8_drawn_117 : decode cX8_drawn 117 = .ok (.ireturn, 1) := by decide +kernel
theorem dX8_drawn_118 : decode cX8_drawn 118 = .ok (.aload_n 0, 1) := by decide +kernel
theorem dX8_drawn_119 : decode cX8_drawn 119 = .ok (.aload_n 0, 1) := by decide +kernel
theorem dX8_drawn_120 : decode cX8_drawn 120 = .ok (.getfield 17, 3) := by decide +kernel
theorem dX8_drawn_123 : decode cX8_drawn 123 = .ok (.ldc 131, 2) := by decide +kernel
theorem dX8_drawn_125 : decode cX8_drawn 125 = .ok (.imul, 1) := by decide +kernel
theorem dX8_drawn_126 : decode cX8_drawn 126 = .ok (.sipush 12345, 3) := by decide +kernel
theorem dX8_drawn_129 : decode cX8_drawn 129 = .ok (.iadd, 1) := by decide +kernel
theorem dX8_drawn_130 : decode cX8_drawn 130 = .ok (.ldc 132, 2) := by decide +kernel
theorem dX8_drawn_132 : decode cX8_drawn 132 = .ok (.iand, 1) := by decide +kernel
theorem dX8_drawn_133 : decode cX8_drawn 133 = .ok (.putfield 17, 3) := by decide +kernel
theorem dX8_drawn_136 : decode cX8_drawn 136 = .ok (.aload_n 0, 1) := by decide +kernel
theorem dX8_drawn_137 : decode cX8_drawn 137 = .ok (.getfield 17, 3) := by decide +kernel
theorem dX8_drawn_140 : decode cX8_drawn 140 = .ok (.bipush 16, 2) := by decide +kernel
theorem dX8_drawn_142 : decode cX8_drawn 142 = .ok (.iushr, 1) := by decide +kernel
theorem dX8_drawn_143 : decode cX8_drawn 143 = .ok (.iload_n 1, 1) := by decide +kernel
theorem dX8_drawn_144 : decode cX8_drawn 144 = .ok (.irem, 1) := by decide +kernel
theorem dX8_drawn_145 : decode cX8_drawn 145 = .ok (.iconst 1, 1) := by decide +kernel
theorem dX8_drawn_146 : decode cX8_drawn 146 = .ok (.iadd, 1) := by decide +kernel
theorem dX8_drawn_147 : decode cX8_drawn 147 = .ok (.ireturn, 1) := by decide +kernel
theorem dX8_drawn_148 : decode cX8_drawn 148 = .ok (.iload_n 1, 1) := by decide +kernel
theorem dX8_drawn_149 : decode cX8_drawn 149 = .ok (.ifCond .ne 11, 3) := by decide +kernel
theorem dX8_drawn_152 : decode cX8_drawn 152 = .ok (.aload_n 0, 1) := by decide +kernel
theorem dX8_drawn_153 : decode cX8_drawn 153 = .ok (.iconst 2, 1) := by decide +kernel
theorem dX8_drawn_154 : decode cX8_drawn 154 = .ok (.putfield 119, 3) := by decide +kernel
theorem dX8_drawn_157 : decode cX8_drawn 157 = .ok (.goto 41, 3) := by decide +kernel
theorem dX8_drawn_160 : decode cX8_drawn 160 = .ok (.iload_n 1, 1) := by decide +kernel
theorem dX8_drawn_161 : decode cX8_drawn 161 = .ok (.ineg, 1) := by decide +kernel
theorem dX8_drawn_162 : decode cX8_drawn 162 = .ok (.sipush 1000, 3) := by decide +kernel
theorem dX8_drawn_165 : decode cX8_drawn 165 = .ok (.if_icmp .ge 22, 3) := by decide +kernel
theorem dX8_drawn_168 : decode cX8_drawn 168 = .ok (.aload_n 0, 1) := by decide +kernel
theorem dX8_drawn_169 : decode cX8_drawn 169 = .ok (.iconst 1, 1) := by decide +kernel
theorem dX8_drawn_170 : decode cX8_drawn 170 = .ok (.putfield 119, 3) := by decide +kernel
theorem dX8_drawn_173 : decode cX8_drawn 173 = .ok (.aload_n 0, 1) := by decide +kernel
theorem dX8_drawn_174 : decode cX8_drawn 174 = .ok (.iload_n 1, 1) := by decide +kernel
theorem dX8_drawn_175 : decode cX8_drawn 175 = .ok (.ineg, 1) := by decide +kernel
theorem dX8_drawn_176 : decode cX8_drawn 176 = .ok (.putfield 125, 3) := by decide +kernel
theorem dX8_drawn_179 : decode cX8_drawn 179 = .ok (.aload_n 0, 1) := by decide +kernel
theorem dX8_drawn_180 : decode cX8_drawn 180 = .ok (.iconst 1, 1) := by decide +kernel
theorem dX8_drawn_181 : decode cX8_drawn 181 = .ok (.putfield 122, 3) := by decide +kernel
theorem dX8_drawn_184 : decode cX8_drawn 184 = .ok (.goto 14, 3) := by decide +kernel
theorem dX8_drawn_187 : decode cX8_drawn 187 = .ok (.aload_n 0, 1) := by decide +kernel
theorem dX8_drawn_188 : decode cX8_drawn 188 = .ok (.iconst 0, 1) := by decide +kernel
theorem dX8_drawn_189 : decode cX8_drawn 189 = .ok (.putfield 119, 3) := by decide +kernel
theorem dX8_drawn_192 : decode cX8_drawn 192 = .ok (.aload_n 0, 1) := by decide +kernel
theorem dX8_drawn_193 : decode cX8_drawn 193 = .ok (.iload_n 1, 1) := by decide +kernel
theorem dX8_drawn_194 : decode cX8_drawn 194 = .ok (.ineg, 1) := by decide +kernel
theorem dX8_drawn_195 : decode cX8_drawn 195 = .ok (.putfield 17, 3) := by decide +kernel
theorem dX8_drawn_198 : decode cX8_drawn 198 = .ok (.iconst 0, 1) := by decide +kernel
theorem dX8_drawn_199 : decode cX8_drawn 199 = .ok (.ireturn, 1) := by decide +kernel
theorem dX8_random_0 : decode cX8_random 0 = .ok (.aload_n 0, 1) := by decide +kernel
theorem dX8_random_1 : decode cX8_random 1 = .ok (.iconst 0, 1) := by decide +kernel
theorem dX8_random_2 : decode cX8_random 2 = .ok (.putfield 72, 3) := by decide +kernel
theorem dX8_random_5 : decode cX8_random 5 = .ok (.aload_n 0, 1) := by decide +kernel
theorem dX8_random_6 : decode cX8_random 6 = .ok (.iload_n 1, 1) := by decide +kernel
theorem dX8_random_7 : decode cX8_random 7 = .ok (.invokestatic 99, 3) := by decide +kernel
theorem dX8_random_10 : decode cX8_random 10 = .ok (.invokevirtual 133, 3) := by decide +kernel
theorem dX8_random_13 : decode cX8_random 13 = .ok (.ireturn, 1) := by decide +kernel
theorem dX8_tape_0 : decode cX8_tape 0 = .ok (.aload_n 0, 1) := by decide +kernel
theorem dX8_tape_1 : decode cX8_tape 1 = .ok (.iconst 0, 1) := by decide +kernel
theorem dX8_tape_2 : decode cX8_tape 2 = .ok (.putfield 72, 3) := by decide +kernel
theorem dX8_tape_5 : decode cX8_tape 5 = .ok (.iload_n 1, 1) := by decide +kernel
theorem dX8_tape_6 : decode cX8_tape 6 = .ok (.ifCond .lt 9, 3) := by decide +kernel
theorem dX8_tape_9 : decode cX8_tape 9 = .ok (.iload_n 1, 1) := by decide +kernel
theorem dX8_tape_10 : decode cX8_tape 10 = .ok (.ldc 75, 2) := by decide +kernel
theorem dX8_tape_12 : decode cX8_tape 12 = .ok (.if_icmp .le 6, 3) := by decide +kernel
theorem dX8_tape_15 : decode cX8_tape 15 = .ok (.bipush (-2), 2) := by decide +kernel
theorem dX8_tape_17 : decode cX8_tape 17 = .ok (.ireturn, 1) := by decide +kernel
theorem dX8_tape_18 : decode cX8_tape 18 = .ok (.aload_n 0, 1) := by decide +kernel
theorem dX8_tape_19 : decode cX8_tape 19 = .ok (.getfield 128, 3) := by decide +kernel
theorem dX8_tape_22 : decode cX8_tape 22 = .ok (.bipush 50, 2) := by decide +kernel
theorem dX8_tape_24 : decode cX8_tape 24 = .ok (.if_icmp .ne 6, 3) := by decide +kernel
theorem dX8_tape_27 : decode cX8_tape 27 = .ok (.bipush (-3), 2) := by decide +kernel
theorem dX8_tape_29 : decode cX8_tape 29 = .ok (.ireturn, 1) := by decide +kernel
theorem dX8_tape_30 : decode cX8_tape 30 = .ok (.aload_n 0, 1) := by decide +kernel
theorem dX8_tape_31 : decode cX8_tape 31 = .ok (.getfield 20, 3) := by decide +kernel
theorem dX8_tape_34 : decode cX8_tape 34 = .ok (.aload_n 0, 1) := by decide +kernel
theorem dX8_tape_35 : decode cX8_tape 35 = .ok (.getfield 128, 3) := by decide +kernel
theorem dX8_tape_38 : decode cX8_tape 38 = .ok (.iload_n 1, 1) := by decide +kernel
theorem dX8_tape_39 : decode cX8_tape 39 = .ok (.iastore, 1) := by decide +kernel
theorem dX8_tape_40 : decode cX8_tape 40 = .ok (.aload_n 0, 1) := by decide +kernel
theorem dX8_tape_41 : decode cX8_tape 41 = .ok (.dup, 1) := by decide +kernel
theorem dX8_tape_42 : decode cX8_tape 42 = .ok (.getfield 128, 3) := by decide +kernel
theorem dX8_tape_45 : decode cX8_tape 45 = .ok (.iconst 1, 1) := by decide +kernel
theorem dX8_tape_46 : decode cX8_tape 46 = .ok (.iadd, 1) := by decide +kernel
theorem dX8_tape_47 : decode cX8_tape 47 = .ok (.putfield 128, 3) := by decide +kernel
theorem dX8_tape_50 : decode cX8_tape 50 = .ok (.aload_n 0, 1) := by decide +kernel
theorem dX8_tape_51 : decode cX8_tape 51 = .ok (.getfield 128, 3) := by decide +kernel
theorem dX8_tape_54 : decode cX8_tape 54 = .ok (.ireturn, 1) := by decide +kernel
theorem dX8_globe_0 : decode cX8_globe 0 = .ok (.aload_n 0, 1) := by decide +kernel
theorem dX8_globe_1 : decode cX8_globe 1 = .ok (.iconst 0, 1) := by decide +kernel
theorem dX8_globe_2 : decode cX8_globe 2 = .ok (.putfield 72, 3) := by decide +kernel
theorem dX8_globe_5 : decode cX8_globe 5 = .ok (.iload_n 1, 1) := by decide +kernel
theorem dX8_globe_6 : decode cX8_globe 6 = .ok (.ifCond .lt 9, 3) := by decide +kernel
theorem dX8_globe_9 : decode cX8_globe 9 = .ok (.iload_n 1, 1) := by decide +kernel
theorem dX8_globe_10 : decode cX8_globe 10 = .ok (.ldc 75, 2) := by decide +kernel
theorem dX8_globe_12 : decode cX8_globe 12 = .ok (.if_icmp .le 6, 3) := by decide +kernel
theorem dX8_globe_15 : decode cX8_globe 15 = .ok (.bipush (-2), 2) := by decide +kernel
theorem dX8_globe_17 : decode cX8_globe 17 = .ok (.ireturn, 1) := by decide +kernel
theorem dX8_globe_18 : decode cX8_globe 18 = .ok (.aload_n 0, 1) := by decide +kernel
theorem dX8_globe_19 : decode cX8_globe 19 = .ok (.getfield 136, 3) := by decide +kernel
theorem dX8_globe_22 : decode cX8_globe 22 = .ok (.istore_n 2, 1) := by decide +kernel
theorem dX8_globe_23 : decode cX8_globe 23 = .ok (.aload_n 0, 1) := by decide +kernel
theorem dX8_globe_24 : decode cX8_globe 24 = .ok (.iload_n 1, 1) := by decide +kernel
theorem dX8_globe_25 : decode cX8_globe 25 = .ok (.putfield 136, 3) := by decide +kernel
theorem dX8_globe_28 : decode cX8_globe 28 = .ok (.iload_n 2, 1) := by decide +kernel
theorem dX8_globe_29 : decode cX8_globe 29 = .ok (.ireturn, 1) := by decide +kernel
theorem dX8_form_0 : decode cX8_form 0 = .ok (.aload_n 0, 1) := by decide +kernel
theorem dX8_form_1 : decode cX8_form 1 = .ok (.iconst 0, 1) := by decide +kernel
theorem dX8_form_2 : decode cX8_form 2 = .ok (.putfield 72, 3) := by decide +kernel
theorem dX8_form_5 : decode cX8_form 5 = .ok (.iload_n 1, 1) := by decide +kernel
theorem dX8_form_6 : decode cX8_form 6 = .ok (.ifCond .lt 10, 3) := by decide +kernel
theorem dX8_form_9 : decode cX8_form 9 = .ok (.iload_n 1, 1) := by decide +kernel
theorem dX8_form_10 : decode cX8_form 10 = .ok (.sipush 255, 3) := by decide +kernel
theorem dX8_form_13 : decode cX8_form 13 = .ok (.if_icmp .le 6, 3) := by decide +kernel
theorem dX8_form_16 : decode cX8_form 16 = .ok (.bipush (-2), 2) := by decide +kernel
theorem dX8_form_18 : decode cX8_form 18 = .ok (.ireturn, 1) := by decide +kernel
theorem dX8_form_19 : decode cX8_form 19 = .ok (.aload_n 0, 1) := by decide +kernel
theorem dX8_form_20 : decode cX8_form 20 = .ok (.getfield 13, 3) := by decide +kernel
theorem dX8_form_23 : decode cX8_form 23 = .ok (.istore_n 2, 1) := by decide +kernel
theorem dX8_form_24 : decode cX8_form 24 = .ok (.aload_n 0, 1) := by decide +kernel
theorem dX8_form_25 : decode cX8_form 25 = .ok (.iload_n 1, 1) := by decide +kernel
theorem dX8_form_26 : decode cX8_form 26 = .ok (.putfield 13, 3) := by decide +kernel
theorem dX8_form_29 : decode cX8_form 29 = .ok (.iload_n 2, 1) := by decide +kernel
theorem dX8_form_30 : decode cX8_form 30 = .ok (.ireturn, 1) := by decide +kernel
theorem dX8_instruction_0 : decode cX8_instruction 0 = .ok (.aload_n 0, 1) := by decide +kernel
theorem dX8_instruction_1 : decode cX8_instruction 1 = .ok (.iconst 0, 1) := by decide +kernel
theorem dX8_instruction_2 : decode cX8_instruction 2 = .ok (.putfield 72, 3) := by decide +kernel
theorem dX8_instruction_5 : decode cX8_instruction 5 = .ok (.iload_n 2, 1) := by decide +kernel
theorem dX8_instruction_6 : decode cX8_instruction 6 = .ok (.sipush (-256), 3) := by decide +kernel
theorem dX8_instruction_9 : decode cX8_instruction 9 = .ok (.if_icmp .lt 55, 3) := by decide +kernel
theorem dX8_instruction_12 : decode cX8_instruction 12 = .ok (.iload_n 2, 1) := by decide +kernel
theorem dX8_instruction_13 : decode cX8_instruction 13 = .ok (.ldc 75, 2) := by decide +kernel
theorem dX8_instruction_15 : decode cX8_instruction 15 = .ok (.if_icmp .gt 49, 3) := by decide +kernel
theorem dX8_instruction_18 : decode cX8_instruction 18 = .ok (.iload_n 3, 1) := by decide +kernel
theorem dX8_instruction_19 : decode cX8_instruction 19 = .ok (.sipush (-256), 3) := by decide +kernel
theorem dX8_instruction_22 : decode cX8_instruction 22 = .ok (.if_icmp .lt 42, 3) := by decide +kernel
theorem dX8_instruction_25 : decode cX8_instruction 25 = .ok (.iload_n 3, 1) := by decide +kernel
theorem dX8_instruction_26 : decode cX8_instruction 26 = .ok (.ldc 75, 2) := by decide +kernel
theorem dX8_instruction_28 : decode cX8_instruction 28 = .ok (.if_icmp .gt 36, 3) := by decide +kernel
theorem dX8_instruction_31 : decode cX8_instruction 31 = .ok (.iload 4, 2) := by decide +kernel
theorem dX8_instruction_33 : decode cX8_instruction 33 = .ok (.sipush (-256), 3) := by decide +kernel
theorem dX8_instruction_36 : decode cX8_instruction 36 = .ok (.if_icmp .lt 28, 3) := by decide +kernel
theorem dX8_instruction_39 : decode cX8_instruction 39 = .ok (.iload 4, 2) := by decide +kernel
theorem dX8_instruction_41 : decode cX8_instruction 41 = .ok (.ldc 75, 2) := by decide +kernel
theorem dX8_instruction_43 : decode cX8_instruction 43 = .ok (.if_icmp .gt 21, 3) := by decide +kernel
theorem dX8_instruction_46 : decode cX8_instruction 46 = .ok (.iload 5, 2) := by decide +kernel
theorem dX8_instruction_48 : decode cX8_instruction 48 = .ok (.iconst (-1), 1) := by decide +kernel
theorem dX8_instruction_49 : decode cX8_instruction 49 = .ok (.if_icmp .lt 15, 3) := by decide +kernel
theorem dX8_instruction_52 : decode cX8_instruction 52 = .ok (.iload 5, 2) := by decide +kernel
theorem dX8_instruction_54 : decode cX8_instruction 54 = .ok (.sipush 255, 3) := by decide +kernel
theorem dX8_instruction_57 : decode cX8_instruction 57 = .ok (.if_icmp .gt 7, 3) := by decide +kernel
theorem dX8_instruction_60 : decode cX8_instruction 60 = .ok (.iconst 1, 1) := by decide +kernel
theorem dX8_instruction_61 : decode cX8_instruction 61 = .ok (.goto 4, 3) := by decide +kernel
theorem dX8_instruction_64 : decode cX8_instruction 64 = .ok (.iconst 0, 1) := by decide +kernel
theorem dX8_instruction_65 : decode cX8_instruction 65 = .ok (.istore 6, 2) := by decide +kernel
theorem dX8_instruction_67 : decode cX8_instruction 67 = .ok (.iload 6, 2) := by decide +kernel
theorem dX8_instruction_69 : decode cX8_instruction 69 = .ok (.ifCond .ne 6, 3) := by decide +kernel
theorem dX8_instruction_72 : decode cX8_instruction 72 = .ok (.bipush (-2), 2) := by decide +kernel
theorem dX8_instruction_74 : decode cX8_instruction 74 = .ok (.ireturn, 1) := by decide +kernel
theorem dX8_instruction_75 : decode cX8_instruction 75 = .ok (.aload_n 0, 1) := by decide +kernel
theorem dX8_instruction_76 : decode cX8_instruction 76 = .ok (.getfield 139, 3) := by decide +kernel
theorem dX8_instruction_79 : decode cX8_instruction 79 = .ok (.bipush 100, 2) := by decide +kernel
theorem dX8_instruction_81 : decode cX8_instruction 81 = .ok (.if_icmp .ne 6, 3) := by decide +kernel
theorem dX8_instruction_84 : decode cX8_instruction 84 = .ok (.bipush (-3), 2) := by decide +kernel
theorem dX8_instruction_86 : decode cX8_instruction 86 = .ok (.ireturn, 1) := by decide +kernel
theorem dX8_instruction_87 : decode cX8_instruction 87 = .ok (.aload_n 0, 1) := by decide +kernel
theorem dX8_instruction_88 : decode cX8_instruction 88 = .ok (.getfield 26, 3) := by decide +kernel
theorem dX8_instruction_91 : decode cX8_instruction 91 = .ok (.aload_n 0, 1) := by decide +kernel
theorem dX8_instruction_92 : decode cX8_instruction 92 = .ok (.getfield 139, 3) := by decide +kernel
theorem dX8_instruction_95 : decode cX8_instruction 95 = .ok (.iload_n 1, 1) := by decide +kernel
theorem dX8_instruction_96 : decode cX8_instruction 96 = .ok (.iastore, 1) := by decide +kernel
theorem dX8_instruction_97 : decode cX8_instruction 97 = .ok (.aload_n 0, 1) := by decide +kernel
theorem dX8_instruction_98 : decode cX8_instruction 98 = .ok (.getfield 29, 3) := by decide +kernel
theorem dX8_instruction_101 : decode cX8_instruction 101 = .ok (.iconst 3, 1) := by decide +kernel
theorem dX8_instruction_102 : decode cX8_instruction 102 = .ok (.aload_n 0, 1) := by decide +kernel
theorem dX8_instruction_103 : decode cX8_instruction 103 = .ok (.getfield 139, 3) := by decide +kernel
theorem dX8_instruction_106 : decode cX8_instruction 106 = .ok (.imul, 1) := by decide +kernel
theorem dX8_instruction_107 : decode cX8_instruction 107 = .ok (.iload_n 2, 1) := by decide +kernel
theorem dX8_instruction_108 : decode cX8_instruction 108 = .ok (.iastore, 1) := by decide +kernel
theorem dX8_instruction_109 : decode cX8_instruction 109 = .ok (.aload_n 0, 1) := by decide +kernel
theorem dX8_instruction_110 : decode cX8_instruction 110 = .ok (.getfield 29, 3) := by decide +kernel
theorem dX8_instruction_113 : decode cX8_instruction 113 = .ok (.iconst 3, 1) := by decide +kernel
theorem dX8_instruction_114 : decode cX8_instruction 114 = .ok (.aload_n 0, 1) := by decide +kernel
theorem dX8_instruction_115 : decode cX8_instruction 115 = .ok (.getfield 139, 3) := by decide +kernel
theorem dX8_instruction_118 : decode cX8_instruction 118 = .ok (.imul, 1) := by decide +kernel
theorem dX8_instruction_119 : decode cX8_instruction 119 = .ok (.iconst 1, 1) := by decide +kernel
theorem dX8_instruction_120 : decode cX8_instruction 120 = .ok (.iadd, 1) := by decide +kernel
theorem dX8_instruction_121 : decode cX8_instruction 121 = .ok (.iload_n 3, 1) := by decide +kernel
theorem dX8_instruction_122 : decode cX8_instruction 122 = .ok (.iastore, 1) := by decide +kernel
theorem dX8_instruction_123 : decode cX8_instruction 123 = .ok (.aload_n 0, 1) := by decide +kernel
theorem dX8_instruction_124 : decode cX8_instruction 124 = .ok (.getfield 29, 3) := by decide +kernel
theorem dX8_instruction_127 : decode cX8_instruction 127 = .ok (.iconst 3, 1) := by decide +kernel
theorem dX8_instruction_128 : decode cX8_instruction 128 = .ok (.aload_n 0, 1) := by decide +kernel
theorem dX8_instruction_129 : decode cX8_instruction 129 = .ok (.getfield 139, 3) := by decide +kernel
theorem dX8_instruction_132 : decode cX8_instruction 132 = .ok (.imul, 1) := by decide +kernel
theorem dX8_instruction_133 : decode cX8_instruction 133 = .ok (.iconst 2, 1) := by decide +kernel
theorem dX8_instruction_134 : decode cX8_instruction 134 = .ok (.iadd, 1) := by decide +kernel
theorem dX8_instruction_135 : decode cX8_instruction 135 = .ok (.iload 4, 2) := by decide +kernel
theorem dX8_instruction_137 : decode cX8_instruction 137 = .ok (.iastore, 1) := by decide +kernel
theorem dX8_instruction_138 : decode cX8_instruction 138 = .ok (.aload_n 0, 1) := by decide +kernel
theorem dX8_instruction_139 : decode cX8_instruction 139 = .ok (.getfield 32, 3) := by decide +kernel
theorem dX8_instruction_142 : decode cX8_instruction 142 = .ok (.aload_n 0, 1) := by decide +kernel
theorem dX8_instruction_143 : decode cX8_instruction 143 = .ok (.getfield 139, 3) := by decide +kernel
theorem dX8_instruction_146 : decode cX8_instruction 146 = .ok (.iload 5, 2) := by decide +kernel
theorem dX8_instruction_148 : decode cX8_instruction 148 = .ok (.iastore, 1) := by decide +kernel
theorem dX8_instruction_149 : decode cX8_instruction 149 = .ok (.aload_n 0, 1) := by decide +kernel
theorem dX8_instruction_150 : decode cX8_instruction 150 = .ok (.dup, 1) := by decide +kernel
theorem dX8_instruction_151 : decode cX8_instruction 151 = .ok (.getfield 139, 3) := by decide +kernel
theorem dX8_instruction_154 : decode cX8_instruction 154 = .ok (.iconst 1, 1) := by decide +kernel
theorem dX8_instruction_155 : decode cX8_instruction 155 = .ok (.iadd, 1) := by decide +kernel
theorem dX8_instruction_156 : decode cX8_instruction 156 = .ok (.putfield 139, 3) := by decide +kernel
theorem dX8_instruction_159 : decode cX8_instruction 159 = .ok (.aload_n 0, 1) := by decide +kernel
theorem dX8_instruction_160 : decode cX8_instruction 160 = .ok (.getfield 139, 3) := by decide +kernel
theorem dX8_instruction_163 : decode cX8_instruction 163 = .ok (.iconst 1, 1) := by decide +kernel
theorem dX8_instruction_164 : decode cX8_instruction 164 = .ok (.isub, 1) := by decide +kernel
theorem dX8_instruction_165 : decode cX8_instruction 165 = .ok (.ireturn, 1) := by decide +kernel
theorem dX8_routine_0 : decode cX8_routine 0 = .ok (.aload_n 0, 1) := by decide +kernel
theorem dX8_routine_1 : decode cX8_routine 1 = .ok (.iconst 0, 1) := by decide +kernel
theorem dX8_routine_2 : decode cX8_routine 2 = .ok (.putfield 72, 3) := by decide +kernel
theorem dX8_routine_5 : decode cX8_routine 5 = .ok (.iload_n 1, 1) := by decide +kernel
theorem dX8_routine_6 : decode cX8_routine 6 = .ok (.ifCond .lt 9, 3) := by decide +kernel
theorem dX8_routine_9 : decode cX8_routine 9 = .ok (.iload_n 1, 1) := by decide +kernel
theorem dX8_routine_10 : decode cX8_routine 10 = .ok (.bipush 7, 2) := by decide +kernel
theorem dX8_routine_12 : decode cX8_routine 12 = .ok (.if_icmp .le 5, 3) := by decide +kernel
theorem dX8_routine_15 : decode cX8_routine 15 = .ok (.iconst (-1), 1) := by decide +kernel
theorem dX8_routine_16 : decode cX8_routine 16 = .ok (.ireturn, 1) := by decide +kernel
theorem dX8_routine_17 : decode cX8_routine 17 = .ok (.iload_n 2, 1) := by decide +kernel
theorem dX8_routine_18 : decode cX8_routine 18 = .ok (.ifCond .lt 19, 3) := by decide +kernel
theorem dX8_routine_21 : decode cX8_routine 21 = .ok (.iload_n 2, 1) := by decide +kernel
theorem dX8_routine_22 : decode cX8_routine 22 = .ok (.bipush 99, 2) := by decide +kernel
theorem dX8_routine_24 : decode cX8_routine 24 = .ok (.if_icmp .gt 13, 3) := by decide +kernel
theorem dX8_routine_27 : decode cX8_routine 27 = .ok (.iload_n 3, 1) := by decide +kernel
theorem dX8_routine_28 : decode cX8_routine 28 = .ok (.ifCond .lt 9, 3) := by decide +kernel
theorem dX8_routine_31 : decode cX8_routine 31 = .ok (.iload_n 3, 1) := by decide +kernel
theorem dX8_routine_32 : decode cX8_routine 32 = .ok (.bipush 15, 2) := by decide +kernel
theorem dX8_routine_34 : decode cX8_routine 34 = .ok (.if_icmp .le 6, 3) := by decide +kernel
theorem dX8_routine_37 : decode cX8_routine 37 = .ok (.bipush (-2), 2) := by decide +kernel
theorem dX8_routine_39 : decode cX8_routine 39 = .ok (.ireturn, 1) := by decide +kernel
theorem dX8_routine_40 : decode cX8_routine 40 = .ok (.aload_n 0, 1) := by decide +kernel
theorem dX8_routine_41 : decode cX8_routine 41 = .ok (.getfield 35, 3) := by decide +kernel
theorem dX8_routine_44 : decode cX8_routine 44 = .ok (.iload_n 1, 1) := by decide +kernel
theorem dX8_routine_45 : decode cX8_routine 45 = .ok (.iconst 1, 1) := by decide +kernel
theorem dX8_routine_46 : decode cX8_routine 46 = .ok (.bastore, 1) := by decide +kernel
theorem dX8_routine_47 : decode cX8_routine 47 = .ok (.aload_n 0, 1) := by decide +kernel
theorem dX8_routine_48 : decode cX8_routine 48 = .ok (.getfield 39, 3) := by decide +kernel
theorem dX8_routine_51 : decode cX8_routine 51 = .ok (.iload_n 1, 1) := by decide +kernel
theorem dX8_routine_52 : decode cX8_routine 52 = .ok (.iload_n 2, 1) := by decide +kernel
theorem dX8_routine_53 : decode cX8_routine 53 = .ok (.iastore, 1) := by decide +kernel
theorem dX8_routine_54 : decode cX8_routine 54 = .ok (.aload_n 0, 1) := by decide +kernel
theorem dX8_routine_55 : decode cX8_routine 55 = .ok (.getfield 42, 3) := by decide +kernel
theorem dX8_routine_58 : decode cX8_routine 58 = .ok (.iload_n 1, 1) := by decide +kernel
theorem dX8_routine_59 : decode cX8_routine 59 = .ok (.iload_n 3, 1) := by decide +kernel
theorem dX8_routine_60 : decode cX8_routine 60 = .ok (.iastore, 1) := by decide +kernel
theorem dX8_routine_61 : decode cX8_routine 61 = .ok (.aload_n 0, 1) := by decide +kernel
theorem dX8_routine_62 : decode cX8_routine 62 = .ok (.getfield 45, 3) := by decide +kernel
theorem dX8_routine_65 : decode cX8_routine 65 = .ok (.iload_n 1, 1) := by decide +kernel
theorem dX8_routine_66 : decode cX8_routine 66 = .ok (.iload 4, 2) := by decide +kernel
theorem dX8_routine_68 : decode cX8_routine 68 = .ok (.bastore, 1) := by decide +kernel
theorem dX8_routine_69 : decode cX8_routine 69 = .ok (.iconst 1, 1) := by decide +kernel
theorem dX8_routine_70 : decode cX8_routine 70 = .ok (.ireturn, 1) := by decide +kernel
theorem dX8_clear_0 : decode cX8_clear 0 = .ok (.aload_n 0, 1) := by decide +kernel
theorem dX8_clear_1 : decode cX8_clear 1 = .ok (.iconst 0, 1) := by decide +kernel
theorem dX8_clear_2 : decode cX8_clear 2 = .ok (.putfield 72, 3) := by decide +kernel
theorem dX8_clear_5 : decode cX8_clear 5 = .ok (.aload_n 0, 1) := by decide +kernel
theorem dX8_clear_6 : decode cX8_clear 6 = .ok (.getfield 139, 3) := by decide +kernel
theorem dX8_clear_9 : decode cX8_clear 9 = .ok (.istore_n 1, 1) := by decide +kernel
theorem dX8_clear_10 : decode cX8_clear 10 = .ok (.aload_n 0, 1) := by decide +kernel
theorem dX8_clear_11 : decode cX8_clear 11 = .ok (.iconst 0, 1) := by decide +kernel
theorem dX8_clear_12 : decode cX8_clear 12 = .ok (.putfield 139, 3) := by decide +kernel
theorem dX8_clear_15 : decode cX8_clear 15 = .ok (.iconst 0, 1) := by decide +kernel
theorem dX8_clear_16 : decode cX8_clear 16 = .ok (.istore_n 2, 1) := by decide +kernel
theorem dX8_clear_17 : decode cX8_clear 17 = .ok (.iload_n 2, 1) := by decide +kernel
theorem dX8_clear_18 : decode cX8_clear 18 = .ok (.bipush 8, 2) := by decide +kernel
theorem dX8_clear_20 : decode cX8_clear 20 = .ok (.if_icmp .ge 16, 3) := by decide +kernel
theorem dX8_clear_23 : decode cX8_clear 23 = .ok (.aload_n 0, 1) := by decide +kernel
theorem dX8_clear_24 : decode cX8_clear 24 = .ok (.getfield 35, 3) := by decide +kernel
theorem dX8_clear_27 : decode cX8_clear 27 = .ok (.iload_n 2, 1) := by decide +kernel
theorem dX8_clear_28 : decode cX8_clear 28 = .ok (.iconst 0, 1) := by decide +kernel
theorem dX8_clear_29 : decode cX8_clear 29 = .ok (.bastore, 1) := by decide +kernel
theorem dX8_clear_30 : decode cX8_clear 30 = .ok (.iinc 2 1, 3) := by decide +kernel
theorem dX8_clear_33 : decode cX8_clear 33 = .ok (.goto (-16), 3) := by decide +kernel
theorem dX8_clear_36 : decode cX8_clear 36 = .ok (.iload_n 1, 1) := by decide +kernel
theorem dX8_clear_37 : decode cX8_clear 37 = .ok (.ireturn, 1) := by decide +kernel
theorem dX8_top_0 : decode cX8_top 0 = .ok (.aload_n 0, 1) := by decide +kernel
theorem dX8_top_1 : decode cX8_top 1 = .ok (.getfield 142, 3) := by decide +kernel
theorem dX8_top_4 : decode cX8_top 4 = .ok (.iconst 1, 1) := by decide +kernel
theorem dX8_top_5 : decode cX8_top 5 = .ok (.isub, 1) := by decide +kernel
theorem dX8_top_6 : decode cX8_top 6 = .ok (.ireturn, 1) := by decide +kernel
theorem dX8_pop_0 : decode cX8_pop 0 = .ok (.aload_n 0, 1) := by decide +kernel
theorem dX8_pop_1 : decode cX8_pop 1 = .ok (.getfield 145, 3) := by decide +kernel
theorem dX8_pop_4 : decode cX8_pop 4 = .ok (.aload_n 0, 1) := by decide +kernel
theorem dX8_pop_5 : decode cX8_pop 5 = .ok (.getfield 57, 3) := by decide +kernel
theorem dX8_pop_8 : decode cX8_pop 8 = .ok (.aload_n 0, 1) := by decide +kernel
theorem dX8_pop_9 : decode cX8_pop 9 = .ok (.invokevirtual 148, 3) := by decide +kernel
theorem dX8_pop_12 : decode cX8_pop 12 = .ok (.iaload, 1) := by decide +kernel
theorem dX8_pop_13 : decode cX8_pop 13 = .ok (.if_icmp .ne 10, 3) := by decide +kernel
theorem dX8_pop_16 : decode cX8_pop 16 = .ok (.aload_n 0, 1) := by decide +kernel
theorem dX8_pop_17 : decode cX8_pop 17 = .ok (.iconst 4, 1) := by decide +kernel
theorem dX8_pop_18 : decode cX8_pop 18 = .ok (.putfield 81, 3) := by decide +kernel
theorem dX8_pop_21 : decode cX8_pop 21 = .ok (.iconst 0, 1) := by decide +kernel
theorem dX8_pop_22 : decode cX8_pop 22 = .ok (.ireturn, 1) := by decide +kernel
theorem dX8_pop_23 : decode cX8_pop 23 = .ok (.aload_n 0, 1) := by decide +kernel
theorem dX8_pop_24 : decode cX8_pop 24 = .ok (.dup, 1) := by decide +kernel
theorem dX8_pop_25 : decode cX8_pop 25 = .ok (.getfield 145, 3) := by decide +kernel
theorem dX8_pop_28 : decode cX8_pop 28 = .ok (.iconst 1, 1) := by decide +kernel
theorem dX8_pop_29 : decode cX8_pop 29 = .ok (.isub, 1) := by decide +kernel
theorem dX8_pop_30 : decode cX8_pop 30 = .ok (.putfield 145, 3) := by decide +kernel
theorem dX8_pop_33 : decode cX8_pop 33 = .ok (.aload_n 0, 1) := by decide +kernel
theorem dX8_pop_34 : decode cX8_pop 34 = .ok (.getfield 63, 3) := by decide +kernel
theorem dX8_pop_37 : decode cX8_pop 37 = .ok (.aload_n 0, 1) := by decide +kernel
theorem dX8_pop_38 : decode cX8_pop 38 = .ok (.getfield 145, 3) := by decide +kernel
theorem dX8_pop_41 : decode cX8_pop 41 = .ok (.iaload, 1) := by decide +kernel
theorem dX8_pop_42 : decode cX8_pop 42 = .ok (.ireturn, 1) := by decide +kernel
theorem dX8_push_0 : decode cX8_push 0 = .ok (.aload_n 0, 1) := by decide +kernel
theorem dX8_push_1 : decode cX8_push 1 = .ok (.getfield 145, 3) := by decide +kernel
theorem dX8_push_4 : decode cX8_push 4 = .ok (.bipush 100, 2) := by decide +kernel
theorem dX8_push_6 : decode cX8_push 6 = .ok (.if_icmp .ne 9, 3) := by decide +kernel
theorem dX8_push_9 : decode cX8_push 9 = .ok (.aload_n 0, 1) := by decide +kernel
theorem dX8_push_10 : decode cX8_push 10 = .ok (.iconst 5, 1) := by decide +kernel
theorem dX8_push_11 : decode cX8_push 11 = .ok (.putfield 81, 3) := by decide +kernel
theorem dX8_push_14 : decode cX8_push 14 = .ok (.return_, 1) := by decide +kernel
theorem dX8_push_15 : decode cX8_push 15 = .ok (.aload_n 0, 1) := by decide +kernel
theorem dX8_push_16 : decode cX8_push 16 = .ok (.getfield 63, 3) := by decide +kernel
theorem dX8_push_19 : decode cX8_push 19 = .ok (.aload_n 0, 1) := by decide +kernel
theorem dX8_push_20 : decode cX8_push 20 = .ok (.getfield 145, 3) := by decide +kernel
theorem dX8_push_23 : decode cX8_push 23 = .ok (.iload_n 1, 1) := by decide +kernel
theorem dX8_push_24 : decode cX8_push 24 = .ok (.ldc 75, 2) := by decide +kernel
theorem dX8_push_26 : decode cX8_push 26 = .ok (.iand, 1) := by decide +kernel
theorem dX8_push_27 : decode cX8_push 27 = .ok (.iastore, 1) := by decide +kernel
theorem dX8_push_28 : decode cX8_push 28 = .ok (.aload_n 0, 1) := by decide +kernel
theorem dX8_push_29 : decode cX8_push 29 = .ok (.dup, 1) := by decide +kernel
theorem dX8_push_30 : decode cX8_push 30 = .ok (.getfield 145, 3) := by decide +kernel
theorem dX8_push_33 : decode cX8_push 33 = .ok (.iconst 1, 1) := by decide +kernel
theorem dX8_push_34 : decode cX8_push 34 = .ok (.iadd, 1) := by decide +kernel
theorem dX8_push_35 : decode cX8_push 35 = .ok (.putfield 145, 3) := by decide +kernel
theorem dX8_push_38 : decode cX8_push 38 = .ok (.return_, 1) := by decide +kernel
theorem dX8_isLocal_0 : decode cX8_isLocal 0 = .ok (.iload_n 1, 1) := by decide +kernel
theorem dX8_isLocal_1 : decode cX8_isLocal 1 = .ok (.aload_n 0, 1) := by decide +kernel
theorem dX8_isLocal_2 : decode cX8_isLocal 2 = .ok (.getfield 42, 3) := by decide +kernel
theorem dX8_isLocal_5 : decode cX8_isLocal 5 = .ok (.aload_n 0, 1) := by decide +kernel
theorem dX8_isLocal_6 : decode cX8_isLocal 6 = .ok (.getfield 48, 3) := by decide +kernel
theorem dX8_isLocal_9 : decode cX8_isLocal 9 = .ok (.aload_n 0, 1) := by decide +kernel
theorem dX8_isLocal_10 : decode cX8_isLocal 10 = .ok (.invokevirtual 148, 3) := by decide +kernel
theorem dX8_isLocal_13 : decode cX8_isLocal 13 = .ok (.iaload, 1) := by decide +kernel
theorem dX8_isLocal_14 : decode cX8_isLocal 14 = .ok (.iaload, 1) := by decide +kernel
theorem dX8_isLocal_15 : decode cX8_isLocal 15 = .ok (.if_icmp .le 11, 3) := by decide +kernel
theorem dX8_isLocal_18 : decode cX8_isLocal 18 = .ok (.aload_n 0, 1) := by decide +kernel
theorem dX8_isLocal_19 : decode cX8_isLocal 19 = .ok (.bipush 7, 2) := by decide +kernel
theorem dX8_isLocal_21 : decode cX8_isLocal 21 = .ok (.putfield 81, 3) := by decide +kernel
theorem dX8_isLocal_24 : decode cX8_isLocal 24 = .ok (.iconst 0, 1) := by decide +kernel
theorem dX8_isLocal_25 : decode cX8_isLocal 25 = .ok (.ireturn, 1) := by decide +kernel
theorem dX8_isLocal_26 : decode cX8_isLocal 26 = .ok (.iconst 1, 1) := by decide +kernel
theorem dX8_isLocal_27 : decode cX8_isLocal 27 = .ok (.ireturn, 1) := by decide +kernel
theorem dX8_ask_0 : decode cX8_ask 0 = .ok (.iload_n 1, 1) := by decide +kernel
theorem dX8_ask_1 : decode cX8_ask 1 = .ok (.ifCond .ne 8, 3) := by decide +kernel
theorem dX8_ask_4 : decode cX8_ask 4 = .ok (.aload_n 0, 1) := by decide +kernel
theorem dX8_ask_5 : decode cX8_ask 5 = .ok (.invokevirtual 152, 3) := by decide +kernel
theorem dX8_ask_8 : decode cX8_ask 8 = .ok (.ireturn, 1) := by decide +kernel
theorem dX8_ask_9 : decode cX8_ask 9 = .ok (.iload_n 1, 1) := by decide +kernel
theorem dX8_ask_10 : decode cX8_ask 10 = .ok (.bipush 16, 2) := by decide +kernel
theorem dX8_ask_12 : decode cX8_ask 12 = .ok (.if_icmp .ge 32, 3) := by decide +kernel
theorem dX8_ask_15 : decode cX8_ask 15 = .ok (.aload_n 0, 1) := by decide +kernel
theorem dX8_ask_16 : decode cX8_ask 16 = .ok (.iload_n 1, 1) := by decide +kernel
theorem dX8_ask_17 : decode cX8_ask 17 = .ok (.invokevirtual 155, 3) := by decide +kernel
theorem dX8_ask_20 : decode cX8_ask 20 = .ok (.ifCond .eq 22, 3) := by decide +kernel
theorem dX8_ask_23 : decode cX8_ask 23 = .ok (.aload_n 0, 1) := by decide +kernel
theorem dX8_ask_24 : decode cX8_ask 24 = .ok (.getfield 60, 3) := by decide +kernel
theorem dX8_ask_27 : decode cX8_ask 27 = .ok (.bipush 15, 2) := by decide +kernel
theorem dX8_ask_29 : decode cX8_ask 29 = .ok (.aload_n 0, 1) := by decide +kernel
theorem dX8_ask_30 : decode cX8_ask 30 = .ok (.invokevirtual 148, 3) := by decide +kernel
theorem dX8_ask_33 : decode cX8_ask 33 = .ok (.imul, 1) := by decide +kernel
theorem dX8_ask_34 : decode cX8_ask 34 = .ok (.iload_n 1, 1) := by decide +kernel
theorem dX8_ask_35 : decode cX8_ask 35 = .ok (.iadd, 1) := by decide +kernel
theorem dX8_ask_36 : decode cX8_ask 36 = .ok (.iconst 1, 1) := by decide +kernel
theorem dX8_ask_37 : decode cX8_ask 37 = .ok (.isub, 1) := by decide +kernel
theorem dX8_ask_38 : decode cX8_ask 38 = .ok (.iaload, 1) := by decide +kernel
theorem dX8_ask_39 : decode cX8_ask 39 = .ok (.goto 4, 3) := by decide +kernel
theorem dX8_ask_42 : decode cX8_ask 42 = .ok (.iconst 0, 1) := by decide +kernel
theorem dX8_ask_43 : decode cX8_ask 43 = .ok (.ireturn, 1) := by decide +kernel
theorem dX8_ask_44 : decode cX8_ask 44 = .ok (.aload_n 0, 1) := by decide +kernel
theorem dX8_ask_45 : decode cX8_ask 45 = .ok (.aload_n 0, 1) := by decide +kernel
theorem dX8_ask_46 : decode cX8_ask 46 = .ok (.getfield 136, 3) := by decide +kernel
theorem dX8_ask_49 : decode cX8_ask 49 = .ok (.iconst 2, 1) := by decide +kernel
theorem dX8_ask_50 : decode cX8_ask 50 = .ok (.iload_n 1, 1) := by decide +kernel
theorem dX8_ask_51 : decode cX8_ask 51 = .ok (.bipush 16, 2) := by decide +kernel
theorem dX8_ask_53 : decode cX8_ask 53 = .ok (.isub, 1) := by decide +kernel
theorem dX8_ask_54 : decode cX8_ask 54 = .ok (.imul, 1) := by decide +kernel
theorem dX8_ask_55 : decode cX8_ask 55 = .ok (.iadd, 1) := by decide +kernel
theorem dX8_ask_56 : decode cX8_ask 56 = .ok (.iconst 1, 1) := by decide +kernel
theorem dX8_ask_57 : decode cX8_ask 57 = .ok (.invokevirtual 91, 3) := by decide +kernel
theorem dX8_ask_60 : decode cX8_ask 60 = .ok (.ireturn, 1) := by decide +kernel
theorem dX8_set_0 : decode cX8_set 0 = .ok (.iload_n 1, 1) := by decide +kernel
theorem dX8_set_1 : decode cX8_set 1 = .ok (.ifCond .ne 11, 3) := by decide +kernel
theorem dX8_set_4 : decode cX8_set 4 = .ok (.aload_n 0, 1) := by decide +kernel
theorem dX8_set_5 : decode cX8_set 5 = .ok (.iload_n 2, 1) := by decide +kernel
theorem dX8_set_6 : decode cX8_set 6 = .ok (.invokevirtual 159, 3) := by decide +kernel
theorem dX8_set_9 : decode cX8_set 9 = .ok (.goto 58, 3) := by decide +kernel
theorem dX8_set_12 : decode cX8_set 12 = .ok (.iload_n 1, 1) := by decide +kernel
theorem dX8_set_13 : decode cX8_set 13 = .ok (.bipush 16, 2) := by decide +kernel
theorem dX8_set_15 : decode cX8_set 15 = .ok (.if_icmp .ge 34, 3) := by decide +kernel
theorem dX8_set_18 : decode cX8_set 18 = .ok (.aload_n 0, 1) := by decide +kernel
theorem dX8_set_19 : decode cX8_set 19 = .ok (.iload_n 1, 1) := by decide +kernel
theorem dX8_set_20 : decode cX8_set 20 = .ok (.invokevirtual 155, 3) := by decide +kernel
theorem dX8_set_23 : decode cX8_set 23 = .ok (.ifCond .eq 44, 3) := by decide +kernel
theorem dX8_set_26 : decode cX8_set 26 = .ok (.aload_n 0, 1) := by decide +kernel
theorem dX8_set_27 : decode cX8_set 27 = .ok (.getfield 60, 3) := by decide +kernel
theorem dX8_set_30 : decode cX8_set 30 = .ok (.bipush 15, 2) := by decide +kernel
theorem dX8_set_32 : decode cX8_set 32 = .ok (.aload_n 0, 1) := by decide +kernel
theorem dX8_set_33 : decode cX8_set 33 = .ok (.invokevirtual 148, 3) := by decide +kernel
theorem dX8_set_36 : decode cX8_set 36 = .ok (.imul, 1) := by decide +kernel
theorem dX8_set_37 : decode cX8_set 37 = .ok (.iload_n 1, 1) := by decide +kernel
theorem dX8_set_38 : decode cX8_set 38 = .ok (.iadd, 1) := by decide +kernel
theorem dX8_set_39 : decode cX8_set 39 = .ok (.iconst 1, 1) := by decide +kernel
theorem dX8_set_40 : decode cX8_set 40 = .ok (.isub, 1) := by decide +kernel
theorem dX8_set_41 : decode cX8_set 41 = .ok (.iload_n 2, 1) := by decide +kernel
theorem dX8_set_42 : decode cX8_set 42 = .ok (.ldc 75, 2) := by decide +kernel
theorem dX8_set_44 : decode cX8_set 44 = .ok (.iand, 1) := by decide +kernel
theorem dX8_set_45 : decode cX8_set 45 = .ok (.iastore, 1) := by decide +kernel
theorem dX8_set_46 : decode cX8_set 46 = .ok (.goto 21, 3) := by decide +kernel
theorem dX8_set_49 : decode cX8_set 49 = .ok (.aload_n 0, 1) := by decide +kernel
theorem dX8_set_50 : decode cX8_set 50 = .ok (.aload_n 0, 1) := by decide +kernel
theorem dX8_set_51 : decode cX8_set 51 = .ok (.getfield 136, 3) := by decide +kernel
theorem dX8_set_54 : decode cX8_set 54 = .ok (.iconst 2, 1) := by decide +kernel
theorem dX8_set_55 : decode cX8_set 55 = .ok (.iload_n 1, 1) := by decide +kernel
theorem dX8_set_56 : decode cX8_set 56 = .ok (.bipush 16, 2) := by decide +kernel
theorem dX8_set_58 : decode cX8_set 58 = .ok (.isub, 1) := by decide +kernel
theorem dX8_set_59 : decode cX8_set 59 = .ok (.imul, 1) := by decide +kernel
theorem dX8_set_60 : decode cX8_set 60 = .ok (.iadd, 1) := by decide +kernel
theorem dX8_set_61 : decode cX8_set 61 = .ok (.iload_n 2, 1) := by decide +kernel
theorem dX8_set_62 : decode cX8_set 62 = .ok (.iconst 1, 1) := by decide +kernel
theorem dX8_set_63 : decode cX8_set 63 = .ok (.iconst 0, 1) := by decide +kernel
theorem dX8_set_64 : decode cX8_set 64 = .ok (.invokevirtual 95, 3) := by decide +kernel
theorem dX8_set_67 : decode cX8_set 67 = .ok (.return_, 1) := by decide +kernel
theorem dX8_more_0 : decode cX8_more 0 = .ok (.iload_n 1, 1) := by decide +kernel
theorem dX8_more_1 : decode cX8_more 1 = .ok (.ifCond .ne 55, 3) := by decide +kernel
theorem dX8_more_4 : decode cX8_more 4 = .ok (.aload_n 0, 1) := by decide +kernel
theorem dX8_more_5 : decode cX8_more 5 = .ok (.getfield 145, 3) := by decide +kernel
theorem dX8_more_8 : decode cX8_more 8 = .ok (.aload_n 0, 1) := by decide +kernel
theorem dX8_more_9 : decode cX8_more 9 = .ok (.getfield 57, 3) := by decide +kernel
theorem dX8_more_12 : decode cX8_more 12 = .ok (.aload_n 0, 1) := by decide +kernel
theorem dX8_more_13 : decode cX8_more 13 = .ok (.invokevirtual 148, 3) := by decide +kernel
theorem dX8_more_16 : decode cX8_more 16 = .ok (.iaload, 1) := by decide +kernel
theorem dX8_more_17 : decode cX8_more 17 = .ok (.if_icmp .ne 11, 3) := by decide +kernel
theorem dX8_more_20 : decode cX8_more 20 = .ok (.aload_n 0, 1) := by decide +kernel
theorem dX8_more_21 : decode cX8_more 21 = .ok (.iconst 4, 1) := by decide +kernel
theorem dX8_more_22 : decode cX8_more 22 = .ok (.putfield 81, 3) := by decide +kernel
theorem dX8_more_25 : decode cX8_more 25 = .ok (.goto 30, 3) := by decide +kernel
theorem dX8_more_28 : decode cX8_more 28 = .ok (.aload_n 0, 1) := by decide +kernel
theorem dX8_more_29 : decode cX8_more 29 = .ok (.getfield 63, 3) := by decide +kernel
theorem dX8_more_32 : decode cX8_more 32 = .ok (.aload_n 0, 1) := by decide +kernel
theorem dX8_more_33 : decode cX8_more 33 = .ok (.getfield 145, 3) := by decide +kernel
theorem dX8_more_36 : decode cX8_more 36 = .ok (.iconst 1, 1) := by decide +kernel
theorem dX8_more_37 : decode cX8_more 37 = .ok (.isub, 1) := by decide +kernel
theorem dX8_more_38 : decode cX8_more 38 = .ok (.aload_n 0, 1) := by decide +kernel
theorem dX8_more_39 : decode cX8_more 39 = .ok (.getfield 63, 3) := by decide +kernel
theorem dX8_more_42 : decode cX8_more 42 = .ok (.aload_n 0, 1) := by decide +kernel
theorem dX8_more_43 : decode cX8_more 43 = .ok (.getfield 145, 3) := by decide +kernel
theorem dX8_more_46 : decode cX8_more 46 = .ok (.iconst 1, 1) := by decide +kernel
theorem dX8_more_47 : decode cX8_more 47 = .ok (.isub, 1) := by decide +kernel
theorem dX8_more_48 : decode cX8_more 48 = .ok (.iaload, 1) := by decide +kernel
theorem dX8_more_49 : decode cX8_more 49 = .ok (.iload_n 2, 1) := by decide +kernel
theorem dX8_more_50 : decode cX8_more 50 = .ok (.iadd, 1) := by decide +kernel
theorem dX8_more_51 : decode cX8_more 51 = .ok (.ldc 75, 2) := by decide +kernel
theorem dX8_more_53 : decode cX8_more 53 = .ok (.iand, 1) := by decide +kernel
theorem dX8_more_54 : decode cX8_more 54 = .ok (.iastore, 1) := by decide +kernel
theorem dX8_more_55 : decode cX8_more 55 = .ok (.return_, 1) := by decide +kernel
theorem dX8_more_56 : decode cX8_more 56 = .ok (.aload_n 0, 1) := by decide +kernel
theorem dX8_more_57 : decode cX8_more 57 = .ok (.iload_n 1, 1) := by decide +kernel
theorem dX8_more_58 : decode cX8_more 58 = .ok (.invokevirtual 163, 3) := by decide +kernel
theorem dX8_more_61 : decode cX8_more 61 = .ok (.istore_n 3, 1) := by decide +kernel
theorem dX8_more_62 : decode cX8_more 62 = .ok (.aload_n 0, 1) := by decide +kernel
theorem dX8_more_63 : decode cX8_more 63 = .ok (.getfield 81, 3) := by decide +kernel
theorem dX8_more_66 : decode cX8_more 66 = .ok (.ifCond .ne 11, 3) := by decide +kernel
theorem dX8_more_69 : decode cX8_more 69 = .ok (.aload_n 0, 1) := by decide +kernel
theorem dX8_more_70 : decode cX8_more 70 = .ok (.iload_n 1, 1) := by decide +kernel
theorem dX8_more_71 : decode cX8_more 71 = .ok (.iload_n 3, 1) := by decide +kernel
theorem dX8_more_72 : decode cX8_more 72 = .ok (.iload_n 2, 1) := by decide +kernel
theorem dX8_more_73 : decode cX8_more 73 = .ok (.iadd, 1) := by decide +kernel
theorem dX8_more_74 : decode cX8_more 74 = .ok (.invokevirtual 166, 3) := by decide +kernel
theorem dX8_more_77 : decode cX8_more 77 = .ok (.return_, 1) := by decide +kernel
theorem dX8_wants_0 : decode cX8_wants 0 = .ok (.iload_n 0, 1) := by decide +kernel
theorem dX8_wants_1 : decode cX8_wants 1 = .ok (.tableswitch 125 7 32 #[119, 125, 125, 123, 123, 123, 119, 119, 119, 125, 125, 123, 123, 123, 119, 119, 119, 121, 125, 123, 123, 119, 119, 119, 123, 121], 119) := by decide +kernel
theorem dX8_wants_120 : decode cX8_wants 120 = .ok (.iconst 1, 1) := by decide +kernel
theorem dX8_wants_121 : decode cX8_wants 121 = .ok (.ireturn, 1) := by decide +kernel
theorem dX8_wants_122 : decode cX8_wants 122 = .ok (.iconst 0, 1) := by decide +kernel
theorem dX8_wants_123 : decode cX8_wants 123 = .ok (.ireturn, 1) := by decide +kernel
theorem dX8_wants_124 : decode cX8_wants 124 = .ok (.iconst 3, 1) := by decide +kernel
theorem dX8_wants_125 : decode cX8_wants 125 = .ok (.ireturn, 1) := by decide +kernel
theorem dX8_wants_126 : decode cX8_wants 126 = .ok (.iconst 2, 1) := by decide +kernel
theorem dX8_wants_127 : decode cX8_wants 127 = .ok (.ireturn, 1) := by decide +kernel
theorem dX8_print_0 : decode cX8_print 0 = .ok (.aload_n 0, 1) := by decide +kernel
theorem dX8_print_1 : decode cX8_print 1 = .ok (.getfield 170, 3) := by decide +kernel
theorem dX8_print_4 : decode cX8_print 4 = .ok (.bipush 120, 2) := by decide +kernel
theorem dX8_print_6 : decode cX8_print 6 = .ok (.if_icmp .ne 10, 3) := by decide +kernel
theorem dX8_print_9 : decode cX8_print 9 = .ok (.aload_n 0, 1) := by decide +kernel
theorem dX8_print_10 : decode cX8_print 10 = .ok (.bipush 11, 2) := by decide +kernel
theorem dX8_print_12 : decode cX8_print 12 = .ok (.putfield 81, 3) := by decide +kernel
theorem dX8_print_15 : decode cX8_print 15 = .ok (.return_, 1) := by decide +kernel
theorem dX8_print_16 : decode cX8_print 16 = .ok (.aload_n 0, 1) := by decide +kernel
theorem dX8_print_17 : decode cX8_print 17 = .ok (.getfield 66, 3) := by decide +kernel
theorem dX8_print_20 : decode cX8_print 20 = .ok (.aload_n 0, 1) := by decide +kernel
theorem dX8_print_21 : decode cX8_print 21 = .ok (.getfield 170, 3) := by decide +kernel
theorem dX8_print_24 : decode cX8_print 24 = .ok (.iload_n 1, 1) := by decide +kernel
theorem dX8_print_25 : decode cX8_print 25 = .ok (.sipush 255, 3) := by decide +kernel
theorem dX8_print_28 : decode cX8_print 28 = .ok (.iand, 1) := by decide +kernel
theorem dX8_print_29 : decode cX8_print 29 = .ok (.iastore, 1) := by decide +kernel
theorem dX8_print_30 : decode cX8_print 30 = .ok (.aload_n 0, 1) := by decide +kernel
theorem dX8_print_31 : decode cX8_print 31 = .ok (.dup, 1) := by decide +kernel
theorem dX8_print_32 : decode cX8_print 32 = .ok (.getfield 170, 3) := by decide +kernel
theorem dX8_print_35 : decode cX8_print 35 = .ok (.iconst 1, 1) := by decide +kernel
theorem dX8_print_36 : decode cX8_print 36 = .ok (.iadd, 1) := by decide +kernel
theorem dX8_print_37 : decode cX8_print 37 = .ok (.putfield 170, 3) := by decide +kernel
theorem dX8_print_40 : decode cX8_print 40 = .ok (.return_, 1) := by decide +kernel
theorem dX8_printNumber_0 : decode cX8_printNumber 0 = .ok (.iload_n 1, 1) := by decide +kernel
theorem dX8_printNumber_1 : decode cX8_printNumber 1 = .ok (.ifCond .ge 9, 3) := by decide +kernel
theorem dX8_printNumber_4 : decode cX8_printNumber 4 = .ok (.aload_n 0, 1) := by decide +kernel
theorem dX8_printNumber_5 : decode cX8_printNumber 5 = .ok (.bipush 45, 2) := by decide +kernel
theorem dX8_printNumber_7 : decode cX8_printNumber 7 = .ok (.invokevirtual 173, 3) := by decide +kernel
theorem dX8_printNumber_10 : decode cX8_printNumber 10 = .ok (.iload_n 1, 1) := by decide +kernel
theorem dX8_printNumber_11 : decode cX8_printNumber 11 = .ok (.ifCond .ge 8, 3) := by decide +kernel
theorem dX8_printNumber_14 : decode cX8_printNumber 14 = .ok (.iload_n 1, 1) := by decide +kernel
theorem dX8_printNumber_15 : decode cX8_printNumber 15 = .ok (.ineg, 1) := by decide +kernel
theorem dX8_printNumber_16 : decode cX8_printNumber 16 = .ok (.goto 4, 3) := by decide +kernel
theorem dX8_printNumber_19 : decode cX8_printNumber 19 = .ok (.iload_n 1, 1) := by decide +kernel
theorem dX8_printNumber_20 : decode cX8_printNumber 20 = .ok (.istore_n 2, 1) := by decide +kernel
theorem dX8_printNumber_21 : decode cX8_printNumber 21 = .ok (.iconst 1, 1) := by decide +kernel
theorem dX8_printNumber_22 : decode cX8_printNumber 22 = .ok (.istore_n 3, 1) := by decide +kernel
theorem dX8_printNumber_23 : decode cX8_printNumber 23 = .ok (.iload_n 2, 1) := by decide +kernel
theorem dX8_printNumber_24 : decode cX8_printNumber 24 = .ok (.iload_n 3, 1) := by decide +kernel
theorem dX8_printNumber_25 : decode cX8_printNumber 25 = .ok (.idiv, 1) := by decide +kernel
theorem dX8_printNumber_26 : decode cX8_printNumber 26 = .ok (.bipush 10, 2) := by decide +kernel
theorem dX8_printNumber_28 : decode cX8_printNumber 28 = .ok (.if_icmp .lt 11, 3) := by decide +kernel
theorem dX8_printNumber_31 : decode cX8_printNumber 31 = .ok (.iload_n 3, 1) := by decide +kernel
theorem dX8_printNumber_32 : decode cX8_printNumber 32 = .ok (.bipush 10, 2) := by decide +kernel
theorem dX8_printNumber_34 : decode cX8_printNumber 34 = .ok (.imul, 1) := by decide +kernel
theorem dX8_printNumber_35 : decode cX8_printNumber 35 = .ok (.istore_n 3, 1) := by decide +kernel
theorem dX8_printNumber_36 : decode cX8_printNumber 36 = .ok (.goto (-13), 3) := by decide +kernel
theorem dX8_printNumber_39 : decode cX8_printNumber 39 = .ok (.iload_n 3, 1) := by decide +kernel
theorem dX8_printNumber_40 : decode cX8_printNumber 40 = .ok (.ifCond .le 31, 3) := by decide +kernel
theorem dX8_printNumber_43 : decode cX8_printNumber 43 = .ok (.aload_n 0, 1) := by decide +kernel
theorem dX8_printNumber_44 : decode cX8_printNumber 44 = .ok (.getfield 81, 3) := by decide +kernel
theorem dX8_printNumber_47 : decode cX8_printNumber 47 = .ok (.ifCond .ne 24, 3) := by decide +kernel
theorem dX8_printNumber_50 : decode cX8_printNumber 50 = .ok (.aload_n 0, 1) := by decide +kernel
theorem dX8_printNumber_51 : decode cX8_printNumber 51 = .ok (.bipush 48, 2) := by decide +kernel
theorem dX8_printNumber_53 : decode cX8_printNumber 53 = .ok (.iload_n 2, 1) := by decide +kernel
theorem dX8_printNumber_54 : decode cX8_printNumber 54 = .ok (.iload_n 3, 1) := by decide +kernel
theorem dX8_printNumber_55 : decode cX8_printNumber 55 = .ok (.idiv, 1) := by decide +kernel
theorem dX8_printNumber_56 : decode cX8_printNumber 56 = .ok (.bipush 10, 2) := by decide +kernel
theorem dX8_printNumber_58 : decode cX8_printNumber 58 = .ok (.irem, 1) := by decide +kernel
theorem dX8_printNumber_59 : decode cX8_printNumber 59 = .ok (.iadd, 1) := by decide +kernel
theorem dX8_printNumber_60 : decode cX8_printNumber 60 = .ok (.invokevirtual 173, 3) := by decide +kernel
theorem dX8_printNumber_63 : decode cX8_printNumber 63 = .ok (.iload_n 3, 1) := by decide +kernel
theorem dX8_printNumber_64 : decode cX8_printNumber 64 = .ok (.bipush 10, 2) := by decide +kernel
theorem dX8_printNumber_66 : decode cX8_printNumber 66 = .ok (.idiv, 1) := by decide +kernel
theorem dX8_printNumber_67 : decode cX8_printNumber 67 = .ok (.istore_n 3, 1) := by decide +kernel
theorem dX8_printNumber_68 : decode cX8_printNumber 68 = .ok (.goto (-29), 3) := by decide +kernel
theorem dX8_printNumber_71 : decode cX8_printNumber 71 = .ok (.return_, 1) := by decide +kernel
theorem dX8_printRows_0 : decode cX8_printRows 0 = .ok (.iconst 0, 1) := by decide +kernel
theorem dX8_printRows_1 : decode cX8_printRows 1 = .ok (.istore 4, 2) := by decide +kernel
theorem dX8_printRows_3 : decode cX8_printRows 3 = .ok (.iload 4, 2) := by decide +kernel
theorem dX8_printRows_5 : decode cX8_printRows 5 = .ok (.iload_n 3, 1) := by decide +kernel
theorem dX8_printRows_6 : decode cX8_printRows 6 = .ok (.if_icmp .ge 82, 3) := by decide +kernel
theorem dX8_printRows_9 : decode cX8_printRows 9 = .ok (.iload_n 2, 1) := by decide +kernel
theorem dX8_printRows_10 : decode cX8_printRows 10 = .ok (.ifCond .lt 78, 3) := by decide +kernel
theorem dX8_printRows_13 : decode cX8_printRows 13 = .ok (.aload_n 0, 1) := by decide +kernel
theorem dX8_printRows_14 : decode cX8_printRows 14 = .ok (.getfield 81, 3) := by decide +kernel
theorem dX8_printRows_17 : decode cX8_printRows 17 = .ok (.ifCond .ne 71, 3) := by decide +kernel
theorem dX8_printRows_20 : decode cX8_printRows 20 = .ok (.iload 4, 2) := by decide +kernel
theorem dX8_printRows_22 : decode cX8_printRows 22 = .ok (.ifCond .le 9, 3) := by decide +kernel
theorem dX8_printRows_25 : decode cX8_printRows 25 = .ok (.aload_n 0, 1) := by decide +kernel
theorem dX8_printRows_26 : decode cX8_printRows 26 = .ok (.bipush 10, 2) := by decide +kernel
theorem dX8_printRows_28 : decode cX8_printRows 28 = .ok (.invokevirtual 173, 3) := by decide +kernel
theorem dX8_printRows_31 : decode cX8_printRows 31 = .ok (.iconst 0, 1) := by decide +kernel
theorem dX8_printRows_32 : decode cX8_printRows 32 = .ok (.istore 5, 2) := by decide +kernel
theorem dX8_printRows_34 : decode cX8_printRows 34 = .ok (.iload 5, 2) := by decide +kernel
theorem dX8_printRows_36 : decode cX8_printRows 36 = .ok (.iload_n 2, 1) := by decide +kernel
theorem dX8_printRows_37 : decode cX8_printRows 37 = .ok (.if_icmp .ge 45, 3) := by decide +kernel
theorem dX8_printRows_40 : decode cX8_printRows 40 = .ok (.aload_n 0, 1) := by decide +kernel
theorem dX8_printRows_41 : decode cX8_printRows 41 = .ok (.getfield 81, 3) := by decide +kernel
theorem dX8_printRows_44 : decode cX8_printRows 44 = .ok (.ifCond .ne 38, 3) := by decide +kernel
theorem dX8_printRows_47 : decode cX8_printRows 47 = .ok (.aload_n 0, 1) := by decide +kernel
theorem dX8_printRows_48 : decode cX8_printRows 48 = .ok (.iload_n 1, 1) := by decide +kernel
theorem dX8_printRows_49 : decode cX8_printRows 49 = .ok (.iload 4, 2) := by decide +kernel
theorem dX8_printRows_51 : decode cX8_printRows 51 = .ok (.iload_n 2, 1) := by decide +kernel
theorem dX8_printRows_52 : decode cX8_printRows 52 = .ok (.imul, 1) := by decide +kernel
theorem dX8_printRows_53 : decode cX8_printRows 53 = .ok (.iadd, 1) := by decide +kernel
theorem dX8_printRows_54 : decode cX8_printRows 54 = .ok (.iload 5, 2) := by decide +kernel
theorem dX8_printRows_56 : decode cX8_printRows 56 = .ok (.iadd, 1) := by decide +kernel
theorem dX8_printRows_57 : decode cX8_printRows 57 = .ok (.iconst 0, 1) := by decide +kernel
theorem dX8_printRows_58 : decode cX8_printRows 58 = .ok (.invokevirtual 91, 3) := by decide +kernel
theorem dX8_printRows_61 : decode cX8_printRows 61 = .ok (.istore 6, 2) := by decide +kernel
theorem dX8_printRows_63 : decode cX8_printRows 63 = .ok (.aload_n 0, 1) := by decide +kernel
theorem dX8_printRows_64 : decode cX8_printRows 64 = .ok (.getfield 81, 3) := by decide +kernel
theorem dX8_printRows_67 : decode cX8_printRows 67 = .ok (.ifCond .ne 9, 3) := by decide +kernel
theorem dX8_printRows_70 : decode cX8_printRows 70 = .ok (.aload_n 0, 1) := by decide +kernel
theorem dX8_printRows_71 : decode cX8_printRows 71 = .ok (.iload 6, 2) := by decide +kernel
theorem dX8_printRows_73 : decode cX8_printRows 73 = .ok (.invokevirtual 173, 3) := by decide +kernel
theorem dX8_printRows_76 : decode cX8_printRows 76 = .ok (.iinc 5 1, 3) := by decide +kernel
theorem dX8_printRows_79 : decode cX8_printRows 79 = .ok (.goto (-45), 3) := by decide +kernel
theorem dX8_printRows_82 : decode cX8_printRows 82 = .ok (.iinc 4 1, 3) := by decide +kernel
theorem dX8_printRows_85 : decode cX8_printRows 85 = .ok (.goto (-82), 3) := by decide +kernel
theorem dX8_printRows_88 : decode cX8_printRows 88 = .ok (.return_, 1) := by decide +kernel
theorem dX8_enter_0 : decode cX8_enter 0 = .ok (.iload_n 1, 1) := by decide +kernel
theorem dX8_enter_1 : decode cX8_enter 1 = .ok (.ifCond .lt 18, 3) := by decide +kernel
theorem dX8_enter_4 : decode cX8_enter 4 = .ok (.iload_n 1, 1) := by decide +kernel
theorem dX8_enter_5 : decode cX8_enter 5 = .ok (.bipush 7, 2) := by decide +kernel
theorem dX8_enter_7 : decode cX8_enter 7 = .ok (.if_icmp .gt 12, 3) := by decide +kernel
theorem dX8_enter_10 : decode cX8_enter 10 = .ok (.aload_n 0, 1) := by decide +kernel
theorem dX8_enter_11 : decode cX8_enter 11 = .ok (.getfield 35, 3) := by decide +kernel
theorem dX8_enter_14 : decode cX8_enter 14 = .ok (.iload_n 1, 1) := by decide +kernel
theorem dX8_enter_15 : decode cX8_enter 15 = .ok (.baload, 1) := by decide +kernel
theorem dX8_enter_16 : decode cX8_enter 16 = .ok (.ifCond .ne 10, 3) := by decide +kernel
theorem dX8_enter_19 : decode cX8_enter 19 = .ok (.aload_n 0, 1) := by decide +kernel
theorem dX8_enter_20 : decode cX8_enter 20 = .ok (.bipush 9, 2) := by decide +kernel
theorem dX8_enter_22 : decode cX8_enter 22 = .ok (.putfield 81, 3) := by decide +kernel
theorem dX8_enter_25 : decode cX8_enter 25 = .ok (.return_, 1) := by decide +kernel
theorem dX8_enter_26 : decode cX8_enter 26 = .ok (.aload_n 0, 1) := by decide +kernel
theorem dX8_enter_27 : decode cX8_enter 27 = .ok (.getfield 142, 3) := by decide +kernel
theorem dX8_enter_30 : decode cX8_enter 30 = .ok (.bipush 12, 2) := by decide +kernel
theorem dX8_enter_32 : decode cX8_enter 32 = .ok (.if_icmp .ne 10, 3) := by decide +kernel
theorem dX8_enter_35 : decode cX8_enter 35 = .ok (.aload_n 0, 1) := by decide +kernel
theorem dX8_enter_36 : decode cX8_enter 36 = .ok (.bipush 6, 2) := by decide +kernel
theorem dX8_enter_38 : decode cX8_enter 38 = .ok (.putfield 81, 3) := by decide +kernel
theorem dX8_enter_41 : decode cX8_enter 41 = .ok (.return_, 1) := by decide +kernel
theorem dX8_enter_42 : decode cX8_enter 42 = .ok (.aload_n 0, 1) := by decide +kernel
theorem dX8_enter_43 : decode cX8_enter 43 = .ok (.getfield 48, 3) := by decide +kernel
theorem dX8_enter_46 : decode cX8_enter 46 = .ok (.aload_n 0, 1) := by decide +kernel
theorem dX8_enter_47 : decode cX8_enter 47 = .ok (.getfield 142, 3) := by decide +kernel
theorem dX8_enter_50 : decode cX8_enter 50 = .ok (.iload_n 1, 1) := by decide +kernel
theorem dX8_enter_51 : decode cX8_enter 51 = .ok (.iastore, 1) := by decide +kernel
theorem dX8_enter_52 : decode cX8_enter 52 = .ok (.aload_n 0, 1) := by decide +kernel
theorem dX8_enter_53 : decode cX8_enter 53 = .ok (.getfield 51, 3) := by decide +kernel
theorem dX8_enter_56 : decode cX8_enter 56 = .ok (.aload_n 0, 1) := by decide +kernel
theorem dX8_enter_57 : decode cX8_enter 57 = .ok (.getfield 142, 3) := by decide +kernel
theorem dX8_enter_60 : decode cX8_enter 60 = .ok (.aload_n 0, 1) := by decide +kernel
theorem dX8_enter_61 : decode cX8_enter 61 = .ok (.getfield 39, 3) := by decide +kernel
theorem dX8_enter_64 : decode cX8_enter 64 = .ok (.iload_n 1, 1) := by decide +kernel
theorem dX8_enter_65 : decode cX8_enter 65 = .ok (.iaload, 1) := by decide +kernel
theorem dX8_enter_66 : decode cX8_enter 66 = .ok (.iastore, 1) := by decide +kernel
theorem dX8_enter_67 : decode cX8_enter 67 = .ok (.aload_n 0, 1) := by decide +kernel
theorem dX8_enter_68 : decode cX8_enter 68 = .ok (.getfield 54, 3) := by decide +kernel
theorem dX8_enter_71 : decode cX8_enter 71 = .ok (.aload_n 0, 1) := by decide +kernel
theorem dX8_enter_72 : decode cX8_enter 72 = .ok (.getfield 142, 3) := by decide +kernel
theorem dX8_enter_75 : decode cX8_enter 75 = .ok (.iload 4, 2) := by decide +kernel
theorem dX8_enter_77 : decode cX8_enter 77 = .ok (.iastore, 1) := by decide +kernel
theorem dX8_enter_78 : decode cX8_enter 78 = .ok (.aload_n 0, 1) := by decide +kernel
theorem dX8_enter_79 : decode cX8_enter 79 = .ok (.getfield 57, 3) := by decide +kernel
theorem dX8_enter_82 : decode cX8_enter 82 = .ok (.aload_n 0, 1) := by decide +kernel
theorem dX8_enter_83 : decode cX8_enter 83 = .ok (.getfield 142, 3) := by decide +kernel
theorem dX8_enter_86 : decode cX8_enter 86 = .ok (.aload_n 0, 1) := by decide +kernel
theorem dX8_enter_87 : decode cX8_enter 87 = .ok (.getfield 145, 3) := by decide +kernel
theorem dX8_enter_90 : decode cX8_enter 90 = .ok (.iastore, 1) := by decide +kernel
theorem dX8_enter_91 : decode cX8_enter 91 = .ok (.iconst 0, 1) := by decide +kernel
theorem dX8_enter_92 : decode cX8_enter 92 = .ok (.istore 5, 2) := by decide +kernel
theorem dX8_enter_94 : decode cX8_enter 94 = .ok (.iload 5, 2) := by decide +kernel
theorem dX8_enter_96 : decode cX8_enter 96 = .ok (.bipush 15, 2) := by decide +kernel
theorem dX8_enter_98 : decode cX8_enter 98 = .ok (.if_icmp .ge 50, 3) := by decide +kernel
theorem dX8_enter_101 : decode cX8_enter 101 = .ok (.aload_n 0, 1) := by decide +kernel
theorem dX8_enter_102 : decode cX8_enter 102 = .ok (.getfield 60, 3) := by decide +kernel
theorem dX8_enter_105 : decode cX8_enter 105 = .ok (.bipush 15, 2) := by decide +kernel
theorem dX8_enter_107 : decode cX8_enter 107 = .ok (.aload_n 0, 1) := by decide +kernel
theorem dX8_enter_108 : decode cX8_enter 108 = .ok (.getfield 142, 3) := by decide +kernel
theorem dX8_enter_111 : decode cX8_enter 111 = .ok (.imul, 1) := by decide +kernel
theorem dX8_enter_112 : decode cX8_enter 112 = .ok (.iload 5, 2) := by decide +kernel
theorem dX8_enter_114 : decode cX8_enter 114 = .ok (.iadd, 1) := by decide +kernel
theorem dX8_enter_115 : decode cX8_enter 115 = .ok (.iload 5, 2) := by decide +kernel
theorem dX8_enter_117 : decode cX8_enter 117 = .ok (.ifCond .ne 10, 3) := by decide +kernel
theorem dX8_enter_120 : decode cX8_enter 120 = .ok (.iload_n 2, 1) := by decide +kernel
theorem dX8_enter_121 : decode cX8_enter 121 = .ok (.ldc 75, 2) := by decide +kernel
theorem dX8_enter_123 : decode cX8_enter 123 = .ok (.iand, 1) := by decide +kernel
theorem dX8_enter_124 : decode cX8_enter 124 = .ok (.goto 17, 3) := by decide +kernel
theorem dX8_enter_127 : decode cX8_enter 127 = .ok (.iload 5, 2) := by decide +kernel
theorem dX8_enter_129 : decode cX8_enter 129 = .ok (.iconst 1, 1) := by decide +kernel
theorem dX8_enter_130 : decode cX8_enter 130 = .ok (.if_icmp .ne 10, 3) := by decide +kernel
theorem dX8_enter_133 : decode cX8_enter 133 = .ok (.iload_n 3, 1) := by decide +kernel
theorem dX8_enter_134 : decode cX8_enter 134 = .ok (.ldc 75, 2) := by decide +kernel
theorem dX8_enter_136 : decode cX8_enter 136 = .ok (.iand, 1) := by decide +kernel
theorem dX8_enter_137 : decode cX8_enter 137 = .ok (.goto 4, 3) := by decide +kernel
theorem dX8_enter_140 : decode cX8_enter 140 = .ok (.iconst 0, 1) := by decide +kernel
theorem dX8_enter_141 : decode cX8_enter 141 = .ok (.iastore, 1) := by decide +kernel
theorem dX8_enter_142 : decode cX8_enter 142 = .ok (.iinc 5 1, 3) := by decide +kernel
theorem dX8_enter_145 : decode cX8_enter 145 = .ok (.goto (-51), 3) := by decide +kernel
theorem dX8_enter_148 : decode cX8_enter 148 = .ok (.aload_n 0, 1) := by decide +kernel
theorem dX8_enter_149 : decode cX8_enter 149 = .ok (.dup, 1) := by decide +kernel
theorem dX8_enter_150 : decode cX8_enter 150 = .ok (.getfield 142, 3) := by decide +kernel
theorem dX8_enter_153 : decode cX8_enter 153 = .ok (.iconst 1, 1) := by decide +kernel
theorem dX8_enter_154 : decode cX8_enter 154 = .ok (.iadd, 1) := by decide +kernel
theorem dX8_enter_155 : decode cX8_enter 155 = .ok (.putfield 142, 3) := by decide +kernel
theorem dX8_enter_158 : decode cX8_enter 158 = .ok (.aload_n 0, 1) := by decide +kernel
theorem dX8_enter_159 : decode cX8_enter 159 = .ok (.aload_n 0, 1) := by decide +kernel
theorem dX8_enter_160 : decode cX8_enter 160 = .ok (.getfield 142, 3) := by decide +kernel
theorem dX8_enter_163 : decode cX8_enter 163 = .ok (.aload_n 0, 1) := by decide +kernel
theorem dX8_enter_164 : decode cX8_enter 164 = .ok (.getfield 176, 3) := by decide +kernel
theorem dX8_enter_167 : decode cX8_enter 167 = .ok (.if_icmp .le 10, 3) := by decide +kernel
theorem dX8_enter_170 : decode cX8_enter 170 = .ok (.aload_n 0, 1) := by decide +kernel
theorem dX8_enter_171 : decode cX8_enter 171 = .ok (.getfield 142, 3) := by decide +kernel
theorem dX8_enter_174 : decode cX8_enter 174 = .ok (.goto 7, 3) := by decide +kernel
theorem dX8_enter_177 : decode cX8_enter 177 = .ok (.aload_n 0, 1) := by decide +kernel
theorem dX8_enter_178 : decode cX8_enter 178 = .ok (.getfield 176, 3) := by decide +kernel
theorem dX8_enter_181 : decode cX8_enter 181 = .ok (.putfield 176, 3) := by decide +kernel
theorem dX8_enter_184 : decode cX8_enter 184 = .ok (.return_, 1) := by decide +kernel
theorem dX8_leave_0 : decode cX8_leave 0 = .ok (.aload_n 0, 1) := by decide +kernel
theorem dX8_leave_1 : decode cX8_leave 1 = .ok (.dup, 1) := by decide +kernel
theorem dX8_leave_2 : decode cX8_leave 2 = .ok (.getfield 142, 3) := by decide +kernel
theorem dX8_leave_5 : decode cX8_leave 5 = .ok (.iconst 1, 1) := by decide +kernel
theorem dX8_leave_6 : decode cX8_leave 6 = .ok (.isub, 1) := by decide +kernel
theorem dX8_leave_7 : decode cX8_leave 7 = .ok (.putfield 142, 3) := by decide +kernel
theorem dX8_leave_10 : decode cX8_leave 10 = .ok (.aload_n 0, 1) := by decide +kernel
theorem dX8_leave_11 : decode cX8_leave 11 = .ok (.aload_n 0, 1) := by decide +kernel
theorem dX8_leave_12 : decode cX8_leave 12 = .ok (.getfield 57, 3) := by decide +kernel
theorem dX8_leave_15 : decode cX8_leave 15 = .ok (.aload_n 0, 1) := by decide +kernel
theorem dX8_leave_16 : decode cX8_leave 16 = .ok (.getfield 142, 3) := by decide +kernel
theorem dX8_leave_19 : decode cX8_leave 19 = .ok (.iaload, 1) := by decide +kernel
theorem dX8_leave_20 : decode cX8_leave 20 = .ok (.putfield 145, 3) := by decide +kernel
theorem dX8_leave_23 : decode cX8_leave 23 = .ok (.aload_n 0, 1) := by decide +kernel
theorem dX8_leave_24 : decode cX8_leave 24 = .ok (.getfield 69, 3) := by decide +kernel
theorem dX8_leave_27 : decode cX8_leave 27 = .ok (.aload_n 0, 1) := by decide +kernel
theorem dX8_leave_28 : decode cX8_leave 28 = .ok (.getfield 48, 3) := by decide +kernel
theorem dX8_leave_31 : decode cX8_leave 31 = .ok (.aload_n 0, 1) := by decide +kernel
theorem dX8_leave_32 : decode cX8_leave 32 = .ok (.getfield 142, 3) := by decide +kernel
theorem dX8_leave_35 : decode cX8_leave 35 = .ok (.iaload, 1) := by decide +kernel
theorem dX8_leave_36 : decode cX8_leave 36 = .ok (.dup2, 1) := by decide +kernel
theorem dX8_leave_37 : decode cX8_leave 37 = .ok (.iaload, 1) := by decide +kernel
theorem dX8_leave_38 : decode cX8_leave 38 = .ok (.iconst 1, 1) := by decide +kernel
theorem dX8_leave_39 : decode cX8_leave 39 = .ok (.iadd, 1) := by decide +kernel
theorem dX8_leave_40 : decode cX8_leave 40 = .ok (.iastore, 1) := by decide +kernel
theorem dX8_leave_41 : decode cX8_leave 41 = .ok (.return_, 1) := by decide +kernel
theorem dX8_back_0 : decode cX8_back 0 = .ok (.aload_n 0, 1) := by decide +kernel
theorem dX8_back_1 : decode cX8_back 1 = .ok (.invokevirtual 179, 3) := by decide +kernel
theorem dX8_back_4 : decode cX8_back 4 = .ok (.aload_n 0, 1) := by decide +kernel
theorem dX8_back_5 : decode cX8_back 5 = .ok (.getfield 142, 3) := by decide +kernel
theorem dX8_back_8 : decode cX8_back 8 = .ok (.ifCond .ne 17, 3) := by decide +kernel
theorem dX8_back_11 : decode cX8_back 11 = .ok (.aload_n 0, 1) := by decide +kernel
theorem dX8_back_12 : decode cX8_back 12 = .ok (.iload_n 1, 1) := by decide +kernel
theorem dX8_back_13 : decode cX8_back 13 = .ok (.invokestatic 99, 3) := by decide +kernel
theorem dX8_back_16 : decode cX8_back 16 = .ok (.putfield 182, 3) := by decide +kernel
theorem dX8_back_19 : decode cX8_back 19 = .ok (.aload_n 0, 1) := by decide +kernel
theorem dX8_back_20 : decode cX8_back 20 = .ok (.iconst 0, 1) := by decide +kernel
theorem dX8_back_21 : decode cX8_back 21 = .ok (.putfield 185, 3) := by decide +kernel
theorem dX8_back_24 : decode cX8_back 24 = .ok (.return_, 1) := by decide +kernel
theorem dX8_back_25 : decode cX8_back 25 = .ok (.aload_n 0, 1) := by decide +kernel
theorem dX8_back_26 : decode cX8_back 26 = .ok (.getfield 54, 3) := by decide +kernel
theorem dX8_back_29 : decode cX8_back 29 = .ok (.aload_n 0, 1) := by decide +kernel
theorem dX8_back_30 : decode cX8_back 30 = .ok (.getfield 142, 3) := by decide +kernel
theorem dX8_back_33 : decode cX8_back 33 = .ok (.iaload, 1) := by decide +kernel
theorem dX8_back_34 : decode cX8_back 34 = .ok (.istore_n 2, 1) := by decide +kernel
theorem dX8_back_35 : decode cX8_back 35 = .ok (.iload_n 2, 1) := by decide +kernel
theorem dX8_back_36 : decode cX8_back 36 = .ok (.ifCond .lt 9, 3) := by decide +kernel
theorem dX8_back_39 : decode cX8_back 39 = .ok (.aload_n 0, 1) := by decide +kernel
theorem dX8_back_40 : decode cX8_back 40 = .ok (.iload_n 2, 1) := by decide +kernel
theorem dX8_back_41 : decode cX8_back 41 = .ok (.iload_n 1, 1) := by decide +kernel
theorem dX8_back_42 : decode cX8_back 42 = .ok (.invokevirtual 166, 3) := by decide +kernel
theorem dX8_back_45 : decode cX8_back 45 = .ok (.return_, 1) := by decide +kernel
theorem dX8_act_0 : decode cX8_act 0 = .ok (.iconst (-1), 1) := by decide +kernel
theorem dX8_act_1 : decode cX8_act 1 = .ok (.istore 6, 2) := by decide +kernel
theorem dX8_act_3 : decode cX8_act 3 = .ok (.iload_n 1, 1) := by decide +kernel
theorem dX8_act_4 : decode cX8_act 4 = .ok (.tableswitch 443 10 32 #[108, 108, 108, 199, 210, 221, 232, 250, 266, 283, 298, 309, 315, 321, 346, 355, 362, 374, 394, 407, 416, 422, 437], 108) := by decide +kernel
theorem dX8_act_112 : decode cX8_act 112 = .ok (.iload_n 1, 1) := by decide +kernel
theorem dX8_act_113 : decode cX8_act 113 = .ok (.bipush 10, 2) := by decide +kernel
theorem dX8_act_115 : decode cX8_act 115 = .ok (.if_icmp .ne 16, 3) := by decide +kernel
theorem dX8_act_118 : decode cX8_act 118 = .ok (.iload_n 2, 1) := by decide +kernel
theorem dX8_act_119 : decode cX8_act 119 = .ok (.iload_n 3, 1) := by decide +kernel
theorem dX8_act_120 : decode cX8_act 120 = .ok (.if_icmp .ne 7, 3) := by decide +kernel
theorem dX8_act_123 : decode cX8_act 123 = .ok (.iconst 1, 1) := by decide +kernel
theorem dX8_act_124 : decode cX8_act 124 = .ok (.goto 48, 3) := by decide +kernel
theorem dX8_act_127 : decode cX8_act 127 = .ok (.iconst 0, 1) := by decide +kernel
theorem dX8_act_128 : decode cX8_act 128 = .ok (.goto 44, 3) := by decide +kernel
theorem dX8_act_131 : decode cX8_act 131 = .ok (.iload_n 1, 1) := by decide +kernel
theorem dX8_act_132 : decode cX8_act 132 = .ok (.bipush 11, 2) := by decide +kernel
theorem dX8_act_134 : decode cX8_act 134 = .ok (.if_icmp .ne 22, 3) := by decide +kernel
theorem dX8_act_137 : decode cX8_act 137 = .ok (.iload_n 2, 1) := by decide +kernel
theorem dX8_act_138 : decode cX8_act 138 = .ok (.invokestatic 99, 3) := by decide +kernel
theorem dX8_act_141 : decode cX8_act 141 = .ok (.iload_n 3, 1) := by decide +kernel
theorem dX8_act_142 : decode cX8_act 142 = .ok (.invokestatic 99, 3) := by decide +kernel
theorem dX8_act_145 : decode cX8_act 145 = .ok (.if_icmp .ge 7, 3) := by decide +kernel
theorem dX8_act_148 : decode cX8_act 148 = .ok (.iconst 1, 1) := by decide +kernel
theorem dX8_act_149 : decode cX8_act 149 = .ok (.goto 23, 3) := by decide +kernel
theorem dX8_act_152 : decode cX8_act 152 = .ok (.iconst 0, 1) := by decide +kernel
theorem dX8_act_153 : decode cX8_act 153 = .ok (.goto 19, 3) := by decide +kernel
theorem dX8_act_156 : decode cX8_act 156 = .ok (.iload_n 2, 1) := by decide +kernel
theorem dX8_act_157 : decode cX8_act 157 = .ok (.invokestatic 99, 3) := by decide +kernel
theorem dX8_act_160 : decode cX8_act 160 = .ok (.iload_n 3, 1) := by decide +kernel
theorem dX8_act_161 : decode cX8_act 161 = .ok (.invokestatic 99, 3) := by decide +kernel
theorem dX8_act_164 : decode cX8_act 164 = .ok (.if_icmp .le 7, 3) := by decide +kernel
theorem dX8_act_167 : decode cX8_act 167 = .ok (.iconst 1, 1) := by decide +kernel
theorem dX8_act_168 : decode cX8_act 168 = .ok (.goto 4, 3) := by decide +kernel
theorem dX8_act_171 : decode cX8_act 171 = .ok (.iconst 0, 1) := by decide +kernel
theorem dX8_act_172 : decode cX8_act 172 = .ok (.istore 7, 2) := by decide +kernel
theorem dX8_act_174 : decode cX8_act 174 = .ok (.aload_n 0, 1) := by decide +kernel
theorem dX8_act_175 : decode cX8_act 175 = .ok (.getfield 51, 3) := by decide +kernel
theorem dX8_act_178 : decode cX8_act 178 = .ok (.aload_n 0, 1) := by decide +kernel
theorem dX8_act_179 : decode cX8_act 179 = .ok (.invokevirtual 148, 3) := by decide +kernel
theorem dX8_act_182 : decode cX8_act 182 = .ok (.iload 7, 2) := by decide +kernel
theorem dX8_act_184 : decode cX8_act 184 = .ok (.ifCond .eq 8, 3) := by decide +kernel
theorem dX8_act_187 : decode cX8_act 187 = .ok (.iload 4, 2) := by decide +kernel
theorem dX8_act_189 : decode cX8_act 189 = .ok (.goto 12, 3) := by decide +kernel
theorem dX8_act_192 : decode cX8_act 192 = .ok (.aload_n 0, 1) := by decide +kernel
theorem dX8_act_193 : decode cX8_act 193 = .ok (.getfield 51, 3) := by decide +kernel
theorem dX8_act_196 : decode cX8_act 196 = .ok (.aload_n 0, 1) := by decide +kernel
theorem dX8_act_197 : decode cX8_act 197 = .ok (.invokevirtual 148, 3) := by decide +kernel
theorem dX8_act_200 : decode cX8_act 200 = .ok (.iaload, 1) := by decide +kernel
theorem dX8_act_201 : decode cX8_act 201 = .ok (.iastore, 1) := by decide +kernel
theorem dX8_act_202 : decode cX8_act 202 = .ok (.return_, 1) := by decide +kernel
theorem dX8_act_203 : decode cX8_act 203 = .ok (.aload_n 0, 1) := by decide +kernel
theorem dX8_act_204 : decode cX8_act 204 = .ok (.getfield 51, 3) := by decide +kernel
theorem dX8_act_207 : decode cX8_act 207 = .ok (.aload_n 0, 1) := by decide +kernel
theorem dX8_act_208 : decode cX8_act 208 = .ok (.invokevirtual 148, 3) := by decide +kernel
theorem dX8_act_211 : decode cX8_act 211 = .ok (.iload_n 2, 1) := by decide +kernel
theorem dX8_act_212 : decode cX8_act 212 = .ok (.iastore, 1) := by decide +kernel
theorem dX8_act_213 : decode cX8_act 213 = .ok (.return_, 1) := by decide +kernel
theorem dX8_act_214 : decode cX8_act 214 = .ok (.aload_n 0, 1) := by decide +kernel
theorem dX8_act_215 : decode cX8_act 215 = .ok (.iload_n 2, 1) := by decide +kernel
theorem dX8_act_216 : decode cX8_act 216 = .ok (.sipush 255, 3) := by decide +kernel
theorem dX8_act_219 : decode cX8_act 219 = .ok (.iand, 1) := by decide +kernel
theorem dX8_act_220 : decode cX8_act 220 = .ok (.iconst 1, 1) := by decide +kernel
theorem dX8_act_221 : decode cX8_act 221 = .ok (.invokevirtual 188, 3) := by decide +kernel
theorem dX8_act_224 : decode cX8_act 224 = .ok (.return_, 1) := by decide +kernel
theorem dX8_act_225 : decode cX8_act 225 = .ok (.aload_n 0, 1) := by decide +kernel
theorem dX8_act_226 : decode cX8_act 226 = .ok (.iload_n 2, 1) := by decide +kernel
theorem dX8_act_227 : decode cX8_act 227 = .ok (.sipush 255, 3) := by decide +kernel
theorem dX8_act_230 : decode cX8_act 230 = .ok (.iand, 1) := by decide +kernel
theorem dX8_act_231 : decode cX8_act 231 = .ok (.iconst (-1), 1) := by decide +kernel
theorem dX8_act_232 : decode cX8_act 232 = .ok (.invokevirtual 188, 3) := by decide +kernel
theorem dX8_act_235 : decode cX8_act 235 = .ok (.return_, 1) := by decide +kernel
theorem dX8_act_236 : decode cX8_act 236 = .ok (.aload_n 0, 1) := by decide +kernel
theorem dX8_act_237 : decode cX8_act 237 = .ok (.iload_n 2, 1) := by decide +kernel
theorem dX8_act_238 : decode cX8_act 238 = .ok (.iconst 2, 1) := by decide +kernel
theorem dX8_act_239 : decode cX8_act 239 = .ok (.iload_n 3, 1) := by decide +kernel
theorem dX8_act_240 : decode cX8_act 240 = .ok (.invokestatic 99, 3) := by decide +kernel
theorem dX8_act_243 : decode cX8_act 243 = .ok (.imul, 1) := by decide +kernel
theorem dX8_act_244 : decode cX8_act 244 = .ok (.iadd, 1) := by decide +kernel
theorem dX8_act_245 : decode cX8_act 245 = .ok (.iconst 1, 1) := by decide +kernel
theorem dX8_act_246 : decode cX8_act 246 = .ok (.invokevirtual 91, 3) := by decide +kernel
theorem dX8_act_249 : decode cX8_act 249 = .ok (.istore 6, 2) := by decide +kernel
theorem dX8_act_251 : decode cX8_act 251 = .ok (.goto 211, 3) := by decide +kernel
theorem dX8_act_254 : decode cX8_act 254 = .ok (.aload_n 0, 1) := by decide +kernel
theorem dX8_act_255 : decode cX8_act 255 = .ok (.iload_n 2, 1) := by decide +kernel
theorem dX8_act_256 : decode cX8_act 256 = .ok (.iload_n 3, 1) := by decide +kernel
theorem dX8_act_257 : decode cX8_act 257 = .ok (.invokestatic 99, 3) := by decide +kernel
theorem dX8_act_260 : decode cX8_act 260 = .ok (.iadd, 1) := by decide +kernel
theorem dX8_act_261 : decode cX8_act 261 = .ok (.iconst 0, 1) := by decide +kernel
theorem dX8_act_262 : decode cX8_act 262 = .ok (.invokevirtual 91, 3) := by decide +kernel
theorem dX8_act_265 : decode cX8_act 265 = .ok (.istore 6, 2) := by decide +kernel
theorem dX8_act_267 : decode cX8_act 267 = .ok (.goto 195, 3) := by decide +kernel
theorem dX8_act_270 : decode cX8_act 270 = .ok (.aload_n 0, 1) := by decide +kernel
theorem dX8_act_271 : decode cX8_act 271 = .ok (.iload_n 2, 1) := by decide +kernel
theorem dX8_act_272 : decode cX8_act 272 = .ok (.iconst 2, 1) := by decide +kernel
theorem dX8_act_273 : decode cX8_act 273 = .ok (.iload_n 3, 1) := by decide +kernel
theorem dX8_act_274 : decode cX8_act 274 = .ok (.invokestatic 99, 3) := by decide +kernel
theorem dX8_act_277 : decode cX8_act 277 = .ok (.imul, 1) := by decide +kernel
theorem dX8_act_278 : decode cX8_act 278 = .ok (.iadd, 1) := by decide +kernel
theorem dX8_act_279 : decode cX8_act 279 = .ok (.iload 4, 2) := by decide +kernel
theorem dX8_act_281 : decode cX8_act 281 = .ok (.iconst 1, 1) := by decide +kernel
theorem dX8_act_282 : decode cX8_act 282 = .ok (.iconst 0, 1) := by decide +kernel
theorem dX8_act_283 : decode cX8_act 283 = .ok (.invokevirtual 95, 3) := by decide +kernel
theorem dX8_act_286 : decode cX8_act 286 = .ok (.return_, 1) := by decide +kernel
theorem dX8_act_287 : decode cX8_act 287 = .ok (.aload_n 0, 1) := by decide +kernel
theorem dX8_act_288 : decode cX8_act 288 = .ok (.iload_n 2, 1) := by decide +kernel
theorem dX8_act_289 : decode cX8_act 289 = .ok (.iload_n 3, 1) := by decide +kernel
theorem dX8_act_290 : decode cX8_act 290 = .ok (.invokestatic 99, 3) := by decide +kernel
theorem dX8_act_293 : decode cX8_act 293 = .ok (.iadd, 1) := by decide +kernel
theorem dX8_act_294 : decode cX8_act 294 = .ok (.iload 4, 2) := by decide +kernel
theorem dX8_act_296 : decode cX8_act 296 = .ok (.iconst 0, 1) := by decide +kernel
theorem dX8_act_297 : decode cX8_act 297 = .ok (.iconst 0, 1) := by decide +kernel
theorem dX8_act_298 : decode cX8_act 298 = .ok (.invokevirtual 95, 3) := by decide +kernel
theorem dX8_act_301 : decode cX8_act 301 = .ok (.return_, 1) := by decide +kernel
theorem dX8_act_302 : decode cX8_act 302 = .ok (.aload_n 0, 1) := by decide +kernel
theorem dX8_act_303 : decode cX8_act 303 = .ok (.iload_n 2, 1) := by decide +kernel
theorem dX8_act_304 : decode cX8_act 304 = .ok (.iload_n 3, 1) := by decide +kernel
theorem dX8_act_305 : decode cX8_act 305 = .ok (.iload 4, 2) := by decide +kernel
theorem dX8_act_307 : decode cX8_act 307 = .ok (.iload 5, 2) := by decide +kernel
theorem dX8_act_309 : decode cX8_act 309 = .ok (.invokevirtual 191, 3) := by decide +kernel
theorem dX8_act_312 : decode cX8_act 312 = .ok (.return_, 1) := by decide +kernel
theorem dX8_act_313 : decode cX8_act 313 = .ok (.aload_n 0, 1) := by decide +kernel
theorem dX8_act_314 : decode cX8_act 314 = .ok (.iload_n 2, 1) := by decide +kernel
theorem dX8_act_315 : decode cX8_act 315 = .ok (.invokevirtual 195, 3) := by decide +kernel
theorem dX8_act_318 : decode cX8_act 318 = .ok (.return_, 1) := by decide +kernel
theorem dX8_act_319 : decode cX8_act 319 = .ok (.aload_n 0, 1) := by decide +kernel
theorem dX8_act_320 : decode cX8_act 320 = .ok (.iload_n 2, 1) := by decide +kernel
theorem dX8_act_321 : decode cX8_act 321 = .ok (.invokevirtual 159, 3) := by decide +kernel
theorem dX8_act_324 : decode cX8_act 324 = .ok (.return_, 1) := by decide +kernel
theorem dX8_act_325 : decode cX8_act 325 = .ok (.aload_n 0, 1) := by decide +kernel
theorem dX8_act_326 : decode cX8_act 326 = .ok (.invokevirtual 152, 3) := by decide +kernel
theorem dX8_act_329 : decode cX8_act 329 = .ok (.istore 8, 2) := by decide +kernel
theorem dX8_act_331 : decode cX8_act 331 = .ok (.aload_n 0, 1) := by decide +kernel
theorem dX8_act_332 : decode cX8_act 332 = .ok (.getfield 81, 3) := by decide +kernel
theorem dX8_act_335 : decode cX8_act 335 = .ok (.ifCond .ne 14, 3) := by decide +kernel
theorem dX8_act_338 : decode cX8_act 338 = .ok (.aload_n 0, 1) := by decide +kernel
theorem dX8_act_339 : decode cX8_act 339 = .ok (.iload_n 2, 1) := by decide +kernel
theorem dX8_act_340 : decode cX8_act 340 = .ok (.sipush 255, 3) := by decide +kernel
theorem dX8_act_343 : decode cX8_act 343 = .ok (.iand, 1) := by decide +kernel
theorem dX8_act_344 : decode cX8_act 344 = .ok (.iload 8, 2) := by decide +kernel
theorem dX8_act_346 : decode cX8_act 346 = .ok (.invokevirtual 166, 3) := by decide +kernel
theorem dX8_act_349 : decode cX8_act 349 = .ok (.return_, 1) := by decide +kernel
theorem dX8_act_350 : decode cX8_act 350 = .ok (.aload_n 0, 1) := by decide +kernel
theorem dX8_act_351 : decode cX8_act 351 = .ok (.invokevirtual 148, 3) := by decide +kernel
theorem dX8_act_354 : decode cX8_act 354 = .ok (.istore 6, 2) := by decide +kernel
theorem dX8_act_356 : decode cX8_act 356 = .ok (.goto 106, 3) := by decide +kernel
theorem dX8_act_359 : decode cX8_act 359 = .ok (.aload_n 0, 1) := by decide +kernel
theorem dX8_act_360 : decode cX8_act 360 = .ok (.iload_n 2, 1) := by decide +kernel
theorem dX8_act_361 : decode cX8_act 361 = .ok (.iload_n 3, 1) := by decide +kernel
theorem dX8_act_362 : decode cX8_act 362 = .ok (.invokevirtual 198, 3) := by decide +kernel
theorem dX8_act_365 : decode cX8_act 365 = .ok (.return_, 1) := by decide +kernel
theorem dX8_act_366 : decode cX8_act 366 = .ok (.aload_n 0, 1) := by decide +kernel
theorem dX8_act_367 : decode cX8_act 367 = .ok (.iload_n 2, 1) := by decide +kernel
theorem dX8_act_368 : decode cX8_act 368 = .ok (.iload_n 3, 1) := by decide +kernel
theorem dX8_act_369 : decode cX8_act 369 = .ok (.iload 4, 2) := by decide +kernel
theorem dX8_act_371 : decode cX8_act 371 = .ok (.invokestatic 99, 3) := by decide +kernel
theorem dX8_act_374 : decode cX8_act 374 = .ok (.invokevirtual 111, 3) := by decide +kernel
theorem dX8_act_377 : decode cX8_act 377 = .ok (.return_, 1) := by decide +kernel
theorem dX8_act_378 : decode cX8_act 378 = .ok (.aload_n 0, 1) := by decide +kernel
theorem dX8_act_379 : decode cX8_act 379 = .ok (.iload_n 2, 1) := by decide +kernel
theorem dX8_act_380 : decode cX8_act 380 = .ok (.iload_n 3, 1) := by decide +kernel
theorem dX8_act_381 : decode cX8_act 381 = .ok (.iload 4, 2) := by decide +kernel
theorem dX8_act_383 : decode cX8_act 383 = .ok (.invokestatic 99, 3) := by decide +kernel
theorem dX8_act_386 : decode cX8_act 386 = .ok (.aload_n 0, 1) := by decide +kernel
theorem dX8_act_387 : decode cX8_act 387 = .ok (.getfield 13, 3) := by decide +kernel
theorem dX8_act_390 : decode cX8_act 390 = .ok (.invokevirtual 115, 3) := by decide +kernel
theorem dX8_act_393 : decode cX8_act 393 = .ok (.istore 6, 2) := by decide +kernel
theorem dX8_act_395 : decode cX8_act 395 = .ok (.goto 67, 3) := by decide +kernel
theorem dX8_act_398 : decode cX8_act 398 = .ok (.aload_n 0, 1) := by decide +kernel
theorem dX8_act_399 : decode cX8_act 399 = .ok (.iload_n 2, 1) := by decide +kernel
theorem dX8_act_400 : decode cX8_act 400 = .ok (.invokestatic 99, 3) := by decide +kernel
theorem dX8_act_403 : decode cX8_act 403 = .ok (.invokevirtual 133, 3) := by decide +kernel
theorem dX8_act_406 : decode cX8_act 406 = .ok (.istore 6, 2) := by decide +kernel
theorem dX8_act_408 : decode cX8_act 408 = .ok (.goto 54, 3) := by decide +kernel
theorem dX8_act_411 : decode cX8_act 411 = .ok (.aload_n 0, 1) := by decide +kernel
theorem dX8_act_412 : decode cX8_act 412 = .ok (.iload_n 2, 1) := by decide +kernel
theorem dX8_act_413 : decode cX8_act 413 = .ok (.invokestatic 99, 3) := by decide +kernel
theorem dX8_act_416 : decode cX8_act 416 = .ok (.invokevirtual 201, 3) := by decide +kernel
theorem dX8_act_419 : decode cX8_act 419 = .ok (.return_, 1) := by decide +kernel
theorem dX8_act_420 : decode cX8_act 420 = .ok (.aload_n 0, 1) := by decide +kernel
theorem dX8_act_421 : decode cX8_act 421 = .ok (.iload_n 2, 1) := by decide +kernel
theorem dX8_act_422 : decode cX8_act 422 = .ok (.invokevirtual 173, 3) := by decide +kernel
theorem dX8_act_425 : decode cX8_act 425 = .ok (.return_, 1) := by decide +kernel
theorem dX8_act_426 : decode cX8_act 426 = .ok (.aload_n 0, 1) := by decide +kernel
theorem dX8_act_427 : decode cX8_act 427 = .ok (.iload_n 2, 1) := by decide +kernel
theorem dX8_act_428 : decode cX8_act 428 = .ok (.iload_n 3, 1) := by decide +kernel
theorem dX8_act_429 : decode cX8_act 429 = .ok (.invokestatic 99, 3) := by decide +kernel
theorem dX8_act_432 : decode cX8_act 432 = .ok (.iload 4, 2) := by decide +kernel
theorem dX8_act_434 : decode cX8_act 434 = .ok (.invokestatic 99, 3) := by decide +kernel
theorem dX8_act_437 : decode cX8_act 437 = .ok (.invokevirtual 204, 3) := by decide +kernel
theorem dX8_act_440 : decode cX8_act 440 = .ok (.return_, 1) := by decide +kernel
theorem dX8_act_441 : decode cX8_act 441 = .ok (.aload_n 0, 1) := by decide +kernel
theorem dX8_act_442 : decode cX8_act 442 = .ok (.iconst 1, 1) := by decide +kernel
theorem dX8_act_443 : decode cX8_act 443 = .ok (.putfield 185, 3) := by decide +kernel
theorem dX8_act_446 : decode cX8_act 446 = .ok (.return_, 1) := by decide +kernel
theorem dX8_act_447 : decode cX8_act 447 = .ok (.aload_n 0, 1) := by decide +kernel
theorem dX8_act_448 : decode cX8_act 448 = .ok (.iload_n 1, 1) := by decide +kernel
theorem dX8_act_449 : decode cX8_act 449 = .ok (.iload_n 2, 1) := by decide +kernel
theorem dX8_act_450 : decode cX8_act 450 = .ok (.invokestatic 99, 3) := by decide +kernel
theorem dX8_act_453 : decode cX8_act 453 = .ok (.iload_n 3, 1) := by decide +kernel
theorem dX8_act_454 : decode cX8_act 454 = .ok (.invokestatic 99, 3) := by decide +kernel
theorem dX8_act_457 : decode cX8_act 457 = .ok (.invokevirtual 107, 3) := by decide +kernel
theorem dX8_act_460 : decode cX8_act 460 = .ok (.istore 6, 2) := by decide +kernel
theorem dX8_act_462 : decode cX8_act 462 = .ok (.aload_n 0, 1) := by decide +kernel
theorem dX8_act_463 : decode cX8_act 463 = .ok (.getfield 81, 3) := by decide +kernel
theorem dX8_act_466 : decode cX8_act 466 = .ok (.ifCond .ne 16, 3) := by decide +kernel
theorem dX8_act_469 : decode cX8_act 469 = .ok (.iload 5, 2) := by decide +kernel
theorem dX8_act_471 : decode cX8_act 471 = .ok (.ifCond .lt 11, 3) := by decide +kernel
theorem dX8_act_474 : decode cX8_act 474 = .ok (.aload_n 0, 1) := by decide +kernel
theorem dX8_act_475 : decode cX8_act 475 = .ok (.iload 5, 2) := by decide +kernel
theorem dX8_act_477 : decode cX8_act 477 = .ok (.iload 6, 2) := by decide +kernel
theorem dX8_act_479 : decode cX8_act 479 = .ok (.invokevirtual 166, 3) := by decide +kernel
theorem dX8_act_482 : decode cX8_act 482 = .ok (.return_, 1) := by decide +kernel
theorem dX8_throwTo_0 : decode cX8_throwTo 0 = .ok (.iload_n 2, 1) := by decide +kernel
theorem dX8_throwTo_1 : decode cX8_throwTo 1 = .ok (.aload_n 0, 1) := by decide +kernel
theorem dX8_throwTo_2 : decode cX8_throwTo 2 = .ok (.getfield 142, 3) := by decide +kernel
theorem dX8_throwTo_5 : decode cX8_throwTo 5 = .ok (.if_icmp .lt 10, 3) := by decide +kernel
theorem dX8_throwTo_8 : decode cX8_throwTo 8 = .ok (.aload_n 0, 1) := by decide +kernel
theorem dX8_throwTo_9 : decode cX8_throwTo 9 = .ok (.bipush 8, 2) := by decide +kernel
theorem dX8_throwTo_11 : decode cX8_throwTo 11 = .ok (.putfield 81, 3) := by decide +kernel
theorem dX8_throwTo_14 : decode cX8_throwTo 14 = .ok (.return_, 1) := by decide +kernel
theorem dX8_throwTo_15 : decode cX8_throwTo 15 = .ok (.aload_n 0, 1) := by decide +kernel
theorem dX8_throwTo_16 : decode cX8_throwTo 16 = .ok (.getfield 207, 3) := by decide +kernel
theorem dX8_throwTo_19 : decode cX8_throwTo 19 = .ok (.bipush 12, 2) := by decide +kernel
theorem dX8_throwTo_21 : decode cX8_throwTo 21 = .ok (.if_icmp .ne 9, 3) := by decide +kernel
theorem dX8_throwTo_24 : decode cX8_throwTo 24 = .ok (.aload_n 0, 1) := by decide +kernel
theorem dX8_throwTo_25 : decode cX8_throwTo 25 = .ok (.iconst 3, 1) := by decide +kernel
theorem dX8_throwTo_26 : decode cX8_throwTo 26 = .ok (.putfield 185, 3) := by decide +kernel
theorem dX8_throwTo_29 : decode cX8_throwTo 29 = .ok (.return_, 1) := by decide +kernel
theorem dX8_throwTo_30 : decode cX8_throwTo 30 = .ok (.aload_n 0, 1) := by decide +kernel
theorem dX8_throwTo_31 : decode cX8_throwTo 31 = .ok (.dup, 1) := by decide +kernel
theorem dX8_throwTo_32 : decode cX8_throwTo 32 = .ok (.getfield 207, 3) := by decide +kernel
theorem dX8_throwTo_35 : decode cX8_throwTo 35 = .ok (.iconst 1, 1) := by decide +kernel
theorem dX8_throwTo_36 : decode cX8_throwTo 36 = .ok (.iadd, 1) := by decide +kernel
theorem dX8_throwTo_37 : decode cX8_throwTo 37 = .ok (.putfield 207, 3) := by decide +kernel
theorem dX8_throwTo_40 : decode cX8_throwTo 40 = .ok (.aload_n 0, 1) := by decide +kernel
theorem dX8_throwTo_41 : decode cX8_throwTo 41 = .ok (.dup, 1) := by decide +kernel
theorem dX8_throwTo_42 : decode cX8_throwTo 42 = .ok (.getfield 210, 3) := by decide +kernel
theorem dX8_throwTo_45 : decode cX8_throwTo 45 = .ok (.iconst 1, 1) := by decide +kernel
theorem dX8_throwTo_46 : decode cX8_throwTo 46 = .ok (.iadd, 1) := by decide +kernel
theorem dX8_throwTo_47 : decode cX8_throwTo 47 = .ok (.putfield 210, 3) := by decide +kernel
theorem dX8_throwTo_50 : decode cX8_throwTo 50 = .ok (.aload_n 0, 1) := by decide +kernel
theorem dX8_throwTo_51 : decode cX8_throwTo 51 = .ok (.getfield 142, 3) := by decide +kernel
theorem dX8_throwTo_54 : decode cX8_throwTo 54 = .ok (.iload_n 2, 1) := by decide +kernel
theorem dX8_throwTo_55 : decode cX8_throwTo 55 = .ok (.iconst 1, 1) := by decide +kernel
theorem dX8_throwTo_56 : decode cX8_throwTo 56 = .ok (.iadd, 1) := by decide +kernel
theorem dX8_throwTo_57 : decode cX8_throwTo 57 = .ok (.if_icmp .le 10, 3) := by decide +kernel
theorem dX8_throwTo_60 : decode cX8_throwTo 60 = .ok (.aload_n 0, 1) := by decide +kernel
theorem dX8_throwTo_61 : decode cX8_throwTo 61 = .ok (.invokevirtual 179, 3) := by decide +kernel
theorem dX8_throwTo_64 : decode cX8_throwTo 64 = .ok (.goto (-14), 3) := by decide +kernel
theorem dX8_throwTo_67 : decode cX8_throwTo 67 = .ok (.aload_n 0, 1) := by decide +kernel
theorem dX8_throwTo_68 : decode cX8_throwTo 68 = .ok (.iload_n 1, 1) := by decide +kernel
theorem dX8_throwTo_69 : decode cX8_throwTo 69 = .ok (.invokevirtual 195, 3) := by decide +kernel
theorem dX8_throwTo_72 : decode cX8_throwTo 72 = .ok (.return_, 1) := by decide +kernel
theorem dX8_step_0 : decode cX8_step 0 = .ok (.aload_n 0, 1) := by decide +kernel
theorem dX8_step_1 : decode cX8_step 1 = .ok (.getfield 51, 3) := by decide +kernel
theorem dX8_step_4 : decode cX8_step 4 = .ok (.aload_n 0, 1) := by decide +kernel
theorem dX8_step_5 : decode cX8_step 5 = .ok (.invokevirtual 148, 3) := by decide +kernel
theorem dX8_step_8 : decode cX8_step 8 = .ok (.iaload, 1) := by decide +kernel
theorem dX8_step_9 : decode cX8_step 9 = .ok (.istore_n 1, 1) := by decide +kernel
theorem dX8_step_10 : decode cX8_step 10 = .ok (.aload_n 0, 1) := by decide +kernel
theorem dX8_step_11 : decode cX8_step 11 = .ok (.getfield 51, 3) := by decide +kernel
theorem dX8_step_14 : decode cX8_step 14 = .ok (.aload_n 0, 1) := by decide +kernel
theorem dX8_step_15 : decode cX8_step 15 = .ok (.invokevirtual 148, 3) := by decide +kernel
theorem dX8_step_18 : decode cX8_step 18 = .ok (.dup2, 1) := by decide +kernel
theorem dX8_step_19 : decode cX8_step 19 = .ok (.iaload, 1) := by decide +kernel
theorem dX8_step_20 : decode cX8_step 20 = .ok (.iconst 1, 1) := by decide +kernel
theorem dX8_step_21 : decode cX8_step 21 = .ok (.iadd, 1) := by decide +kernel
theorem dX8_step_22 : decode cX8_step 22 = .ok (.iastore, 1) := by decide +kernel
theorem dX8_step_23 : decode cX8_step 23 = .ok (.iload_n 1, 1) := by decide +kernel
theorem dX8_step_24 : decode cX8_step 24 = .ok (.aload_n 0, 1) := by decide +kernel
theorem dX8_step_25 : decode cX8_step 25 = .ok (.getfield 139, 3) := by decide +kernel
theorem dX8_step_28 : decode cX8_step 28 = .ok (.if_icmp .ge 23, 3) := by decide +kernel
theorem dX8_step_31 : decode cX8_step 31 = .ok (.aload_n 0, 1) := by decide +kernel
theorem dX8_step_32 : decode cX8_step 32 = .ok (.getfield 26, 3) := by decide +kernel
theorem dX8_step_35 : decode cX8_step 35 = .ok (.iload_n 1, 1) := by decide +kernel
theorem dX8_step_36 : decode cX8_step 36 = .ok (.iaload, 1) := by decide +kernel
theorem dX8_step_37 : decode cX8_step 37 = .ok (.ifCond .lt 14, 3) := by decide +kernel
theorem dX8_step_40 : decode cX8_step 40 = .ok (.aload_n 0, 1) := by decide +kernel
theorem dX8_step_41 : decode cX8_step 41 = .ok (.getfield 26, 3) := by decide +kernel
theorem dX8_step_44 : decode cX8_step 44 = .ok (.iload_n 1, 1) := by decide +kernel
theorem dX8_step_45 : decode cX8_step 45 = .ok (.iaload, 1) := by decide +kernel
theorem dX8_step_46 : decode cX8_step 46 = .ok (.bipush 32, 2) := by decide +kernel
theorem dX8_step_48 : decode cX8_step 48 = .ok (.if_icmp .le 10, 3) := by decide +kernel
theorem dX8_step_51 : decode cX8_step 51 = .ok (.aload_n 0, 1) := by decide +kernel
theorem dX8_step_52 : decode cX8_step 52 = .ok (.bipush 10, 2) := by decide +kernel
theorem dX8_step_54 : decode cX8_step 54 = .ok (.putfield 81, 3) := by decide +kernel
theorem dX8_step_57 : decode cX8_step 57 = .ok (.return_, 1) := by decide +kernel
theorem dX8_step_58 : decode cX8_step 58 = .ok (.iconst 0, 1) := by decide +kernel
theorem dX8_step_59 : decode cX8_step 59 = .ok (.istore_n 2, 1) := by decide +kernel
theorem dX8_step_60 : decode cX8_step 60 = .ok (.iconst 0, 1) := by decide +kernel
theorem dX8_step_61 : decode cX8_step 61 = .ok (.istore_n 3, 1) := by decide +kernel
theorem dX8_step_62 : decode cX8_step 62 = .ok (.iconst 0, 1) := by decide +kernel
theorem dX8_step_63 : decode cX8_step 63 = .ok (.istore 4, 2) := by decide +kernel
theorem dX8_step_65 : decode cX8_step 65 = .ok (.aload_n 0, 1) := by decide +kernel
theorem dX8_step_66 : decode cX8_step 66 = .ok (.getfield 26, 3) := by decide +kernel
theorem dX8_step_69 : decode cX8_step 69 = .ok (.iload_n 1, 1) := by decide +kernel
theorem dX8_step_70 : decode cX8_step 70 = .ok (.iaload, 1) := by decide +kernel
theorem dX8_step_71 : decode cX8_step 71 = .ok (.invokestatic 213, 3) := by decide +kernel
theorem dX8_step_74 : decode cX8_step 74 = .ok (.istore 5, 2) := by decide +kernel
theorem dX8_step_76 : decode cX8_step 76 = .ok (.iconst 0, 1) := by decide +kernel
theorem dX8_step_77 : decode cX8_step 77 = .ok (.istore 6, 2) := by decide +kernel
theorem dX8_step_79 : decode cX8_step 79 = .ok (.iload 6, 2) := by decide +kernel
theorem dX8_step_81 : decode cX8_step 81 = .ok (.iload 5, 2) := by decide +kernel
theorem dX8_step_83 : decode cX8_step 83 = .ok (.if_icmp .ge 89, 3) := by decide +kernel
theorem dX8_step_86 : decode cX8_step 86 = .ok (.aload_n 0, 1) := by decide +kernel
theorem dX8_step_87 : decode cX8_step 87 = .ok (.getfield 81, 3) := by decide +kernel
theorem dX8_step_90 : decode cX8_step 90 = .ok (.ifCond .ne 82, 3) := by decide +kernel
theorem dX8_step_93 : decode cX8_step 93 = .ok (.aload_n 0, 1) := by decide +kernel
theorem dX8_step_94 : decode cX8_step 94 = .ok (.getfield 29, 3) := by decide +kernel
theorem dX8_step_97 : decode cX8_step 97 = .ok (.iconst 3, 1) := by decide +kernel
theorem dX8_step_98 : decode cX8_step 98 = .ok (.iload_n 1, 1) := by decide +kernel
theorem dX8_step_99 : decode cX8_step 99 = .ok (.imul, 1) := by decide +kernel
theorem dX8_step_100 : decode cX8_step 100 = .ok (.iload 6, 2) := by decide +kernel
theorem dX8_step_102 : decode cX8_step 102 = .ok (.iadd, 1) := by decide +kernel
theorem dX8_step_103 : decode cX8_step 103 = .ok (.iaload, 1) := by decide +kernel
theorem dX8_step_104 : decode cX8_step 104 = .ok (.istore 7, 2) := by decide +kernel
theorem dX8_step_106 : decode cX8_step 106 = .ok (.iload 7, 2) := by decide +kernel
theorem dX8_step_108 : decode cX8_step 108 = .ok (.ifCond .lt 8, 3) := by decide +kernel
theorem dX8_step_111 : decode cX8_step 111 = .ok (.iload 7, 2) := by decide +kernel
theorem dX8_step_113 : decode cX8_step 113 = .ok (.goto 11, 3) := by decide +kernel
theorem dX8_step_116 : decode cX8_step 116 = .ok (.aload_n 0, 1) := by decide +kernel
theorem dX8_step_117 : decode cX8_step 117 = .ok (.iconst (-1), 1) := by decide +kernel
theorem dX8_step_118 : decode cX8_step 118 = .ok (.iload 7, 2) := by decide +kernel
theorem dX8_step_120 : decode cX8_step 120 = .ok (.isub, 1) := by decide +kernel
theorem dX8_step_121 : decode cX8_step 121 = .ok (.invokevirtual 163, 3) := by decide +kernel
theorem dX8_step_124 : decode cX8_step 124 = .ok (.istore 8, 2) := by decide +kernel
theorem dX8_step_126 : decode cX8_step 126 = .ok (.iload 6, 2) := by decide +kernel
theorem dX8_step_128 : decode cX8_step 128 = .ok (.ifCond .ne 8, 3) := by decide +kernel
theorem dX8_step_131 : decode cX8_step 131 = .ok (.iload 8, 2) := by decide +kernel
theorem dX8_step_133 : decode cX8_step 133 = .ok (.goto 4, 3) := by decide +kernel
theorem dX8_step_136 : decode cX8_step 136 = .ok (.iload_n 2, 1) := by decide +kernel
theorem dX8_step_137 : decode cX8_step 137 = .ok (.istore_n 2, 1) := by decide +kernel
theorem dX8_step_138 : decode cX8_step 138 = .ok (.iload 6, 2) := by decide +kernel
theorem dX8_step_140 : decode cX8_step 140 = .ok (.iconst 1, 1) := by decide +kernel
theorem dX8_step_141 : decode cX8_step 141 = .ok (.if_icmp .ne 8, 3) := by decide +kernel
theorem dX8_step_144 : decode cX8_step 144 = .ok (.iload 8, 2) := by decide +kernel
theorem dX8_step_146 : decode cX8_step 146 = .ok (.goto 4, 3) := by decide +kernel
theorem dX8_step_149 : decode cX8_step 149 = .ok (.iload_n 3, 1) := by decide +kernel
theorem dX8_step_150 : decode cX8_step 150 = .ok (.istore_n 3, 1) := by decide +kernel
theorem dX8_step_151 : decode cX8_step 151 = .ok (.iload 6, 2) := by decide +kernel
theorem dX8_step_153 : decode cX8_step 153 = .ok (.iconst 2, 1) := by decide +kernel
theorem dX8_step_154 : decode cX8_step 154 = .ok (.if_icmp .ne 8, 3) := by decide +kernel
theorem dX8_step_157 : decode cX8_step 157 = .ok (.iload 8, 2) := by decide +kernel
theorem dX8_step_159 : decode cX8_step 159 = .ok (.goto 5, 3) := by decide +kernel
theorem dX8_step_162 : decode cX8_step 162 = .ok (.iload 4, 2) := by decide +kernel
theorem dX8_step_164 : decode cX8_step 164 = .ok (.istore 4, 2) := by decide +kernel
theorem dX8_step_166 : decode cX8_step 166 = .ok (.iinc 6 1, 3) := by decide +kernel
theorem dX8_step_169 : decode cX8_step 169 = .ok (.goto (-90), 3) := by decide +kernel
theorem dX8_step_172 : decode cX8_step 172 = .ok (.aload_n 0, 1) := by decide +kernel
theorem dX8_step_173 : decode cX8_step 173 = .ok (.getfield 81, 3) := by decide +kernel
theorem dX8_step_176 : decode cX8_step 176 = .ok (.ifCond .ne 23, 3) := by decide +kernel
theorem dX8_step_179 : decode cX8_step 179 = .ok (.aload_n 0, 1) := by decide +kernel
theorem dX8_step_180 : decode cX8_step 180 = .ok (.aload_n 0, 1) := by decide +kernel
theorem dX8_step_181 : decode cX8_step 181 = .ok (.getfield 26, 3) := by decide +kernel
theorem dX8_step_184 : decode cX8_step 184 = .ok (.iload_n 1, 1) := by decide +kernel
theorem dX8_step_185 : decode cX8_step 185 = .ok (.iaload, 1) := by decide +kernel
theorem dX8_step_186 : decode cX8_step 186 = .ok (.iload_n 2, 1) := by decide +kernel
theorem dX8_step_187 : decode cX8_step 187 = .ok (.iload_n 3, 1) := by decide +kernel
theorem dX8_step_188 : decode cX8_step 188 = .ok (.iload 4, 2) := by decide +kernel
theorem dX8_step_190 : decode cX8_step 190 = .ok (.aload_n 0, 1) := by decide +kernel
theorem dX8_step_191 : decode cX8_step 191 = .ok (.getfield 32, 3) := by decide +kernel
theorem dX8_step_194 : decode cX8_step 194 = .ok (.iload_n 1, 1) := by decide +kernel
theorem dX8_step_195 : decode cX8_step 195 = .ok (.iaload, 1) := by decide +kernel
theorem dX8_step_196 : decode cX8_step 196 = .ok (.invokevirtual 216, 3) := by decide +kernel
theorem dX8_step_199 : decode cX8_step 199 = .ok (.return_, 1) := by decide +kernel
theorem dX8_up_0 : decode cX8_up 0 = .ok (.aload_n 0, 1) := by decide +kernel
theorem dX8_up_1 : decode cX8_up 1 = .ok (.getfield 81, 3) := by decide +kernel
theorem dX8_up_4 : decode cX8_up 4 = .ok (.ifCond .eq 112, 3) := by decide +kernel
theorem dX8_up_7 : decode cX8_up 7 = .ok (.aload_n 0, 1) := by decide +kernel
theorem dX8_up_8 : decode cX8_up 8 = .ok (.getfield 185, 3) := by decide +kernel
theorem dX8_up_11 : decode cX8_up 11 = .ok (.ifCond .ge 105, 3) := by decide +kernel
theorem dX8_up_14 : decode cX8_up 14 = .ok (.aload_n 0, 1) := by decide +kernel
theorem dX8_up_15 : decode cX8_up 15 = .ok (.getfield 207, 3) := by decide +kernel
theorem dX8_up_18 : decode cX8_up 18 = .ok (.bipush 12, 2) := by decide +kernel
theorem dX8_up_20 : decode cX8_up 20 = .ok (.if_icmp .ne 9, 3) := by decide +kernel
theorem dX8_up_23 : decode cX8_up 23 = .ok (.aload_n 0, 1) := by decide +kernel
theorem dX8_up_24 : decode cX8_up 24 = .ok (.iconst 3, 1) := by decide +kernel
theorem dX8_up_25 : decode cX8_up 25 = .ok (.putfield 185, 3) := by decide +kernel
theorem dX8_up_28 : decode cX8_up 28 = .ok (.return_, 1) := by decide +kernel
theorem dX8_up_29 : decode cX8_up 29 = .ok (.aload_n 0, 1) := by decide +kernel
theorem dX8_up_30 : decode cX8_up 30 = .ok (.dup, 1) := by decide +kernel
theorem dX8_up_31 : decode cX8_up 31 = .ok (.getfield 207, 3) := by decide +kernel
theorem dX8_up_34 : decode cX8_up 34 = .ok (.iconst 1, 1) := by decide +kernel
theorem dX8_up_35 : decode cX8_up 35 = .ok (.iadd, 1) := by decide +kernel
theorem dX8_up_36 : decode cX8_up 36 = .ok (.putfield 207, 3) := by decide +kernel
theorem dX8_up_39 : decode cX8_up 39 = .ok (.aload_n 0, 1) := by decide +kernel
theorem dX8_up_40 : decode cX8_up 40 = .ok (.getfield 81, 3) := by decide +kernel
theorem dX8_up_43 : decode cX8_up 43 = .ok (.istore_n 1, 1) := by decide +kernel
theorem dX8_up_44 : decode cX8_up 44 = .ok (.aload_n 0, 1) := by decide +kernel
theorem dX8_up_45 : decode cX8_up 45 = .ok (.iconst 0, 1) := by decide +kernel
theorem dX8_up_46 : decode cX8_up 46 = .ok (.putfield 81, 3) := by decide +kernel
theorem dX8_up_49 : decode cX8_up 49 = .ok (.aload_n 0, 1) := by decide +kernel
theorem dX8_up_50 : decode cX8_up 50 = .ok (.getfield 142, 3) := by decide +kernel
theorem dX8_up_53 : decode cX8_up 53 = .ok (.ifCond .le 27, 3) := by decide +kernel
theorem dX8_up_56 : decode cX8_up 56 = .ok (.aload_n 0, 1) := by decide +kernel
theorem dX8_up_57 : decode cX8_up 57 = .ok (.getfield 45, 3) := by decide +kernel
theorem dX8_up_60 : decode cX8_up 60 = .ok (.aload_n 0, 1) := by decide +kernel
theorem dX8_up_61 : decode cX8_up 61 = .ok (.getfield 48, 3) := by decide +kernel
theorem dX8_up_64 : decode cX8_up 64 = .ok (.aload_n 0, 1) := by decide +kernel
theorem dX8_up_65 : decode cX8_up 65 = .ok (.invokevirtual 148, 3) := by decide +kernel
theorem dX8_up_68 : decode cX8_up 68 = .ok (.iaload, 1) := by decide +kernel
theorem dX8_up_69 : decode cX8_up 69 = .ok (.baload, 1) := by decide +kernel
theorem dX8_up_70 : decode cX8_up 70 = .ok (.ifCond .ne 10, 3) := by decide +kernel
theorem dX8_up_73 : decode cX8_up 73 = .ok (.aload_n 0, 1) := by decide +kernel
theorem dX8_up_74 : decode cX8_up 74 = .ok (.invokevirtual 179, 3) := by decide +kernel
theorem dX8_up_77 : decode cX8_up 77 = .ok (.goto (-28), 3) := by decide +kernel
theorem dX8_up_80 : decode cX8_up 80 = .ok (.aload_n 0, 1) := by decide +kernel
theorem dX8_up_81 : decode cX8_up 81 = .ok (.getfield 142, 3) := by decide +kernel
theorem dX8_up_84 : decode cX8_up 84 = .ok (.ifCond .ne 14, 3) := by decide +kernel
theorem dX8_up_87 : decode cX8_up 87 = .ok (.aload_n 0, 1) := by decide +kernel
theorem dX8_up_88 : decode cX8_up 88 = .ok (.iload_n 1, 1) := by decide +kernel
theorem dX8_up_89 : decode cX8_up 89 = .ok (.putfield 220, 3) := by decide +kernel
theorem dX8_up_92 : decode cX8_up 92 = .ok (.aload_n 0, 1) := by decide +kernel
theorem dX8_up_93 : decode cX8_up 93 = .ok (.iconst 2, 1) := by decide +kernel
theorem dX8_up_94 : decode cX8_up 94 = .ok (.putfield 185, 3) := by decide +kernel
theorem dX8_up_97 : decode cX8_up 97 = .ok (.return_, 1) := by decide +kernel
theorem dX8_up_98 : decode cX8_up 98 = .ok (.aload_n 0, 1) := by decide +kernel
theorem dX8_up_99 : decode cX8_up 99 = .ok (.dup, 1) := by decide +kernel
theorem dX8_up_100 : decode cX8_up 100 = .ok (.getfield 223, 3) := by decide +kernel
theorem dX8_up_103 : decode cX8_up 103 = .ok (.iconst 1, 1) := by decide +kernel
theorem dX8_up_104 : decode cX8_up 104 = .ok (.iadd, 1) := by decide +kernel
theorem dX8_up_105 : decode cX8_up 105 = .ok (.putfield 223, 3) := by decide +kernel
theorem dX8_up_108 : decode cX8_up 108 = .ok (.aload_n 0, 1) := by decide +kernel
theorem dX8_up_109 : decode cX8_up 109 = .ok (.iload_n 1, 1) := by decide +kernel
theorem dX8_up_110 : decode cX8_up 110 = .ok (.invokevirtual 195, 3) := by decide +kernel
theorem dX8_up_113 : decode cX8_up 113 = .ok (.goto (-113), 3) := by decide +kernel
theorem dX8_up_116 : decode cX8_up 116 = .ok (.return_, 1) := by decide +kernel
theorem dX8_run_0 : decode cX8_run 0 = .ok (.aload_n 0, 1) := by decide +kernel
theorem dX8_run_1 : decode cX8_run 1 = .ok (.iconst 0, 1) := by decide +kernel
theorem dX8_run_2 : decode cX8_run 2 = .ok (.putfield 72, 3) := by decide +kernel
theorem dX8_run_5 : decode cX8_run 5 = .ok (.iload_n 1, 1) := by decide +kernel
theorem dX8_run_6 : decode cX8_run 6 = .ok (.ifCond .lt 18, 3) := by decide +kernel
theorem dX8_run_9 : decode cX8_run 9 = .ok (.iload_n 1, 1) := by decide +kernel
theorem dX8_run_10 : decode cX8_run 10 = .ok (.bipush 7, 2) := by decide +kernel
theorem dX8_run_12 : decode cX8_run 12 = .ok (.if_icmp .gt 12, 3) := by decide +kernel
theorem dX8_run_15 : decode cX8_run 15 = .ok (.aload_n 0, 1) := by decide +kernel
theorem dX8_run_16 : decode cX8_run 16 = .ok (.getfield 35, 3) := by decide +kernel
theorem dX8_run_19 : decode cX8_run 19 = .ok (.iload_n 1, 1) := by decide +kernel
theorem dX8_run_20 : decode cX8_run 20 = .ok (.baload, 1) := by decide +kernel
theorem dX8_run_21 : decode cX8_run 21 = .ok (.ifCond .ne 5, 3) := by decide +kernel
theorem dX8_run_24 : decode cX8_run 24 = .ok (.iconst (-1), 1) := by decide +kernel
theorem dX8_run_25 : decode cX8_run 25 = .ok (.ireturn, 1) := by decide +kernel
theorem dX8_run_26 : decode cX8_run 26 = .ok (.aload_n 0, 1) := by decide +kernel
theorem dX8_run_27 : decode cX8_run 27 = .ok (.iconst 0, 1) := by decide +kernel
theorem dX8_run_28 : decode cX8_run 28 = .ok (.putfield 142, 3) := by decide +kernel
theorem dX8_run_31 : decode cX8_run 31 = .ok (.aload_n 0, 1) := by decide +kernel
theorem dX8_run_32 : decode cX8_run 32 = .ok (.iconst 0, 1) := by decide +kernel
theorem dX8_run_33 : decode cX8_run 33 = .ok (.putfield 145, 3) := by decide +kernel
theorem dX8_run_36 : decode cX8_run 36 = .ok (.aload_n 0, 1) := by decide +kernel
theorem dX8_run_37 : decode cX8_run 37 = .ok (.iconst 0, 1) := by decide +kernel
theorem dX8_run_38 : decode cX8_run 38 = .ok (.putfield 170, 3) := by decide +kernel
theorem dX8_run_41 : decode cX8_run 41 = .ok (.aload_n 0, 1) := by decide +kernel
theorem dX8_run_42 : decode cX8_run 42 = .ok (.iconst 0, 1) := by decide +kernel
theorem dX8_run_43 : decode cX8_run 43 = .ok (.putfield 226, 3) := by decide +kernel
theorem dX8_run_46 : decode cX8_run 46 = .ok (.aload_n 0, 1) := by decide +kernel
theorem dX8_run_47 : decode cX8_run 47 = .ok (.iconst 0, 1) := by decide +kernel
theorem dX8_run_48 : decode cX8_run 48 = .ok (.putfield 182, 3) := by decide +kernel
theorem dX8_run_51 : decode cX8_run 51 = .ok (.aload_n 0, 1) := by decide +kernel
theorem dX8_run_52 : decode cX8_run 52 = .ok (.iconst 0, 1) := by decide +kernel
theorem dX8_run_53 : decode cX8_run 53 = .ok (.putfield 220, 3) := by decide +kernel
theorem dX8_run_56 : decode cX8_run 56 = .ok (.aload_n 0, 1) := by decide +kernel
theorem dX8_run_57 : decode cX8_run 57 = .ok (.iconst 0, 1) := by decide +kernel
theorem dX8_run_58 : decode cX8_run 58 = .ok (.putfield 223, 3) := by decide +kernel
theorem dX8_run_61 : decode cX8_run 61 = .ok (.aload_n 0, 1) := by decide +kernel
theorem dX8_run_62 : decode cX8_run 62 = .ok (.iconst 0, 1) := by decide +kernel
theorem dX8_run_63 : decode cX8_run 63 = .ok (.putfield 210, 3) := by decide +kernel
theorem dX8_run_66 : decode cX8_run 66 = .ok (.aload_n 0, 1) := by decide +kernel
theorem dX8_run_67 : decode cX8_run 67 = .ok (.iconst 0, 1) := by decide +kernel
theorem dX8_run_68 : decode cX8_run 68 = .ok (.putfield 176, 3) := by decide +kernel
theorem dX8_run_71 : decode cX8_run 71 = .ok (.aload_n 0, 1) := by decide +kernel
theorem dX8_run_72 : decode cX8_run 72 = .ok (.iconst 0, 1) := by decide +kernel
theorem dX8_run_73 : decode cX8_run 73 = .ok (.putfield 207, 3) := by decide +kernel
theorem dX8_run_76 : decode cX8_run 76 = .ok (.aload_n 0, 1) := by decide +kernel
theorem dX8_run_77 : decode cX8_run 77 = .ok (.iconst 0, 1) := by decide +kernel
theorem dX8_run_78 : decode cX8_run 78 = .ok (.putfield 81, 3) := by decide +kernel
theorem dX8_run_81 : decode cX8_run 81 = .ok (.aload_n 0, 1) := by decide +kernel
theorem dX8_run_82 : decode cX8_run 82 = .ok (.iconst (-1), 1) := by decide +kernel
theorem dX8_run_83 : decode cX8_run 83 = .ok (.putfield 185, 3) := by decide +kernel
theorem dX8_run_86 : decode cX8_run 86 = .ok (.iconst 0, 1) := by decide +kernel
theorem dX8_run_87 : decode cX8_run 87 = .ok (.istore 4, 2) := by decide +kernel
theorem dX8_run_89 : decode cX8_run 89 = .ok (.iload 4, 2) := by decide +kernel
theorem dX8_run_91 : decode cX8_run 91 = .ok (.bipush 8, 2) := by decide +kernel
theorem dX8_run_93 : decode cX8_run 93 = .ok (.if_icmp .ge 17, 3) := by decide +kernel
theorem dX8_run_96 : decode cX8_run 96 = .ok (.aload_n 0, 1) := by decide +kernel
theorem dX8_run_97 : decode cX8_run 97 = .ok (.getfield 69, 3) := by decide +kernel
theorem dX8_run_100 : decode cX8_run 100 = .ok (.iload 4, 2) := by decide +kernel
theorem dX8_run_102 : decode cX8_run 102 = .ok (.iconst 0, 1) := by decide +kernel
theorem dX8_run_103 : decode cX8_run 103 = .ok (.iastore, 1) := by decide +kernel
theorem dX8_run_104 : decode cX8_run 104 = .ok (.iinc 4 1, 3) := by decide +kernel
theorem dX8_run_107 : decode cX8_run 107 = .ok (.goto (-18), 3) := by decide +kernel
theorem dX8_run_110 : decode cX8_run 110 = .ok (.aload_n 0, 1) := by decide +kernel
theorem dX8_run_111 : decode cX8_run 111 = .ok (.iload_n 1, 1) := by decide +kernel
theorem dX8_run_112 : decode cX8_run 112 = .ok (.iload_n 2, 1) := by decide +kernel
theorem dX8_run_113 : decode cX8_run 113 = .ok (.iload_n 3, 1) := by decide +kernel
theorem dX8_run_114 : decode cX8_run 114 = .ok (.iconst (-1), 1) := by decide +kernel
theorem dX8_run_115 : decode cX8_run 115 = .ok (.invokevirtual 191, 3) := by decide +kernel
theorem dX8_run_118 : decode cX8_run 118 = .ok (.aload_n 0, 1) := by decide +kernel
theorem dX8_run_119 : decode cX8_run 119 = .ok (.getfield 185, 3) := by decide +kernel
theorem dX8_run_122 : decode cX8_run 122 = .ok (.ifCond .ge 42, 3) := by decide +kernel
theorem dX8_run_125 : decode cX8_run 125 = .ok (.aload_n 0, 1) := by decide +kernel
theorem dX8_run_126 : decode cX8_run 126 = .ok (.getfield 226, 3) := by decide +kernel
theorem dX8_run_129 : decode cX8_run 129 = .ok (.sipush 300, 3) := by decide +kernel
theorem dX8_run_132 : decode cX8_run 132 = .ok (.if_icmp .ne 11, 3) := by decide +kernel
theorem dX8_run_135 : decode cX8_run 135 = .ok (.aload_n 0, 1) := by decide +kernel
theorem dX8_run_136 : decode cX8_run 136 = .ok (.iconst 3, 1) := by decide +kernel
theorem dX8_run_137 : decode cX8_run 137 = .ok (.putfield 185, 3) := by decide +kernel
theorem dX8_run_140 : decode cX8_run 140 = .ok (.goto (-22), 3) := by decide +kernel
theorem dX8_run_143 : decode cX8_run 143 = .ok (.aload_n 0, 1) := by decide +kernel
theorem dX8_run_144 : decode cX8_run 144 = .ok (.dup, 1) := by decide +kernel
theorem dX8_run_145 : decode cX8_run 145 = .ok (.getfield 226, 3) := by decide +kernel
theorem dX8_run_148 : decode cX8_run 148 = .ok (.iconst 1, 1) := by decide +kernel
theorem dX8_run_149 : decode cX8_run 149 = .ok (.iadd, 1) := by decide +kernel
theorem dX8_run_150 : decode cX8_run 150 = .ok (.putfield 226, 3) := by decide +kernel
theorem dX8_run_153 : decode cX8_run 153 = .ok (.aload_n 0, 1) := by decide +kernel
theorem dX8_run_154 : decode cX8_run 154 = .ok (.invokevirtual 229, 3) := by decide +kernel
theorem dX8_run_157 : decode cX8_run 157 = .ok (.aload_n 0, 1) := by decide +kernel
theorem dX8_run_158 : decode cX8_run 158 = .ok (.invokevirtual 232, 3) := by decide +kernel
theorem dX8_run_161 : decode cX8_run 161 = .ok (.goto (-43), 3) := by decide +kernel
theorem dX8_run_164 : decode cX8_run 164 = .ok (.aload_n 0, 1) := by decide +kernel
theorem dX8_run_165 : decode cX8_run 165 = .ok (.getfield 142, 3) := by decide +kernel
theorem dX8_run_168 : decode cX8_run 168 = .ok (.ifCond .le 10, 3) := by decide +kernel
theorem dX8_run_171 : decode cX8_run 171 = .ok (.aload_n 0, 1) := by decide +kernel
theorem dX8_run_172 : decode cX8_run 172 = .ok (.invokevirtual 179, 3) := by decide +kernel
theorem dX8_run_175 : decode cX8_run 175 = .ok (.goto (-11), 3) := by decide +kernel
theorem dX8_run_178 : decode cX8_run 178 = .ok (.aload_n 0, 1) := by decide +kernel
theorem dX8_run_179 : decode cX8_run 179 = .ok (.getfield 185, 3) := by decide +kernel
theorem dX8_run_182 : decode cX8_run 182 = .ok (.ireturn, 1) := by decide +kernel
theorem dX8_told_0 : decode cX8_told 0 = .ok (.aload_n 0, 1) := by decide +kernel
theorem dX8_told_1 : decode cX8_told 1 = .ok (.iconst 0, 1) := by decide +kernel
theorem dX8_told_2 : decode cX8_told 2 = .ok (.putfield 72, 3) := by decide +kernel
theorem dX8_told_5 : decode cX8_told 5 = .ok (.iload_n 1, 1) := by decide +kernel
theorem dX8_told_6 : decode cX8_told 6 = .ok (.tableswitch 95 0 8 #[50, 55, 60, 65, 70, 75, 80, 85, 90], 50) := by decide +kernel
theorem dX8_told_56 : decode cX8_told 56 = .ok (.aload_n 0, 1) := by decide +kernel
theorem dX8_told_57 : decode cX8_told 57 = .ok (.getfield 226, 3) := by decide +kernel
theorem dX8_told_60 : decode cX8_told 60 = .ok (.ireturn, 1) := by decide +kernel
theorem dX8_told_61 : decode cX8_told 61 = .ok (.aload_n 0, 1) := by decide +kernel
theorem dX8_told_62 : decode cX8_told 62 = .ok (.getfield 182, 3) := by decide +kernel
theorem dX8_told_65 : decode cX8_told 65 = .ok (.ireturn, 1) := by decide +kernel
theorem dX8_told_66 : decode cX8_told 66 = .ok (.aload_n 0, 1) := by decide +kernel
theorem dX8_told_67 : decode cX8_told 67 = .ok (.getfield 220, 3) := by decide +kernel
theorem dX8_told_70 : decode cX8_told 70 = .ok (.ireturn, 1) := by decide +kernel
theorem dX8_told_71 : decode cX8_told 71 = .ok (.aload_n 0, 1) := by decide +kernel
theorem dX8_told_72 : decode cX8_told 72 = .ok (.getfield 223, 3) := by decide +kernel
theorem dX8_told_75 : decode cX8_told 75 = .ok (.ireturn, 1) := by decide +kernel
theorem dX8_told_76 : decode cX8_told 76 = .ok (.aload_n 0, 1) := by decide +kernel
theorem dX8_told_77 : decode cX8_told 77 = .ok (.getfield 210, 3) := by decide +kernel
theorem dX8_told_80 : decode cX8_told 80 = .ok (.ireturn, 1) := by decide +kernel
theorem dX8_told_81 : decode cX8_told 81 = .ok (.aload_n 0, 1) := by decide +kernel
theorem dX8_told_82 : decode cX8_told 82 = .ok (.getfield 170, 3) := by decide +kernel
theorem dX8_told_85 : decode cX8_told 85 = .ok (.ireturn, 1) := by decide +kernel
theorem dX8_told_86 : decode cX8_told 86 = .ok (.aload_n 0, 1) := by decide +kernel
theorem dX8_told_87 : decode cX8_told 87 = .ok (.getfield 176, 3) := by decide +kernel
theorem dX8_told_90 : decode cX8_told 90 = .ok (.ireturn, 1) := by decide +kernel
theorem dX8_told_91 : decode cX8_told 91 = .ok (.aload_n 0, 1) := by decide +kernel
theorem dX8_told_92 : decode cX8_told 92 = .ok (.getfield 139, 3) := by decide +kernel
theorem dX8_told_95 : decode cX8_told 95 = .ok (.ireturn, 1) := by decide +kernel
theorem dX8_told_96 : decode cX8_told 96 = .ok (.aload_n 0, 1) := by decide +kernel
theorem dX8_told_97 : decode cX8_told 97 = .ok (.getfield 128, 3) := by decide +kernel
theorem dX8_told_100 : decode cX8_told 100 = .ok (.ireturn, 1) := by decide +kernel
theorem dX8_told_101 : decode cX8_told 101 = .ok (.bipush (-2), 2) := by decide +kernel
theorem dX8_told_103 : decode cX8_told 103 = .ok (.ireturn, 1) := by decide +kernel
theorem dX8_printed_0 : decode cX8_printed 0 = .ok (.aload_n 0, 1) := by decide +kernel
theorem dX8_printed_1 : decode cX8_printed 1 = .ok (.iconst 0, 1) := by decide +kernel
theorem dX8_printed_2 : decode cX8_printed 2 = .ok (.putfield 72, 3) := by decide +kernel
theorem dX8_printed_5 : decode cX8_printed 5 = .ok (.iload_n 1, 1) := by decide +kernel
theorem dX8_printed_6 : decode cX8_printed 6 = .ok (.ifCond .lt 11, 3) := by decide +kernel
theorem dX8_printed_9 : decode cX8_printed 9 = .ok (.iload_n 1, 1) := by decide +kernel
theorem dX8_printed_10 : decode cX8_printed 10 = .ok (.aload_n 0, 1) := by decide +kernel
theorem dX8_printed_11 : decode cX8_printed 11 = .ok (.getfield 170, 3) := by decide +kernel
theorem dX8_printed_14 : decode cX8_printed 14 = .ok (.if_icmp .lt 10, 3) := by decide +kernel
theorem dX8_printed_17 : decode cX8_printed 17 = .ok (.aload_n 0, 1) := by decide +kernel
theorem dX8_printed_18 : decode cX8_printed 18 = .ok (.iconst 1, 1) := by decide +kernel
theorem dX8_printed_19 : decode cX8_printed 19 = .ok (.putfield 72, 3) := by decide +kernel
theorem dX8_printed_22 : decode cX8_printed 22 = .ok (.iconst 0, 1) := by decide +kernel
theorem dX8_printed_23 : decode cX8_printed 23 = .ok (.ireturn, 1) := by decide +kernel
theorem dX8_printed_24 : decode cX8_printed 24 = .ok (.aload_n 0, 1) := by decide +kernel
theorem dX8_printed_25 : decode cX8_printed 25 = .ok (.getfield 66, 3) := by decide +kernel
theorem dX8_printed_28 : decode cX8_printed 28 = .ok (.iload_n 1, 1) := by decide +kernel
theorem dX8_printed_29 : decode cX8_printed 29 = .ok (.iaload, 1) := by decide +kernel
theorem dX8_printed_30 : decode cX8_printed 30 = .ok (.ireturn, 1) := by decide +kernel
theorem dX8_left_0 : decode cX8_left 0 = .ok (.aload_n 0, 1) := by decide +kernel
theorem dX8_left_1 : decode cX8_left 1 = .ok (.iconst 0, 1) := by decide +kernel
theorem dX8_left_2 : decode cX8_left 2 = .ok (.putfield 72, 3) := by decide +kernel
theorem dX8_left_5 : decode cX8_left 5 = .ok (.iload_n 1, 1) := by decide +kernel
theorem dX8_left_6 : decode cX8_left 6 = .ok (.ifCond .lt 9, 3) := by decide +kernel
theorem dX8_left_9 : decode cX8_left 9 = .ok (.iload_n 1, 1) := by decide +kernel
theorem dX8_left_10 : decode cX8_left 10 = .ok (.bipush 7, 2) := by decide +kernel
theorem dX8_left_12 : decode cX8_left 12 = .ok (.if_icmp .le 7, 3) := by decide +kernel
theorem dX8_left_15 : decode cX8_left 15 = .ok (.iconst (-1), 1) := by decide +kernel
theorem dX8_left_16 : decode cX8_left 16 = .ok (.goto 9, 3) := by decide +kernel
theorem dX8_left_19 : decode cX8_left 19 = .ok (.aload_n 0, 1) := by decide +kernel
theorem dX8_left_20 : decode cX8_left 20 = .ok (.getfield 69, 3) := by decide +kernel
theorem dX8_left_23 : decode cX8_left 23 = .ok (.iload_n 1, 1) := by decide +kernel
theorem dX8_left_24 : decode cX8_left 24 = .ok (.iaload, 1) := by decide +kernel
theorem dX8_left_25 : decode cX8_left 25 = .ok (.ireturn, 1) := by decide +kernel
theorem dJ7_fill_53178_0 : decode cJ7_fill_53178 0 = .ok (.iconst 0, 1) := by decide +kernel
theorem dJ7_fill_53178_1 : decode cJ7_fill_53178 1 = .ok (.istore_n 2, 1) := by decide +kernel
theorem dJ7_fill_53178_2 : decode cJ7_fill_53178 2 = .ok (.aload_n 0, 1) := by decide +kernel
theorem dJ7_fill_53178_3 : decode cJ7_fill_53178 3 = .ok (.arraylength, 1) := by decide +kernel
theorem dJ7_fill_53178_4 : decode cJ7_fill_53178 4 = .ok (.istore_n 3, 1) := by decide +kernel
theorem dJ7_fill_53178_5 : decode cJ7_fill_53178 5 = .ok (.iload_n 2, 1) := by decide +kernel
theorem dJ7_fill_53178_6 : decode cJ7_fill_53178 6 = .ok (.iload_n 3, 1) := by decide +kernel
theorem dJ7_fill_53178_7 : decode cJ7_fill_53178 7 = .ok (.if_icmp .ge 13, 3) := by decide +kernel
theorem dJ7_fill_53178_10 : decode cJ7_fill_53178 10 = .ok (.aload_n 0, 1) := by decide +kernel
theorem dJ7_fill_53178_11 : decode cJ7_fill_53178 11 = .ok (.iload_n 2, 1) := by decide +kernel
theorem dJ7_fill_53178_12 : decode cJ7_fill_53178 12 = .ok (.iload_n 1, 1) := by decide +kernel
theorem dJ7_fill_53178_13 : decode cJ7_fill_53178 13 = .ok (.iastore, 1) := by decide +kernel
theorem dJ7_fill_53178_14 : decode cJ7_fill_53178 14 = .ok (.iinc 2 1, 3) := by decide +kernel
theorem dJ7_fill_53178_17 : decode cJ7_fill_53178 17 = .ok (.goto (-12), 3) := by decide +kernel
theorem dJ7_fill_53178_20 : decode cJ7_fill_53178 20 = .ok (.return_, 1) := by decide +kernel
end
section
/-! java.util.Arrays.fill of an int array, whichever cell it is -/
def rm_fill : Room := { frames := 0, cells := 0, slots := 0, locals := 0 }
theorem zr_zr (σ : zS) (k : Nat) (f g : Nat → Int32) : zr (zr σ k f) k g = zr σ k g := by
  funext j
  unfold zr
  by_cases h : j = k
  · rw [if_pos h, if_pos h]
  · rw [if_neg h, if_neg h, if_neg h]
theorem zr_at (σ : zS) (k : Nat) (f : Nat → Int32) : zr σ k f k = f := by unfold zr; rw [if_pos rfl]
theorem zfill_0 (f : Nat → Int32) (v : Int32) : zfill f 0 v = f := by
  funext j; unfold zfill; rw [if_neg (Nat.not_lt_zero j)]
theorem zfill_s (f : Nat → Int32) (n : Nat) (v : Int32) : upd (zfill f n v) n v = zfill f (n + 1) v := by
  funext j
  unfold upd zfill
  by_cases h : j = n
  · rw [if_pos h, if_pos (by omega)]
  · rw [if_neg h]
    by_cases h2 : j < n
    · rw [if_pos h2, if_pos (by omega)]
    · rw [if_neg h2, if_neg (by omega)]
theorem zr_self (σ : zS) (k : Nat) : zr σ k (σ k) = σ := by
  funext j
  unfold zr
  by_cases h : j = k
  · rw [if_pos h, h]
  · rw [if_neg h]
set_option maxHeartbeats 4000000 in
set_option maxRecDepth 100000 in
theorem g_fill_L {E : zG} {Γ : zX} (C : zO E Γ RJ7 cJ7_fill_53178 4 none) (k N : Nat) (hk : k < z_N) (he : ∀ f, z_E E k f = .inl (zac E 0, N, .inl f)) (hN : N < 2 ^ 31) (v : Int32) (σ : zS) :
    ∀ (d j : Nat), j + d = N → ∀ σ2, σ2 = zr σ k (zfill (σ k) j v) → zJ E Γ rm_fill 4 (fun _ : Unit => none) (some ((), zr σ k (zfill (σ k) N v))) σ2 5 [some (.ref (zad E k)), some (.int v), some (.int (nI j)), some (.int (nI N))] [] := by
  intro d
  induction d with
  | zero =>
    intro j hj σ2 hσ
    have hjN : j = N := by omega
    subst hjN
    subst hσ
    refine r_iload_n (pc := 5) C dJ7_fill_53178_5 rfl ?_
    refine r_iload_n (pc := 6) C dJ7_fill_53178_6 rfl ?_
    refine zJ_if (q := nI j ≤ nI j) (nI_le (Nat.le_refl j) hN) (P2 := none) ?_
    refine r_icmp_ge (pc := 7) (tgt := 20) C dJ7_fill_53178_7 (by decide) (fun _ => ?_) (fun _ => r_none)
    exact r_vret (pc := 20) C dJ7_fill_53178_20
  | succ d ih =>
    intro j hj σ2 hσ
    have hjN : j < N := by omega
    refine r_iload_n (pc := 5) C dJ7_fill_53178_5 rfl ?_
    refine r_iload_n (pc := 6) C dJ7_fill_53178_6 rfl ?_
    refine zJ_nif (q := nI N ≤ nI j) (nI_ge hjN hN) (P1 := none) ?_
    refine r_icmp_ge (pc := 7) (tgt := 20) C dJ7_fill_53178_7 (by decide) (fun _ => r_none) (fun _ => ?_)
    refine r_aload_n (pc := 10) C dJ7_fill_53178_10 rfl ?_
    refine r_iload_n (pc := 11) C dJ7_fill_53178_11 rfl ?_
    refine r_iload_n (pc := 12) C dJ7_fill_53178_12 rfl ?_
    refine zJ_zcl (i := nI j) (n := N) (zu σ2 k (nI j).toNatClampNeg v) (vp_in_nI hjN hN) ?_
    refine r_iast (pc := 13) (t0 := 0) C k hk (he _) he rfl dJ7_fill_53178_13 (fun σ3 hσ3 => ?_)
    refine r_iinc (pc := 14) (lv' := [some (.ref (zad E k)), some (.int v), some (.int (nI (j + 1))), some (.int (nI N))]) C dJ7_fill_53178_14 (by decide) rfl (nI_1 j) rfl ?_
    refine r_goto (pc := 17) (tgt := 5) C dJ7_fill_53178_17 (by decide) ?_
    refine ih (j + 1) (by omega) σ3 ?_
    rw [hσ3, hσ, nI_clamp (Nat.lt_trans hjN hN)]
    unfold zu
    rw [zr_at, zr_zr, zfill_s]
set_option maxHeartbeats 4000000 in
set_option maxRecDepth 100000 in
theorem c_fill {E : zG} (hAp : zAp E) (k N : Nat) (hk : k < z_N) (he : ∀ f, z_E E k f = .inl (zac E 0, N, .inl f)) (hN : N < 2 ^ 31) (v : Int32) (σ : zS) : zM E yJ7_fill_53178 cJ7_fill_53178 4 none rm_fill (fun _ : Unit => none) [.ref (zad E k), .int v] (some ((), zr σ k (zfill (σ k) N v))) σ := by
  refine zM_of (nn := 2) hAp (by decide) (Nat.le_of_ble_eq_true rfl) rfl rfl (fun Γ C => ?_)
  refine r_iconst (pc := 0) (v := 0) C dJ7_fill_53178_0 (by decide) ?_
  refine r_istore_n (pc := 1) (lv' := [some (.ref (zad E k)), some (.int v), some (.int 0), none]) C dJ7_fill_53178_1 (by decide) rfl ?_
  refine r_aload_n (pc := 2) C dJ7_fill_53178_2 rfl ?_
  refine r_alen (pc := 3) (v := nI N) (t0 := 0) C k hk (he _) rfl rfl dJ7_fill_53178_3 ?_
  refine r_istore_n (pc := 4) (lv' := [some (.ref (zad E k)), some (.int v), some (.int (nI 0)), some (.int (nI N))]) C dJ7_fill_53178_4 (by decide) (by rw [nI_0]; rfl) ?_
  refine g_fill_L C k N hk he hN v σ N 0 (Nat.zero_add N) σ ?_
  rw [zfill_0, zr_self]
set_option maxHeartbeats 4000000 in
set_option maxRecDepth 100000 in
theorem r_fill {E : zG} {Γ : zX} {R : Room} {nL pc index N : Nat} {ρ : Type} {Q : ρ × zS → State → Prop} {cx sx : Nat} {K2 : zS → Option (ρ × zS)} {σ : zS} {lv : List (Option Value)} {rest : List Value} {own : String} {cc : ByteArray} {ret : Option FieldType} {v : Int32} (C : zO E Γ own cc nL ret) (k : Nat) (hk : k < z_N) (he : ∀ f, z_E E k f = .inl (zac E 0, N, .inl f)) (hN : N < 2 ^ 31) (hlink : Cond.methodLink own index yJ7_fill_53178 ∈ lw_good) (hR : rm_fill.frames + 1 ≤ R.frames ∧ 8 + (4 + 11) + rm_fill.locals ≤ R.locals) (hst : (rest.map fun v => v.category).sum ≤ 8) (hcs : cx ≤ R.cells ∧ sx ≤ R.slots) (hd : decode cc pc = .ok (.invokestatic index, 3)) (kk : ∀ σ1, σ1 = zr σ k (zfill (σ k) N v) → zJg E Γ R nL Q cx sx (K2 σ1) σ1 (pc + 3) lv rest) : zJg E Γ R nL Q cx sx (zlet (zr σ k (zfill (σ k) N v)) K2) σ pc lv (.int v :: .ref (zad E k) :: rest) := by
  have h := r_callS (n := 2) (As := [.ref (zad E k), .int v]) (K := fun _ σ1 => K2 σ1) (R := R) (Q := Q) (cx := cx) (sx := sx) (lv := lv) (rest := rest) C (c_fill (zO.ap C) k N hk he hN v σ) lk_fc lk_fi hlink lk_fs (by decide +kernel) rfl ⟨rfl, rfl⟩ hR hst hcs hd (fun _ σ1 hq => kk σ1 (by cases hq; rfl))
  exact h
end
section

end
section
/-! What is made: constructors, over explicit worlds -/
def zB (E : zG) (Γ : zX) (R : Room) (nL : Nat) (A : Nat → Prop) (Q : State → Prop) (cx sx : Nat) (ws : va_W) (pc : Nat) (lv : List (Option Value)) (st : List Value) : Prop :=
  match Γ with
  | (p, e, s, m, args, below, meth, c) => ∀ (H : Heap) (locs : List Loc) (ls : Array Slot), va_P (zD E) z_cl ws H → va_D A ws → va_S A s.heap H locs → zL ls nL lv → W p (zl E) e R s m args below meth c H locs cx sx Q (F0 m pc ls st)
def zOB (E : zG) (Γ : zX) (own : String) (cc : ByteArray) (nL : Nat) (A : Nat → Prop) : Prop :=
  match Γ with
  | (p, _, s, m, args, _, meth, c) => p.tables.exec = Jvm.exec ∧ c.code = cc ∧ c.maxLocals = nL ∧ s.vm.findClass own = some m.cls ∧ (∀ w ∈ lw_good, w.before args s = true) ∧ zK E s ∧ meth.locks = false ∧ (∀ q, s.heap.size ≤ q → A q) ∧ ∀ q, A q → zA E q
def zIn (Γ : zX) : Prop := match Γ with
  | (_, _, _, _, _, _, meth, _) => meth.name = "<init>"
/-- a constructor's contract: out of the cells w0 it makes the cells w1 as, 'as' the n new addresses -/
def zI (E : zG) (y : MethodName) (bytes : ByteArray) (maxL : Nat) (rm : Room) (av : List Value) (w0 : va_W) (n : Nat) (w1 : List Nat → va_W) (mc ms : Nat) : Prop :=
  ∀ sz, Met (zl E) y (zws y bytes maxL none) rm (va_Pc av (fun U => U.heap.size = sz ∧ zZ E ≤ sz ∧ va_P (zD E) z_cl w0 U.heap ∧ va_D (zA E) w0 ∧ zK E U)) (fun _ st oc t => oc = .returned none ∧ (∃ as : List Nat, as.length = n ∧ va_P (zD E) z_cl (w1 as) t.heap ∧ va_D (va_A w0 sz) (w1 as)) ∧ va_F (va_A w0 sz) st t) mc ms (va_A w0 sz)
section zBorn
variable {E : zG} {Γ : zX} {R : Room} {nL : Nat} {A : Nat → Prop} {Q : State → Prop} {cx sx : Nat} {ws : va_W} {pc : Nat} {lv : List (Option Value)} {rest : List Value} {own : String} {cc : ByteArray}
theorem b_iconst {n : Int} {v : Int32} (C : zOB E Γ own cc nL A) (hd : decode cc pc = .ok (.iconst n, 1)) (hv : Int32.ofInt n = v) (k : zB E Γ R nL A Q cx sx ws (pc + 1) lv (.int v :: rest)) : zB E Γ R nL A Q cx sx ws pc lv (rest) := by
  obtain ⟨p, e, s, m, args, below, meth, c⟩ := Γ
  obtain ⟨hx, hb, hml, hown, hts, hK, hlk, hA, hAZ⟩ := C
  intro H locs ls hP hD hS hl
  exact lv_iconst hx hb hd hv (k H locs ls hP hD hS hl)
theorem b_bipush {n : Int} {v : Int32} (C : zOB E Γ own cc nL A) (hd : decode cc pc = .ok (.bipush n, 2)) (hv : (Int8.ofInt n).toInt32 = v) (k : zB E Γ R nL A Q cx sx ws (pc + 2) lv (.int v :: rest)) : zB E Γ R nL A Q cx sx ws pc lv (rest) := by
  obtain ⟨p, e, s, m, args, below, meth, c⟩ := Γ
  obtain ⟨hx, hb, hml, hown, hts, hK, hlk, hA, hAZ⟩ := C
  intro H locs ls hP hD hS hl
  exact lv_bipush hx hb hd hv (k H locs ls hP hD hS hl)
theorem b_sipush {n : Int} {v : Int32} (C : zOB E Γ own cc nL A) (hd : decode cc pc = .ok (.sipush n, 3)) (hv : (Int16.ofInt n).toInt32 = v) (k : zB E Γ R nL A Q cx sx ws (pc + 3) lv (.int v :: rest)) : zB E Γ R nL A Q cx sx ws pc lv (rest) := by
  obtain ⟨p, e, s, m, args, below, meth, c⟩ := Γ
  obtain ⟨hx, hb, hml, hown, hts, hK, hlk, hA, hAZ⟩ := C
  intro H locs ls hP hD hS hl
  exact lv_sipush hx hb hd hv (k H locs ls hP hD hS hl)
theorem b_dup {va : Value} (C : zOB E Γ own cc nL A) (hd : decode cc pc = .ok (.dup, 1)) (h1 : va.category = 1) (k : zB E Γ R nL A Q cx sx ws (pc + 1) lv (va :: va :: rest)) : zB E Γ R nL A Q cx sx ws pc lv (va :: rest) := by
  obtain ⟨p, e, s, m, args, below, meth, c⟩ := Γ
  obtain ⟨hx, hb, hml, hown, hts, hK, hlk, hA, hAZ⟩ := C
  intro H locs ls hP hD hS hl
  exact lv_dup hx hb hd h1 (k H locs ls hP hD hS hl)
theorem b_iload_n {x : Int32} {i : Fin 4} (C : zOB E Γ own cc nL A) (hd : decode cc pc = .ok (.iload_n i, 1)) (hv : lv[(i : Nat)]? = some (some (.int x))) (k : zB E Γ R nL A Q cx sx ws (pc + 1) lv (.int x :: rest)) : zB E Γ R nL A Q cx sx ws pc lv rest := by
  obtain ⟨p, e, s, m, args, below, meth, c⟩ := Γ
  obtain ⟨hx, hb, hml, hown, hts, hK, hlk, hA, hAZ⟩ := C
  intro H locs ls hP hD hS hl
  exact lv_iload_n hx hb hd rfl (hl.2.2 _ _ hv).1 (k H locs ls hP hD hS hl)
theorem b_istore_n {x : Int32} {i : Fin 4} {lv' : List (Option Value)} (C : zOB E Γ own cc nL A) (hd : decode cc pc = .ok (.istore_n i, 1)) (hn : (i : Nat) < nL) (hv : lv.set (i : Nat) (some (.int x)) = lv') (k : zB E Γ R nL A Q cx sx ws (pc + 1) lv' rest) : zB E Γ R nL A Q cx sx ws pc lv (.int x :: rest) := by
  obtain ⟨p, e, s, m, args, below, meth, c⟩ := Γ
  obtain ⟨hx, hb, hml, hown, hts, hK, hlk, hA, hAZ⟩ := C
  intro H locs ls hP hD hS hl
  subst hv
  exact lv_istore_n hx hb hd rfl hl.has hn rfl (fun ls' h' => k H locs ls' hP hD hS (hl.put rfl h'))
theorem b_aload_n {x : Nat} {i : Fin 4} (C : zOB E Γ own cc nL A) (hd : decode cc pc = .ok (.aload_n i, 1)) (hv : lv[(i : Nat)]? = some (some (.ref x))) (k : zB E Γ R nL A Q cx sx ws (pc + 1) lv (.ref x :: rest)) : zB E Γ R nL A Q cx sx ws pc lv rest := by
  obtain ⟨p, e, s, m, args, below, meth, c⟩ := Γ
  obtain ⟨hx, hb, hml, hown, hts, hK, hlk, hA, hAZ⟩ := C
  intro H locs ls hP hD hS hl
  exact lv_aload_n hx hb hd rfl (hl.2.2 _ _ hv).1 (k H locs ls hP hD hS hl)
theorem b_astore_n {x : Nat} {i : Fin 4} {lv' : List (Option Value)} (C : zOB E Γ own cc nL A) (hd : decode cc pc = .ok (.astore_n i, 1)) (hn : (i : Nat) < nL) (hv : lv.set (i : Nat) (some (.ref x)) = lv') (k : zB E Γ R nL A Q cx sx ws (pc + 1) lv' rest) : zB E Γ R nL A Q cx sx ws pc lv (.ref x :: rest) := by
  obtain ⟨p, e, s, m, args, below, meth, c⟩ := Γ
  obtain ⟨hx, hb, hml, hown, hts, hK, hlk, hA, hAZ⟩ := C
  intro H locs ls hP hD hS hl
  subst hv
  exact lv_astore_n hx hb hd rfl hl.has hn rfl (fun ls' h' => k H locs ls' hP hD hS (hl.put rfl h'))
theorem b_iinc {x v : Int32} {i : Nat} {n : Int} {lv' : List (Option Value)} (C : zOB E Γ own cc nL A) (hd : decode cc pc = .ok (.iinc i n, 3)) (hn : i < nL) (hg : lv[i]? = some (some (.int x))) (hx2 : x + Int32.ofInt n = v) (hv : lv.set i (some (.int v)) = lv') (k : zB E Γ R nL A Q cx sx ws (pc + 3) lv' rest) : zB E Γ R nL A Q cx sx ws pc lv rest := by
  obtain ⟨p, e, s, m, args, below, meth, c⟩ := Γ
  obtain ⟨hx, hb, hml, hown, hts, hK, hlk, hA, hAZ⟩ := C
  intro H locs ls hP hD hS hl
  subst hv
  obtain ⟨j, hj⟩ := List.getElem?_of_mem (zP_mem.mpr hg)
  exact lv_iinc hx hb hd hl.has hj hx2 hn rfl (fun ls' h' => k H locs ls' hP hD hS (hl.put rfl h'))
theorem b_goto {off : Int} {tgt : Nat} (C : zOB E Γ own cc nL A) (hd : decode cc pc = .ok (.goto off, 3)) (ht : (pc : Int) + off = (tgt : Int)) (k : zB E Γ R nL A Q cx sx ws tgt lv rest) : zB E Γ R nL A Q cx sx ws pc lv rest := by
  obtain ⟨p, e, s, m, args, below, meth, c⟩ := Γ
  obtain ⟨hx, hb, hml, hown, hts, hK, hlk, hA, hAZ⟩ := C
  intro H locs ls hP hD hS hl
  exact lv_goto hx hb hd ht (k H locs ls hP hD hS hl)
theorem b_geN {x y : Int32} {off : Int} (C : zOB E Γ own cc nL A) (hd : decode cc pc = .ok (.if_icmp .ge off, 3)) {tgt : Nat} (ht : (pc : Int) + off = (tgt : Int)) (hc : ¬ y ≤ x) (k : zB E Γ R nL A Q cx sx ws (pc + 3) lv rest) : zB E Γ R nL A Q cx sx ws pc lv (.int y :: .int x :: rest) := by
  obtain ⟨p, e, s, m, args, below, meth, c⟩ := Γ
  obtain ⟨hx, hb, hml, hown, hts, hK, hlk, hA, hAZ⟩ := C
  intro H locs ls hP hD hS hl
  exact lv_icmp_ge hx hb hd ht (fun q => absurd q hc) (fun _ => k H locs ls hP hD hS hl)
theorem b_geY {x y : Int32} {off : Int} {tgt : Nat} (C : zOB E Γ own cc nL A) (hd : decode cc pc = .ok (.if_icmp .ge off, 3)) (ht : (pc : Int) + off = (tgt : Int)) (hc : y ≤ x) (k : zB E Γ R nL A Q cx sx ws tgt lv rest) : zB E Γ R nL A Q cx sx ws pc lv (.int y :: .int x :: rest) := by
  obtain ⟨p, e, s, m, args, below, meth, c⟩ := Γ
  obtain ⟨hx, hb, hml, hown, hts, hK, hlk, hA, hAZ⟩ := C
  intro H locs ls hP hD hS hl
  exact lv_icmp_ge hx hb hd ht (fun _ => k H locs ls hP hD hS hl) (fun q => absurd hc q)
theorem b_obj {idx a : Nat} (C : zOB E Γ own cc nL A) (hd : decode cc pc = .ok (.invokespecial idx, 3)) (hlink : Cond.methodLink own idx objectInit ∈ lw_good) (hinst : Cond.instanceMethod objectInit ∈ lw_good) (hcode : Cond.code objectInit ⟨#[0xb1]⟩ 1 none ∈ lw_good) (hR : 1 ≤ R.frames) (hR2 : (rest.map fun v => v.category).sum + 12 ≤ R.locals) (k : zB E Γ R nL A Q cx sx ws (pc + 3) lv rest) : zB E Γ R nL A Q cx sx ws pc lv (.ref a :: rest) := by
  obtain ⟨p, e, s, m, args, below, meth, c⟩ := Γ
  obtain ⟨hx, hb, hml, hown, hts, hK, hlk, hA, hAZ⟩ := C
  intro H locs ls hP hD hS hl
  refine W.objInit hx hb hown (hts _ hlink) (hts _ hinst) (hts _ hcode) rfl (by rw [hml]; exact hl.1) rfl hd hR (by show 2 * 0 + _ + 12 ≤ _; omega) ?_
  exact k H locs ls hP hD hS hl
theorem b_get {ci N index : Nat} {Cn : String} {T : u_T} {ty : Nat → FieldType} {v : Value} {fs : List Value} {a : Nat} (C : zOB E Γ own cc nL A) (K : zCl ci Cn T N ty) (q0 j : Nat) (he : ws[q0]? = some (a, .inr (ci, fs))) (hj : j < N) (hlink : Cond.fieldLink own index (T j).1 (T j).2.1 (T j).2.2.1 ∈ lw_good) (hv : fs[j]? = some v) (hd : decode cc pc = .ok (.getfield index, 3)) (k : zB E Γ R nL A Q cx sx ws (pc + 3) lv (v :: rest)) : zB E Γ R nL A Q cx sx ws pc lv (.ref a :: rest) := by
  obtain ⟨p, e, s, m, args, below, meth, c⟩ := Γ
  obtain ⟨hx, hb, hml, hown, hts, hK, hlk, hA, hAZ⟩ := C
  intro H locs ls hP hD hS hl
  exact va_get (D := zD E) hx hb hts K.1 hown hK.1 hP q0 he K.2.1 j hj (hts _ hlink) (fun _ h => h) hv hd (k H locs ls hP hD hS hl)
theorem b_putF {ci N index : Nat} {Cn : String} {T : u_T} {ty : Nat → FieldType} {v : Value} {fs : List Value} {a : Nat} {tf : FieldType} {ws' : va_W} (C : zOB E Γ own cc nL A) (K : zCl ci Cn T N ty) (q0 j : Nat) (hin : zIn Γ) (hdecl : (T j).1 = own) (he : ws[q0]? = some (a, .inr (ci, fs))) (hj : j < N) (hlink : Cond.fieldLink own index (T j).1 (T j).2.1 (T j).2.2.1 ∈ lw_good) (hfin : (T j).2.2.2 = true) (hty : ty j = tf) (hn : narrow tf v = v) (hfit : fits tf v = true) (hl2 : j < fs.length) (hws : ws.set q0 (a, .inr (ci, fs.set j v)) = ws') (hd : decode cc pc = .ok (.putfield index, 3)) (k : zB E Γ R nL A Q cx sx ws' (pc + 3) lv rest) : zB E Γ R nL A Q cx sx ws pc lv (v :: .ref a :: rest) := by
  obtain ⟨p, e, s, m, args, below, meth, c⟩ := Γ
  obtain ⟨hx, hb, hml, hown, hts, hK, hlk, hA, hAZ⟩ := C
  intro H locs ls hP hD hS hl
  subst hws
  exact va_putF (D := zD E) (ty := tf) hx hb hts K.1 ty K.2.2.1 K.2.2.2 hown hK.1 hP hD hS q0 he K.2.1 j hj (hts _ hlink) (fun _ h => h) hfin hin hdecl (by rw [K.2.2.1 j hj, hty]) hn hfit hl2 hd (fun H1 locs1 hP1 hD1 hS1 => k H1 locs1 ls hP1 hD1 hS1 hl)
theorem b_put {ci N index : Nat} {Cn : String} {T : u_T} {ty : Nat → FieldType} {v : Value} {fs : List Value} {a : Nat} {tf : FieldType} {ws' : va_W} (C : zOB E Γ own cc nL A) (K : zCl ci Cn T N ty) (q0 j : Nat) (he : ws[q0]? = some (a, .inr (ci, fs))) (hj : j < N) (hlink : Cond.fieldLink own index (T j).1 (T j).2.1 (T j).2.2.1 ∈ lw_good) (hfin : (T j).2.2.2 = false) (hty : ty j = tf) (hn : narrow tf v = v) (hfit : fits tf v = true) (hl2 : j < fs.length) (hws : ws.set q0 (a, .inr (ci, fs.set j v)) = ws') (hd : decode cc pc = .ok (.putfield index, 3)) (k : zB E Γ R nL A Q cx sx ws' (pc + 3) lv rest) : zB E Γ R nL A Q cx sx ws pc lv (v :: .ref a :: rest) := by
  obtain ⟨p, e, s, m, args, below, meth, c⟩ := Γ
  obtain ⟨hx, hb, hml, hown, hts, hK, hlk, hA, hAZ⟩ := C
  intro H locs ls hP hD hS hl
  subst hws
  exact va_put (D := zD E) (ty := tf) hx hb hts K.1 ty K.2.2.1 K.2.2.2 hown hK.1 hP hD hS q0 he K.2.1 j hj (hts _ hlink) (fun _ h => h) hfin (by rw [K.2.2.1 j hj, hty]) hn hfit hl2 hd (fun H1 locs1 hP1 hD1 hS1 => k H1 locs1 ls hP1 hD1 hS1 hl)
theorem b_new {ci N index : Nat} {Cn : String} {T : u_T} {ty : Nat → FieldType} {fs : List Value} {cx2 sx2 : Nat} (C : zOB E Γ own cc nL A) (K : zCl ci Cn T N ty) (hcl : Cond.classLink own index Cn ∈ lw_good) (hinst : Cond.instantiable Cn N ∈ lw_good) (hini : Cond.initialized Cn ∈ lw_good) (hfs : ∀ j, j < N → defaultValue (ty j) = vp_V fs j) (hc : cx + 1 ≤ R.cells) (hs : sx + N ≤ R.slots) (h1 : cx + 1 = cx2) (h2 : sx + N = sx2) (hd : decode cc pc = .ok (.new index, 3)) (k : ∀ q, zB E Γ R nL A Q cx2 sx2 (ws ++ [(q, .inr (ci, fs))]) (pc + 3) lv (.ref q :: rest)) : zB E Γ R nL A Q cx sx ws pc lv rest := by
  obtain ⟨p, e, s, m, args, below, meth, c⟩ := Γ
  obtain ⟨hx, hb, hml, hown, hts, hK, hlk, hA, hAZ⟩ := C
  intro H locs ls hP hD hS hl
  subst h1; subst h2
  exact va_new hx hb hts K.1 ty K.2.2.1 hown (hts _ hcl) (hts _ hinst) (hts _ hini) hK.1 hP hD hS hA K.2.1 hfs hc hs hd (fun q H1 hP1 hD1 hS1 => k q H1 locs ls hP1 hD1 hS1 hl)
theorem zRA_one {E : zG} {s : State} {cA : ClassId} {ty : FieldType} {t0 : Nat} {c0 : ClassId} (hK : va_K (zD E) z_cl (z_ty E) s) (ht : (z_ty E)[t0]? = some (c0, ty)) (hK2 : va_K (zD E) z_cl (z_ty E ++ [(cA, ty)]) s) : cA = c0 := by
  have h1 := (hK.2 t0 _ ht).2
  have h2 := (hK2.2 (z_ty E).length (cA, ty) (by rw [List.getElem?_append_right (Nat.le_refl _), Nat.sub_self]; rfl)).2
  cases ty with
  | object C =>
    obtain ⟨_, _, _, _, _, a⟩ := h1
    obtain ⟨_, _, _, _, _, b⟩ := h2
    exact Option.some.inj (b.symm.trans a)
  | _ => exact Option.some.inj (h2.symm.trans h1)
theorem b_newa {atype : ArrayType} {tf : FieldType} {n : Int32} {N' t0 : Nat} {c0 : ClassId} {a0 : vp_A} {cx2 sx2 : Nat} (C : zOB E Γ own cc nL A) (harr : Cond.arrayClass (newarray.typeOf atype) ∈ lw_good) (hty : newarray.typeOf atype = tf) (ht : (z_ty E)[t0]? = some (c0, tf)) (ha : ∀ cA : ClassId, vp_cell cA a0 = arrV cA N' (fun _ => defaultValue tf)) (hn : ¬ n < 0) (hN : n.toNatClampNeg = N') (hbytes : N' * componentBytes tf ≤ 536870912) (hc : cx + 1 ≤ R.cells) (hs : sx + N' ≤ R.slots) (h1 : cx + 1 = cx2) (h2 : sx + N' = sx2) (hd : decode cc pc = .ok (.newarray atype, 2)) (k : ∀ q, zB E Γ R nL A Q cx2 sx2 (ws ++ [(q, .inl (c0, a0))]) (pc + 2) lv (.ref q :: rest)) : zB E Γ R nL A Q cx sx ws pc lv (.int n :: rest) := by
  obtain ⟨p, e, s, m, args, below, meth, c⟩ := Γ
  obtain ⟨hx, hb, hml, hown, hts, hK, hlk, hA, hAZ⟩ := C
  intro H locs ls hP hD hS hl
  subst h1; subst h2
  refine va_newa hx hb (hts _ harr) hty hK.1 hP hD hS hA ha hn hN hbytes hc hs hd (fun q cA H1 hK1 hP1 hD1 hS1 => ?_)
  cases zRA_one hK.1 ht hK1
  exact k q H1 locs ls hP1 hD1 hS1 hl
theorem b_anew {Cn : String} {index : Nat} {n : Int32} {N' t0 : Nat} {c0 : ClassId} {cx2 sx2 : Nat} (C : zOB E Γ own cc nL A) (hcl : Cond.classLink own index Cn ∈ lw_good) (hov : zK E Γ.2.2.1 → va_AO Cn Γ.2.2.1) (ht : (z_ty E)[t0]? = some (c0, .object Cn)) (hn : ¬ n < 0) (hN : n.toNatClampNeg = N') (hbytes : N' * 4 ≤ 536870912) (hc : cx + 1 ≤ R.cells) (hs : sx + N' ≤ R.slots) (h1 : cx + 1 = cx2) (h2 : sx + N' = sx2) (hd : decode cc pc = .ok (.anewarray index, 3)) (k : ∀ q, zB E Γ R nL A Q cx2 sx2 (ws ++ [(q, .inl (c0, N', .inr (.inr (.inr (.inr (fun _ => none))))))]) (pc + 3) lv (.ref q :: rest)) : zB E Γ R nL A Q cx sx ws pc lv (.int n :: rest) := by
  obtain ⟨p, e, s, m, args, below, meth, c⟩ := Γ
  obtain ⟨hx, hb, hml, hown, hts, hK, hlk, hA, hAZ⟩ := C
  intro H locs ls hP hD hS hl
  subst h1; subst h2
  refine va_newq hx hb hown (hts _ hcl) (hov hK) hK.1 hP hD hS hA hn hN hbytes hc hs hd (fun q cA H1 hK1 hP1 hD1 hS1 => ?_)
  cases zRA_one hK.1 ht hK1
  exact k q H1 locs ls hP1 hD1 hS1 hl
theorem b_aast {q0 qk t0 ci a v n : Nat} {c0 : ClassId} {r : vw_C} {vs : List Value} {f : Nat → Option Nat} {i : Int32} {ws' : va_W} (C : zOB E Γ own cc nL A) (ha : ws[q0]? = some (a, .inl (c0, n, .inr (.inr (.inr (.inr f)))))) (ht : (z_ty E)[t0]? = some (c0, .object r.1)) (hv : ws[qk]? = some (v, .inr (ci, vs))) (hc : z_cl[ci]? = some r) (hin : vp_in i n) (hws : ws.set q0 (a, .inl (c0, n, .inr (.inr (.inr (.inr (va_up f i.toNatClampNeg (some v))))))) = ws') (hd : decode cc pc = .ok (.aastore, 1)) (k : zB E Γ R nL A Q cx sx ws' (pc + 1) lv rest) : zB E Γ R nL A Q cx sx ws pc lv (.ref v :: .int i :: .ref a :: rest) := by
  obtain ⟨p, e, s, m, args, below, meth, c⟩ := Γ
  obtain ⟨hx, hb, hml, hown, hts, hK, hlk, hA, hAZ⟩ := C
  intro H locs ls hP hD hS hl
  subst hws
  exact va_astq (D := zD E) hx hb hK.1 hP hD hS q0 t0 qk ci ha ht hv hc hin hd (fun H1 locs1 hP1 hD1 hS1 => k H1 locs1 ls hP1 hD1 hS1 hl)
theorem b_callI {y : MethodName} {bytes : ByteArray} {maxL index n nn b mc ms cx2 sx2 : Nat} {rm : Room} {As : List Value} {w0 wr : va_W} {w1 : List Nat → va_W} (C : zOB E Γ own cc nL A) (hM : zI E y bytes maxL rm (.ref b :: As) w0 nn w1 mc ms) (hc : Cond.code y bytes maxL none ∈ lw_good) (hini : Cond.initialized y.cls ∈ lw_good) (hlink : Cond.methodLink own index y ∈ lw_good) (hinst : Cond.instanceMethod y ∈ lw_good) (hyn : y.name = "<init>") (hd2 : y.cls ≠ "java/lang/invoke/MethodHandle" ∧ y.cls ≠ "java/lang/invoke/VarHandle" ∧ (parseMethodDescriptor y.desc).map (fun d => d.parameters.length) = some n) (hn : As.length = n) (hrc : rm.cells = mc ∧ rm.slots = ms) (hR : rm.frames + 1 ≤ R.frames ∧ 8 + (maxL + 11) + rm.locals ≤ R.locals)
    (isC isR : List Nat) (hC : isC.map (fun i => ws[i]?) = w0.map some) (hRr : isR.map (fun i => ws[i]?) = wr.map some) (hnd : va_nd isR = true) (hndC : va_nd isC = true) (hdis : ∀ i ∈ isR, i ∉ isC) (hst : (rest.map fun v => v.category).sum ≤ 8) (hcs : cx + mc ≤ R.cells ∧ sx + ms ≤ R.slots) (h1 : cx + mc = cx2) (h2 : sx + ms = sx2) (hd : decode cc pc = .ok (.invokespecial index, 3))
    (k : ∀ as : List Nat, as.length = nn → zB E Γ R nL A Q cx2 sx2 (wr ++ w1 as) (pc + 3) lv rest) : zB E Γ R nL A Q cx sx ws pc lv (As.reverse ++ .ref b :: rest) := by
  subst h1; subst h2
  obtain ⟨p, e, s, m, args, below, meth, c⟩ := Γ
  obtain ⟨hx, hb, hml, hown, hts, hK, hlk, hA, hAZ⟩ := C
  intro H locs ls hP hD hS hl
  have hF : ∀ q, va_A w0 H.size q → A q := va_free hD hS hA isC hC
  have hZ : zZ E ≤ H.size := Nat.le_trans (hAZ _ (hA _ (Nat.le_refl _))) hS.1
  have hPc : va_P (zD E) z_cl w0 H := fun k9 q9 h9 => by
    have e9 : (isC.map (fun i => ws[i]?))[k9]? = some (some q9) := by rw [hC, List.getElem?_map, h9]; rfl
    rw [List.getElem?_map] at e9
    cases hi : isC[k9]? with
    | none => rw [hi] at e9; cases e9
    | some i => rw [hi] at e9; exact hP i q9 (Option.some.inj e9)
  have hDc : va_D (zA E) w0 := (hD.sub isC hndC hC).weaken (fun _ _ _ h => hAZ _ h)
  have run : va_Run p (zl E) e R s m args below meth c H locs cx sx mc ms (F0 m pc ls (As.reverse ++ .ref b :: rest)) rest ((fun _ st oc t => oc = .returned none ∧ (∃ as : List Nat, as.length = nn ∧ va_P (zD E) z_cl (w1 as) t.heap ∧ va_D (va_A w0 H.size) (w1 as)) ∧ va_F (va_A w0 H.size) st t) (Value.ref b :: As).toArray) (va_A w0 H.size) :=
    va_runI (Ts := lw_good) (As := As) ⟨hx, hb, hml, hown, hts⟩ (hM H.size) ⟨⟨hrc.1, hrc.2, hR.1, hR.2, pay_in hts (zgoods hc), List.mem_cons_self, hts _ hc, hts _ hini, ⟨hd2.1, hd2.2.1⟩, fun sig h => by have h2 := hd2.2.2; rw [h] at h2; exact (Option.some.inj h2).symm, hts _ hlink⟩, hyn, hts _ hinst⟩ ⟨fun _ U g mk q => ⟨q.1, q.2.1, q.2.2.1, q.2.2.2.1, q.2.2.2.2.1, zK.eqv (U := U.calling g mk _) q.2.2.2.2.2 rfl rfl⟩, fun U hU hW => ⟨rfl, by rw [hU], hZ, by rw [hU]; exact hPc, hDc, hK.go hW (fun a h1 h2 => by rw [hU]; exact hS.2.1 a h1 (fun q => h2 (hAZ _ q)))⟩⟩ rfl hn hl.1 rfl (lv_room hst) hd hcs
  intro T hT X
  obtain ⟨v, st₀, t, T', L, h0, X', hL, e1, e2, ⟨hv, ⟨as, hal, hP1, hD1⟩, hFr⟩, go⟩ := run T hT X
  have hv : v = none := by cases hv; rfl
  subst hv
  have hF1 : H.size ≤ T'.heap.size := by rw [e1, ← h0]; exact hFr.1
  have hF2 : ∀ x : Nat, x < H.size → ¬ va_A w0 H.size x → T'.heap[x]? = H[x]? := fun x h1 h2 => by rw [e1, ← h0]; exact hFr.2 x (by rw [h0]; exact h1) h2
  rw [← e1] at hP1
  obtain ⟨hPj, hDj⟩ := va_join hP hD isC isR hC hRr hnd hdis hF2 hF hP1 hD1
  obtain ⟨t2, a1, b1⟩ := k as hal T'.heap (locs ++ L) ls hPj hDj ⟨Nat.le_trans hS.1 hF1, fun x h1 h2 => (hF2 x (Nat.lt_of_lt_of_le h1 hS.1) (fun q => h2 (hF x q))).trans (hS.2.1 x h1 h2), fun x hx => by
      rcases List.mem_append.mp hx with h | h
      · exact hS.2.2 x h
      · exact hF _ (hL x h)⟩ hl T' rfl X'
  exact ⟨t2, go t2 a1, b1⟩
theorem b_callIN {y : MethodName} {bytes : ByteArray} {maxL index n nn b mc ms cx2 sx2 : Nat} {rm : Room} {As : List Value} {w0 wr : va_W} {w1 : List Nat → va_W} {host : String} (C : zOB E Γ own cc nL A) (hM : zI E y bytes maxL rm (.ref b :: As) w0 nn w1 mc ms) (hc : Cond.code y bytes maxL none ∈ lw_good) (hini : Cond.initialized y.cls ∈ lw_good) (hlink : Cond.methodLinkNest own index y host ∈ z_nest) (hinst : Cond.instanceMethod y ∈ lw_good) (hyn : y.name = "<init>") (hd2 : y.cls ≠ "java/lang/invoke/MethodHandle" ∧ y.cls ≠ "java/lang/invoke/VarHandle" ∧ (parseMethodDescriptor y.desc).map (fun d => d.parameters.length) = some n) (hn : As.length = n) (hrc : rm.cells = mc ∧ rm.slots = ms) (hR : rm.frames + 1 ≤ R.frames ∧ 8 + (maxL + 11) + rm.locals ≤ R.locals)
    (isC isR : List Nat) (hC : isC.map (fun i => ws[i]?) = w0.map some) (hRr : isR.map (fun i => ws[i]?) = wr.map some) (hnd : va_nd isR = true) (hndC : va_nd isC = true) (hdis : ∀ i ∈ isR, i ∉ isC) (hst : (rest.map fun v => v.category).sum ≤ 8) (hcs : cx + mc ≤ R.cells ∧ sx + ms ≤ R.slots) (h1 : cx + mc = cx2) (h2 : sx + ms = sx2) (hd : decode cc pc = .ok (.invokespecial index, 3))
    (k : ∀ as : List Nat, as.length = nn → zB E Γ R nL A Q cx2 sx2 (wr ++ w1 as) (pc + 3) lv rest) : zB E Γ R nL A Q cx sx ws pc lv (As.reverse ++ .ref b :: rest) := by
  subst h1; subst h2
  obtain ⟨p, e, s, m, args, below, meth, c⟩ := Γ
  obtain ⟨hx, hb, hml, hown, hts, hK, hlk, hA, hAZ⟩ := C
  intro H locs ls hP hD hS hl
  have hF : ∀ q, va_A w0 H.size q → A q := va_free hD hS hA isC hC
  have hZ : zZ E ≤ H.size := Nat.le_trans (hAZ _ (hA _ (Nat.le_refl _))) hS.1
  have hPc : va_P (zD E) z_cl w0 H := fun k9 q9 h9 => by
    have e9 : (isC.map (fun i => ws[i]?))[k9]? = some (some q9) := by rw [hC, List.getElem?_map, h9]; rfl
    rw [List.getElem?_map] at e9
    cases hi : isC[k9]? with
    | none => rw [hi] at e9; cases e9
    | some i => rw [hi] at e9; exact hP i q9 (Option.some.inj e9)
  have hDc : va_D (zA E) w0 := (hD.sub isC hndC hC).weaken (fun _ _ _ h => hAZ _ h)
  have run : va_Run p (zl E) e R s m args below meth c H locs cx sx mc ms (F0 m pc ls (As.reverse ++ .ref b :: rest)) rest ((fun _ st oc t => oc = .returned none ∧ (∃ as : List Nat, as.length = nn ∧ va_P (zD E) z_cl (w1 as) t.heap ∧ va_D (va_A w0 H.size) (w1 as)) ∧ va_F (va_A w0 H.size) st t) (Value.ref b :: As).toArray) (va_A w0 H.size) :=
    va_runIN (Ts := lw_good) (As := As) ⟨hx, hb, hml, hown, hts⟩ (hM H.size) ⟨⟨⟨hrc.1, hrc.2, hR.1, hR.2, pay_in hts (zgoods hc), List.mem_cons_self⟩, hts _ hc, hts _ hini, ⟨hd2.1, hd2.2.1⟩, fun sig h => by have h2 := hd2.2.2; rw [h] at h2; exact (Option.some.inj h2).symm, va_Nw.use rfl (hK.2.1 _ hlink)⟩, hyn, hts _ hinst⟩ ⟨fun _ U g mk q => ⟨q.1, q.2.1, q.2.2.1, q.2.2.2.1, q.2.2.2.2.1, zK.eqv (U := U.calling g mk _) q.2.2.2.2.2 rfl rfl⟩, fun U hU hW => ⟨rfl, by rw [hU], hZ, by rw [hU]; exact hPc, hDc, hK.go hW (fun a h1 h2 => by rw [hU]; exact hS.2.1 a h1 (fun q => h2 (hAZ _ q)))⟩⟩ rfl hn hl.1 rfl (lv_room hst) hd hcs
  intro T hT X
  obtain ⟨v, st₀, t, T', L, h0, X', hL, e1, e2, ⟨hv, ⟨as, hal, hP1, hD1⟩, hFr⟩, go⟩ := run T hT X
  have hv : v = none := by cases hv; rfl
  subst hv
  have hF1 : H.size ≤ T'.heap.size := by rw [e1, ← h0]; exact hFr.1
  have hF2 : ∀ x : Nat, x < H.size → ¬ va_A w0 H.size x → T'.heap[x]? = H[x]? := fun x h1 h2 => by rw [e1, ← h0]; exact hFr.2 x (by rw [h0]; exact h1) h2
  rw [← e1] at hP1
  obtain ⟨hPj, hDj⟩ := va_join hP hD isC isR hC hRr hnd hdis hF2 hF hP1 hD1
  obtain ⟨t2, a1, b1⟩ := k as hal T'.heap (locs ++ L) ls hPj hDj ⟨Nat.le_trans hS.1 hF1, fun x h1 h2 => (hF2 x (Nat.lt_of_lt_of_le h1 hS.1) (fun q => h2 (hF x q))).trans (hS.2.1 x h1 h2), fun x hx => by
      rcases List.mem_append.mp hx with h | h
      · exact hS.2.2 x h
      · exact hF _ (hL x h)⟩ hl T' rfl X'
  exact ⟨t2, go t2 a1, b1⟩
end zBorn
theorem b_ws {E : zG} {Γ : zX} {R : Room} {nL : Nat} {A : Nat → Prop} {Q : State → Prop} {cx sx pc : Nat} {ws ws' : va_W} {lv : List (Option Value)} {st : List Value} (h : ws = ws') (k : zB E Γ R nL A Q cx sx ws' pc lv st) : zB E Γ R nL A Q cx sx ws pc lv st := h ▸ k
theorem b_wide {E : zG} {Γ : zX} {R : Room} {nL : Nat} {A : Nat → Prop} {Q : State → Prop} {cx sx pc cx2 sx2 : Nat} {ws : va_W} {lv : List (Option Value)} {st : List Value} (h1 : cx ≤ cx2) (h2 : sx ≤ sx2) (k : zB E Γ R nL A Q cx2 sx2 ws pc lv st) : zB E Γ R nL A Q cx sx ws pc lv st := by
  obtain ⟨p, e, s, m, args, below, meth, c⟩ := Γ
  intro H locs ls hP hD hS hl
  exact W.widen h1 h2 (k H locs ls hP hD hS hl)
/-- a constructor's end, its cells in the order that the contract tells -/
theorem zI_of {E : zG} {y : MethodName} {bytes : ByteArray} {maxL : Nat} {rm : Room} {av : List Value} {w0 : va_W} {n mc ms nn : Nat} {w1 : List Nat → va_W} {lv : List (Option Value)} (hy : plainName y.cls = true) (hyn : y.name = "<init>") (hlen : (lg_sl av).length ≤ maxL) (hcat : av.all (fun v => v.category == 1) = true) (hlv : av.map some ++ List.replicate nn none = lv)
    (k : ∀ (Γ : zX) (A : Nat → Prop), zOB E Γ y.cls bytes maxL A → zIn Γ → (∀ (pc : Nat) (lv2 : List (Option Value)) (ws : va_W) (as : List Nat) (is : List Nat), decode bytes pc = .ok (.return_, 1) → as.length = n → va_nd is = true → is.map (fun i => ws[i]?) = (w1 as).map some → zB E Γ rm maxL A (match Γ with | (_, _, s, _, args, below, _, _) => MQ below (fun _ st oc t => oc = .returned none ∧ (∃ as : List Nat, as.length = n ∧ va_P (zD E) z_cl (w1 as) t.heap ∧ va_D A (w1 as)) ∧ va_F A st t) args s mc ms A) mc ms ws pc lv2 []) → zB E Γ rm maxL A (match Γ with | (_, _, s, _, args, below, _, _) => MQ below (fun _ st oc t => oc = .returned none ∧ (∃ as : List Nat, as.length = n ∧ va_P (zD E) z_cl (w1 as) t.heap ∧ va_D A (w1 as)) ∧ va_F A st t) args s mc ms A) 0 0 w0 0 lv []) : zI E y bytes maxL rm av w0 n w1 mc ms := by
  intro sz
  refine Met.ofW (cc := bytes) (maxL := maxL) (ret := none) hy rfl ?_
  intro p e s m args below meth c s₁ B hml hv
  obtain ⟨rfl, hsz, hZ, hP, hD, hK⟩ := hv
  subst hsz
  have hts0 := atoms_spec (ws := zws y bytes maxL none) B.pre
  have hown : s.vm.findClass y.cls = some m.cls := findClass_of_methodNamed B.named
  have hin : meth.name = "<init>" := by rw [(name_of_methodNamed B.named B.method).1]; exact hyn
  have hl := lv_entry av (n := maxL) hlen
  have hr := B.returns
  rw [lg_entry_eq]
  generalize (lg_sl av ++ List.replicate (maxL - (lg_sl av).length) Slot.unset).toArray = ls at hl ⊢
  have hts : ∀ w ∈ lw_good, w.before av.toArray s = true := fun w hw => hts0 w (List.mem_cons_of_mem _ hw)
  refine k (p, e, s, m, av.toArray, below, meth, c) (va_A w0 s.heap.size) ⟨B.exec, B.bytes, hml, hown, hts, hK, B.notSynchronized, fun q h => Or.inr h, fun q h => ?_⟩ hin ?_ s.heap [] ls hP hD.self va_S.rf ⟨hl.1, hl.2.1, fun i v h => by
      have q := zargs (n := nn) av 0 i v hcat (by rw [hlv]; exact h)
      rw [Nat.zero_add] at q
      exact ⟨hl.2.2 (i, v) q.1, q.2⟩⟩
  · rcases h with ⟨k9, e9, h⟩ | h
    · exact hD.2 k9 _ h
    · exact Nat.le_trans hZ h
  · intro pc lv2 ws as is hd hal hnd his H locs ls2 hP2 hD2 hS2 hl2
    have hP3 : va_P (zD E) z_cl (w1 as) H := fun k9 q9 h9 => by
      have e9 : (is.map (fun i => ws[i]?))[k9]? = some (some q9) := by rw [his, List.getElem?_map, h9]; rfl
      rw [List.getElem?_map] at e9
      cases hi : is[k9]? with
      | none => rw [hi] at e9; cases e9
      | some i => rw [hi] at e9; exact hP2 i q9 (Option.some.inj e9)
    exact W.vret B.exec B.bytes hr (fun t ht hW => ⟨rfl, ⟨as, hal, by rw [ht]; exact hP3, hD2.sub is hnd his⟩, hS2.F ht⟩) hS2.2.2 hd B.notSynchronized
end
section
def rmI_X3_init : Room := { frames := 1, cells := 1, slots := 2000, locals := 20 }
def wI_X3_init (E : zG) (h0 : Nat) (as : List Nat) : va_W := [(h0, .inr (3, [.ref (as.getD 0 0), .int 0, .int 0])), ((as.getD 0 0), .inl (zac E 0, 2000, .inl (fun _ => 0)))]
set_option maxHeartbeats 8000000 in
set_option maxRecDepth 100000 in
theorem i_X3_init {E : zG} (h0 : Nat) : zI E yX3_init cX3_init 1 rmI_X3_init [.ref h0] [(h0, .inr (3, [.null, .int 0, .int 0]))] 1 (wI_X3_init E h0) 1 2000 := by
  refine zI_of (nn := 0) (by decide) rfl (Nat.le_of_ble_eq_true rfl) rfl rfl (fun Γ A C hin fin => ?_)
  refine b_aload_n (pc := 0) C dX3_init_0 rfl ?_
  refine b_obj (pc := 1) C dX3_init_1 lb_m_X3_3 lb_oi lb_oc (by decide) (Nat.le_of_ble_eq_true rfl) ?_
  refine b_aload_n (pc := 4) C dX3_init_4 rfl ?_
  refine b_sipush (pc := 5) (v := 2000) C dX3_init_5 (by decide) ?_
  refine b_newa (pc := 8) (atype := .int) (tf := .int) (N' := 2000) (t0 := 0) (a0 := (2000, .inl (fun _ => 0))) (cx2 := 1) (sx2 := 2000) C lb_ac_int rfl rfl (fun _ => rfl) (by decide) (by decide) (by decide) (by decide) (by decide) rfl rfl dX3_init_8 (fun q1 => ?_)
  refine b_ws (ws' := [(h0, .inr (3, [.null, .int 0, .int 0])), (q1, .inl (zac E 0, 2000, .inl (fun _ => 0)))]) rfl ?_
  refine b_putF (pc := 10) (ws' := [(h0, .inr (3, [.ref q1, .int 0, .int 0])), (q1, .inl (zac E 0, 2000, .inl (fun _ => 0)))]) C K_X3 0 0 hin rfl rfl (by decide) lb_f_X3_9 rfl rfl rfl rfl (Nat.le_of_ble_eq_true rfl) rfl dX3_init_10 ?_
  exact fin 13 _ _ [q1] [0, 1] dX3_init_13 rfl (by decide) rfl
def rmI_X0_init : Room := { frames := 1, cells := 1, slots := 50, locals := 20 }
def wI_X0_init (E : zG) (h0 : Nat) (as : List Nat) : va_W := [(h0, .inr (0, [.ref (as.getD 0 0), .int 0, .int 0, .int 0, .int 1, .int 0, .int 0])), ((as.getD 0 0), .inl (zac E 0, 50, .inl (fun _ => 0)))]
set_option maxHeartbeats 8000000 in
set_option maxRecDepth 100000 in
theorem i_X0_init {E : zG} (h0 : Nat) : zI E yX0_init cX0_init 1 rmI_X0_init [.ref h0] [(h0, .inr (0, [.null, .int 0, .int 0, .int 0, .int 0, .int 0, .int 0]))] 1 (wI_X0_init E h0) 1 50 := by
  refine zI_of (nn := 0) (by decide) rfl (Nat.le_of_ble_eq_true rfl) rfl rfl (fun Γ A C hin fin => ?_)
  refine b_aload_n (pc := 0) C dX0_init_0 rfl ?_
  refine b_obj (pc := 1) C dX0_init_1 lb_m_X0_3 lb_oi lb_oc (by decide) (Nat.le_of_ble_eq_true rfl) ?_
  refine b_aload_n (pc := 4) C dX0_init_4 rfl ?_
  refine b_bipush (pc := 5) (v := 50) C dX0_init_5 (by decide) ?_
  refine b_newa (pc := 7) (atype := .int) (tf := .int) (N' := 50) (t0 := 0) (a0 := (50, .inl (fun _ => 0))) (cx2 := 1) (sx2 := 50) C lb_ac_int rfl rfl (fun _ => rfl) (by decide) (by decide) (by decide) (by decide) (by decide) rfl rfl dX0_init_7 (fun q1 => ?_)
  refine b_ws (ws' := [(h0, .inr (0, [.null, .int 0, .int 0, .int 0, .int 0, .int 0, .int 0])), (q1, .inl (zac E 0, 50, .inl (fun _ => 0)))]) rfl ?_
  refine b_putF (pc := 9) (ws' := [(h0, .inr (0, [.ref q1, .int 0, .int 0, .int 0, .int 0, .int 0, .int 0])), (q1, .inl (zac E 0, 50, .inl (fun _ => 0)))]) C K_X0 0 0 hin rfl rfl (by decide) lb_f_X0_9 rfl rfl rfl rfl (Nat.le_of_ble_eq_true rfl) rfl dX0_init_9 ?_
  refine b_aload_n (pc := 12) C dX0_init_12 rfl ?_
  refine b_iconst (pc := 13) (v := 0) C dX0_init_13 (by decide) ?_
  refine b_put (pc := 14) (ws' := [(h0, .inr (0, [.ref q1, .int 0, .int 0, .int 0, .int 0, .int 0, .int 0])), (q1, .inl (zac E 0, 50, .inl (fun _ => 0)))]) C K_X0 0 3 rfl (by decide) lb_f_X0_15 rfl rfl rfl rfl (Nat.le_of_ble_eq_true rfl) rfl dX0_init_14 ?_
  refine b_aload_n (pc := 17) C dX0_init_17 rfl ?_
  refine b_iconst (pc := 18) (v := 1) C dX0_init_18 (by decide) ?_
  refine b_put (pc := 19) (ws' := [(h0, .inr (0, [.ref q1, .int 0, .int 0, .int 0, .int 1, .int 0, .int 0])), (q1, .inl (zac E 0, 50, .inl (fun _ => 0)))]) C K_X0 0 4 rfl (by decide) lb_f_X0_19 rfl rfl rfl rfl (Nat.le_of_ble_eq_true rfl) rfl dX0_init_19 ?_
  exact fin 22 _ _ [q1] [0, 1] dX0_init_22 rfl (by decide) rfl
def rmI_X5_init : Room := { frames := 1, cells := 7, slots := 532, locals := 20 }
def wI_X5_init (E : zG) (h0 : Nat) (as : List Nat) : va_W := [(h0, .inr (5, [.ref (as.getD 0 0), .ref (as.getD 1 0), .ref (as.getD 2 0), .int 0, .ref (as.getD 3 0), .ref (as.getD 4 0), .ref (as.getD 5 0), .ref (as.getD 6 0)])), ((as.getD 0 0), .inl (zac E 0, 100, .inl (fun _ => 0))), ((as.getD 1 0), .inl (zac E 0, 300, .inl (fun _ => 0))), ((as.getD 2 0), .inl (zac E 0, 100, .inl (fun _ => 0))), ((as.getD 3 0), .inl (zac E 1, 8, .inl (fun _ => 0))), ((as.getD 4 0), .inl (zac E 0, 8, .inl (fun _ => 0))), ((as.getD 5 0), .inl (zac E 0, 8, .inl (fun _ => 0))), ((as.getD 6 0), .inl (zac E 1, 8, .inl (fun _ => 0)))]
set_option maxHeartbeats 8000000 in
set_option maxRecDepth 100000 in
theorem i_X5_init {E : zG} (h0 : Nat) : zI E yX5_init cX5_init 1 rmI_X5_init [.ref h0] [(h0, .inr (5, [.null, .null, .null, .int 0, .null, .null, .null, .null]))] 7 (wI_X5_init E h0) 7 532 := by
  refine zI_of (nn := 0) (by decide) rfl (Nat.le_of_ble_eq_true rfl) rfl rfl (fun Γ A C hin fin => ?_)
  refine b_aload_n (pc := 0) C dX5_init_0 rfl ?_
  refine b_obj (pc := 1) C dX5_init_1 lb_m_X5_3 lb_oi lb_oc (by decide) (Nat.le_of_ble_eq_true rfl) ?_
  refine b_aload_n (pc := 4) C dX5_init_4 rfl ?_
  refine b_bipush (pc := 5) (v := 100) C dX5_init_5 (by decide) ?_
  refine b_newa (pc := 7) (atype := .int) (tf := .int) (N' := 100) (t0 := 0) (a0 := (100, .inl (fun _ => 0))) (cx2 := 1) (sx2 := 100) C lb_ac_int rfl rfl (fun _ => rfl) (by decide) (by decide) (by decide) (by decide) (by decide) rfl rfl dX5_init_7 (fun q1 => ?_)
  refine b_ws (ws' := [(h0, .inr (5, [.null, .null, .null, .int 0, .null, .null, .null, .null])), (q1, .inl (zac E 0, 100, .inl (fun _ => 0)))]) rfl ?_
  refine b_putF (pc := 9) (ws' := [(h0, .inr (5, [.ref q1, .null, .null, .int 0, .null, .null, .null, .null])), (q1, .inl (zac E 0, 100, .inl (fun _ => 0)))]) C K_X5 0 0 hin rfl rfl (by decide) lb_f_X5_9 rfl rfl rfl rfl (Nat.le_of_ble_eq_true rfl) rfl dX5_init_9 ?_
  refine b_aload_n (pc := 12) C dX5_init_12 rfl ?_
  refine b_sipush (pc := 13) (v := 300) C dX5_init_13 (by decide) ?_
  refine b_newa (pc := 16) (atype := .int) (tf := .int) (N' := 300) (t0 := 0) (a0 := (300, .inl (fun _ => 0))) (cx2 := 2) (sx2 := 400) C lb_ac_int rfl rfl (fun _ => rfl) (by decide) (by decide) (by decide) (by decide) (by decide) rfl rfl dX5_init_16 (fun q2 => ?_)
  refine b_ws (ws' := [(h0, .inr (5, [.ref q1, .null, .null, .int 0, .null, .null, .null, .null])), (q1, .inl (zac E 0, 100, .inl (fun _ => 0))), (q2, .inl (zac E 0, 300, .inl (fun _ => 0)))]) rfl ?_
  refine b_putF (pc := 18) (ws' := [(h0, .inr (5, [.ref q1, .ref q2, .null, .int 0, .null, .null, .null, .null])), (q1, .inl (zac E 0, 100, .inl (fun _ => 0))), (q2, .inl (zac E 0, 300, .inl (fun _ => 0)))]) C K_X5 0 1 hin rfl rfl (by decide) lb_f_X5_15 rfl rfl rfl rfl (Nat.le_of_ble_eq_true rfl) rfl dX5_init_18 ?_
  refine b_aload_n (pc := 21) C dX5_init_21 rfl ?_
  refine b_bipush (pc := 22) (v := 100) C dX5_init_22 (by decide) ?_
  refine b_newa (pc := 24) (atype := .int) (tf := .int) (N' := 100) (t0 := 0) (a0 := (100, .inl (fun _ => 0))) (cx2 := 3) (sx2 := 500) C lb_ac_int rfl rfl (fun _ => rfl) (by decide) (by decide) (by decide) (by decide) (by decide) rfl rfl dX5_init_24 (fun q3 => ?_)
  refine b_ws (ws' := [(h0, .inr (5, [.ref q1, .ref q2, .null, .int 0, .null, .null, .null, .null])), (q1, .inl (zac E 0, 100, .inl (fun _ => 0))), (q2, .inl (zac E 0, 300, .inl (fun _ => 0))), (q3, .inl (zac E 0, 100, .inl (fun _ => 0)))]) rfl ?_
  refine b_putF (pc := 26) (ws' := [(h0, .inr (5, [.ref q1, .ref q2, .ref q3, .int 0, .null, .null, .null, .null])), (q1, .inl (zac E 0, 100, .inl (fun _ => 0))), (q2, .inl (zac E 0, 300, .inl (fun _ => 0))), (q3, .inl (zac E 0, 100, .inl (fun _ => 0)))]) C K_X5 0 2 hin rfl rfl (by decide) lb_f_X5_18 rfl rfl rfl rfl (Nat.le_of_ble_eq_true rfl) rfl dX5_init_26 ?_
  refine b_aload_n (pc := 29) C dX5_init_29 rfl ?_
  refine b_bipush (pc := 30) (v := 8) C dX5_init_30 (by decide) ?_
  refine b_newa (pc := 32) (atype := .boolean) (tf := .boolean) (N' := 8) (t0 := 1) (a0 := (8, .inl (fun _ => 0))) (cx2 := 4) (sx2 := 508) C lb_ac_boolean rfl rfl (fun _ => rfl) (by decide) (by decide) (by decide) (by decide) (by decide) rfl rfl dX5_init_32 (fun q4 => ?_)
  refine b_ws (ws' := [(h0, .inr (5, [.ref q1, .ref q2, .ref q3, .int 0, .null, .null, .null, .null])), (q1, .inl (zac E 0, 100, .inl (fun _ => 0))), (q2, .inl (zac E 0, 300, .inl (fun _ => 0))), (q3, .inl (zac E 0, 100, .inl (fun _ => 0))), (q4, .inl (zac E 1, 8, .inl (fun _ => 0)))]) rfl ?_
  refine b_putF (pc := 34) (ws' := [(h0, .inr (5, [.ref q1, .ref q2, .ref q3, .int 0, .ref q4, .null, .null, .null])), (q1, .inl (zac E 0, 100, .inl (fun _ => 0))), (q2, .inl (zac E 0, 300, .inl (fun _ => 0))), (q3, .inl (zac E 0, 100, .inl (fun _ => 0))), (q4, .inl (zac E 1, 8, .inl (fun _ => 0)))]) C K_X5 0 4 hin rfl rfl (by decide) lb_f_X5_21 rfl rfl rfl rfl (Nat.le_of_ble_eq_true rfl) rfl dX5_init_34 ?_
  refine b_aload_n (pc := 37) C dX5_init_37 rfl ?_
  refine b_bipush (pc := 38) (v := 8) C dX5_init_38 (by decide) ?_
  refine b_newa (pc := 40) (atype := .int) (tf := .int) (N' := 8) (t0 := 0) (a0 := (8, .inl (fun _ => 0))) (cx2 := 5) (sx2 := 516) C lb_ac_int rfl rfl (fun _ => rfl) (by decide) (by decide) (by decide) (by decide) (by decide) rfl rfl dX5_init_40 (fun q5 => ?_)
  refine b_ws (ws' := [(h0, .inr (5, [.ref q1, .ref q2, .ref q3, .int 0, .ref q4, .null, .null, .null])), (q1, .inl (zac E 0, 100, .inl (fun _ => 0))), (q2, .inl (zac E 0, 300, .inl (fun _ => 0))), (q3, .inl (zac E 0, 100, .inl (fun _ => 0))), (q4, .inl (zac E 1, 8, .inl (fun _ => 0))), (q5, .inl (zac E 0, 8, .inl (fun _ => 0)))]) rfl ?_
  refine b_putF (pc := 42) (ws' := [(h0, .inr (5, [.ref q1, .ref q2, .ref q3, .int 0, .ref q4, .ref q5, .null, .null])), (q1, .inl (zac E 0, 100, .inl (fun _ => 0))), (q2, .inl (zac E 0, 300, .inl (fun _ => 0))), (q3, .inl (zac E 0, 100, .inl (fun _ => 0))), (q4, .inl (zac E 1, 8, .inl (fun _ => 0))), (q5, .inl (zac E 0, 8, .inl (fun _ => 0)))]) C K_X5 0 5 hin rfl rfl (by decide) lb_f_X5_25 rfl rfl rfl rfl (Nat.le_of_ble_eq_true rfl) rfl dX5_init_42 ?_
  refine b_aload_n (pc := 45) C dX5_init_45 rfl ?_
  refine b_bipush (pc := 46) (v := 8) C dX5_init_46 (by decide) ?_
  refine b_newa (pc := 48) (atype := .int) (tf := .int) (N' := 8) (t0 := 0) (a0 := (8, .inl (fun _ => 0))) (cx2 := 6) (sx2 := 524) C lb_ac_int rfl rfl (fun _ => rfl) (by decide) (by decide) (by decide) (by decide) (by decide) rfl rfl dX5_init_48 (fun q6 => ?_)
  refine b_ws (ws' := [(h0, .inr (5, [.ref q1, .ref q2, .ref q3, .int 0, .ref q4, .ref q5, .null, .null])), (q1, .inl (zac E 0, 100, .inl (fun _ => 0))), (q2, .inl (zac E 0, 300, .inl (fun _ => 0))), (q3, .inl (zac E 0, 100, .inl (fun _ => 0))), (q4, .inl (zac E 1, 8, .inl (fun _ => 0))), (q5, .inl (zac E 0, 8, .inl (fun _ => 0))), (q6, .inl (zac E 0, 8, .inl (fun _ => 0)))]) rfl ?_
  refine b_putF (pc := 50) (ws' := [(h0, .inr (5, [.ref q1, .ref q2, .ref q3, .int 0, .ref q4, .ref q5, .ref q6, .null])), (q1, .inl (zac E 0, 100, .inl (fun _ => 0))), (q2, .inl (zac E 0, 300, .inl (fun _ => 0))), (q3, .inl (zac E 0, 100, .inl (fun _ => 0))), (q4, .inl (zac E 1, 8, .inl (fun _ => 0))), (q5, .inl (zac E 0, 8, .inl (fun _ => 0))), (q6, .inl (zac E 0, 8, .inl (fun _ => 0)))]) C K_X5 0 6 hin rfl rfl (by decide) lb_f_X5_28 rfl rfl rfl rfl (Nat.le_of_ble_eq_true rfl) rfl dX5_init_50 ?_
  refine b_aload_n (pc := 53) C dX5_init_53 rfl ?_
  refine b_bipush (pc := 54) (v := 8) C dX5_init_54 (by decide) ?_
  refine b_newa (pc := 56) (atype := .boolean) (tf := .boolean) (N' := 8) (t0 := 1) (a0 := (8, .inl (fun _ => 0))) (cx2 := 7) (sx2 := 532) C lb_ac_boolean rfl rfl (fun _ => rfl) (by decide) (by decide) (by decide) (by decide) (by decide) rfl rfl dX5_init_56 (fun q7 => ?_)
  refine b_ws (ws' := [(h0, .inr (5, [.ref q1, .ref q2, .ref q3, .int 0, .ref q4, .ref q5, .ref q6, .null])), (q1, .inl (zac E 0, 100, .inl (fun _ => 0))), (q2, .inl (zac E 0, 300, .inl (fun _ => 0))), (q3, .inl (zac E 0, 100, .inl (fun _ => 0))), (q4, .inl (zac E 1, 8, .inl (fun _ => 0))), (q5, .inl (zac E 0, 8, .inl (fun _ => 0))), (q6, .inl (zac E 0, 8, .inl (fun _ => 0))), (q7, .inl (zac E 1, 8, .inl (fun _ => 0)))]) rfl ?_
  refine b_putF (pc := 58) (ws' := [(h0, .inr (5, [.ref q1, .ref q2, .ref q3, .int 0, .ref q4, .ref q5, .ref q6, .ref q7])), (q1, .inl (zac E 0, 100, .inl (fun _ => 0))), (q2, .inl (zac E 0, 300, .inl (fun _ => 0))), (q3, .inl (zac E 0, 100, .inl (fun _ => 0))), (q4, .inl (zac E 1, 8, .inl (fun _ => 0))), (q5, .inl (zac E 0, 8, .inl (fun _ => 0))), (q6, .inl (zac E 0, 8, .inl (fun _ => 0))), (q7, .inl (zac E 1, 8, .inl (fun _ => 0)))]) C K_X5 0 7 hin rfl rfl (by decide) lb_f_X5_31 rfl rfl rfl rfl (Nat.le_of_ble_eq_true rfl) rfl dX5_init_58 ?_
  exact fin 61 _ _ [q1, q2, q3, q4, q5, q6, q7] [0, 1, 2, 3, 4, 5, 6, 7] dX5_init_61 rfl (by decide) rfl
def rmI_X1_init : Room := { frames := 1, cells := 1, slots := 15, locals := 20 }
def wI_X1_init (E : zG) (h0 : Nat) (as : List Nat) : va_W := [(h0, .inr (1, [.ref (as.getD 0 0), .int 0, .int 0, .int 0, .int 0, .int 0])), ((as.getD 0 0), .inl (zac E 0, 15, .inl (fun _ => 0)))]
set_option maxHeartbeats 8000000 in
set_option maxRecDepth 100000 in
theorem i_X1_init {E : zG} (h0 : Nat) : zI E yX1_init cX1_init 1 rmI_X1_init [.ref h0] [(h0, .inr (1, [.null, .int 0, .int 0, .int 0, .int 0, .int 0]))] 1 (wI_X1_init E h0) 1 15 := by
  refine zI_of (nn := 0) (by decide) rfl (Nat.le_of_ble_eq_true rfl) rfl rfl (fun Γ A C hin fin => ?_)
  refine b_aload_n (pc := 0) C dX1_init_0 rfl ?_
  refine b_obj (pc := 1) C dX1_init_1 lb_m_X1_3 lb_oi lb_oc (by decide) (Nat.le_of_ble_eq_true rfl) ?_
  refine b_aload_n (pc := 4) C dX1_init_4 rfl ?_
  refine b_bipush (pc := 5) (v := 15) C dX1_init_5 (by decide) ?_
  refine b_newa (pc := 7) (atype := .int) (tf := .int) (N' := 15) (t0 := 0) (a0 := (15, .inl (fun _ => 0))) (cx2 := 1) (sx2 := 15) C lb_ac_int rfl rfl (fun _ => rfl) (by decide) (by decide) (by decide) (by decide) (by decide) rfl rfl dX1_init_7 (fun q1 => ?_)
  refine b_ws (ws' := [(h0, .inr (1, [.null, .int 0, .int 0, .int 0, .int 0, .int 0])), (q1, .inl (zac E 0, 15, .inl (fun _ => 0)))]) rfl ?_
  refine b_putF (pc := 9) (ws' := [(h0, .inr (1, [.ref q1, .int 0, .int 0, .int 0, .int 0, .int 0])), (q1, .inl (zac E 0, 15, .inl (fun _ => 0)))]) C K_X1 0 0 hin rfl rfl (by decide) lb_f_X1_9 rfl rfl rfl rfl (Nat.le_of_ble_eq_true rfl) rfl dX1_init_9 ?_
  exact fin 12 _ _ [q1] [0, 1] dX1_init_12 rfl (by decide) rfl
def rmI_X2_init : Room := { frames := 2, cells := 26, slots := 364, locals := 40 }
def wI_X2_init (E : zG) (h0 : Nat) (as : List Nat) : va_W := [(h0, .inr (2, [.ref (as.getD 0 0), .ref (as.getD 1 0), .int 0, .int 0, .int 0])), ((as.getD 0 0), .inl (zac E 2, 12, .inr (.inr (.inr (.inr (va_up (va_up (va_up (va_up (va_up (va_up (va_up (va_up (va_up (va_up (va_up (va_up (fun _ => none) 0 (some (as.getD 2 0))) 1 (some (as.getD 4 0))) 2 (some (as.getD 6 0))) 3 (some (as.getD 8 0))) 4 (some (as.getD 10 0))) 5 (some (as.getD 12 0))) 6 (some (as.getD 14 0))) 7 (some (as.getD 16 0))) 8 (some (as.getD 18 0))) 9 (some (as.getD 20 0))) 10 (some (as.getD 22 0))) 11 (some (as.getD 24 0)))))))), ((as.getD 1 0), .inl (zac E 0, 100, .inl (fun _ => 0))), ((as.getD 2 0), .inr (1, [.ref (as.getD 3 0), .int 0, .int 0, .int 0, .int 0, .int 0])), ((as.getD 3 0), .inl (zac E 0, 15, .inl (fun _ => 0))), ((as.getD 4 0), .inr (1, [.ref (as.getD 5 0), .int 0, .int 0, .int 0, .int 0, .int 0])), ((as.getD 5 0), .inl (zac E 0, 15, .inl (fun _ => 0))), ((as.getD 6 0), .inr (1, [.ref (as.getD 7 0), .int 0, .int 0, .int 0, .int 0, .int 0])), ((as.getD 7 0), .inl (zac E 0, 15, .inl (fun _ => 0))), ((as.getD 8 0), .inr (1, [.ref (as.getD 9 0), .int 0, .int 0, .int 0, .int 0, .int 0])), ((as.getD 9 0), .inl (zac E 0, 15, .inl (fun _ => 0))), ((as.getD 10 0), .inr (1, [.ref (as.getD 11 0), .int 0, .int 0, .int 0, .int 0, .int 0])), ((as.getD 11 0), .inl (zac E 0, 15, .inl (fun _ => 0))), ((as.getD 12 0), .inr (1, [.ref (as.getD 13 0), .int 0, .int 0, .int 0, .int 0, .int 0])), ((as.getD 13 0), .inl (zac E 0, 15, .inl (fun _ => 0))), ((as.getD 14 0), .inr (1, [.ref (as.getD 15 0), .int 0, .int 0, .int 0, .int 0, .int 0])), ((as.getD 15 0), .inl (zac E 0, 15, .inl (fun _ => 0))), ((as.getD 16 0), .inr (1, [.ref (as.getD 17 0), .int 0, .int 0, .int 0, .int 0, .int 0])), ((as.getD 17 0), .inl (zac E 0, 15, .inl (fun _ => 0))), ((as.getD 18 0), .inr (1, [.ref (as.getD 19 0), .int 0, .int 0, .int 0, .int 0, .int 0])), ((as.getD 19 0), .inl (zac E 0, 15, .inl (fun _ => 0))), ((as.getD 20 0), .inr (1, [.ref (as.getD 21 0), .int 0, .int 0, .int 0, .int 0, .int 0])), ((as.getD 21 0), .inl (zac E 0, 15, .inl (fun _ => 0))), ((as.getD 22 0), .inr (1, [.ref (as.getD 23 0), .int 0, .int 0, .int 0, .int 0, .int 0])), ((as.getD 23 0), .inl (zac E 0, 15, .inl (fun _ => 0))), ((as.getD 24 0), .inr (1, [.ref (as.getD 25 0), .int 0, .int 0, .int 0, .int 0, .int 0])), ((as.getD 25 0), .inl (zac E 0, 15, .inl (fun _ => 0)))]
set_option maxHeartbeats 8000000 in
set_option maxRecDepth 100000 in
theorem i_X2_init {E : zG} (h0 : Nat) : zI E yX2_init cX2_init 2 rmI_X2_init [.ref h0] [(h0, .inr (2, [.null, .null, .int 0, .int 0, .int 0]))] 26 (wI_X2_init E h0) 26 364 := by
  refine zI_of (nn := 1) (by decide) rfl (Nat.le_of_ble_eq_true rfl) rfl rfl (fun Γ A C hin fin => ?_)
  refine b_aload_n (pc := 0) C dX2_init_0 rfl ?_
  refine b_obj (pc := 1) C dX2_init_1 lb_m_X2_3 lb_oi lb_oc (by decide) (Nat.le_of_ble_eq_true rfl) ?_
  refine b_aload_n (pc := 4) C dX2_init_4 rfl ?_
  refine b_bipush (pc := 5) (v := 12) C dX2_init_5 (by decide) ?_
  refine b_anew (pc := 7) (Cn := RX1) (N' := 12) (t0 := 2) (cx2 := 1) (sx2 := 12) C lb_c_X2_9 (fun h => h.2.2.2.1) rfl (by decide) (by decide) (by decide) (by decide) (by decide) rfl rfl dX2_init_7 (fun q1 => ?_)
  refine b_ws (ws' := [(h0, .inr (2, [.null, .null, .int 0, .int 0, .int 0])), (q1, .inl (zac E 2, 12, .inr (.inr (.inr (.inr (fun _ => none))))))]) rfl ?_
  refine b_putF (pc := 10) (ws' := [(h0, .inr (2, [.ref q1, .null, .int 0, .int 0, .int 0])), (q1, .inl (zac E 2, 12, .inr (.inr (.inr (.inr (fun _ => none))))))]) C K_X2 0 0 hin rfl rfl (by decide) lb_f_X2_11 rfl rfl rfl rfl (Nat.le_of_ble_eq_true rfl) rfl dX2_init_10 ?_
  refine b_aload_n (pc := 13) C dX2_init_13 rfl ?_
  refine b_bipush (pc := 14) (v := 100) C dX2_init_14 (by decide) ?_
  refine b_newa (pc := 16) (atype := .int) (tf := .int) (N' := 100) (t0 := 0) (a0 := (100, .inl (fun _ => 0))) (cx2 := 2) (sx2 := 112) C lb_ac_int rfl rfl (fun _ => rfl) (by decide) (by decide) (by decide) (by decide) (by decide) rfl rfl dX2_init_16 (fun q2 => ?_)
  refine b_ws (ws' := [(h0, .inr (2, [.ref q1, .null, .int 0, .int 0, .int 0])), (q1, .inl (zac E 2, 12, .inr (.inr (.inr (.inr (fun _ => none)))))), (q2, .inl (zac E 0, 100, .inl (fun _ => 0)))]) rfl ?_
  refine b_putF (pc := 18) (ws' := [(h0, .inr (2, [.ref q1, .ref q2, .int 0, .int 0, .int 0])), (q1, .inl (zac E 2, 12, .inr (.inr (.inr (.inr (fun _ => none)))))), (q2, .inl (zac E 0, 100, .inl (fun _ => 0)))]) C K_X2 0 1 hin rfl rfl (by decide) lb_f_X2_17 rfl rfl rfl rfl (Nat.le_of_ble_eq_true rfl) rfl dX2_init_18 ?_
  refine b_iconst (pc := 21) (v := 0) C dX2_init_21 (by decide) ?_
  refine b_istore_n (pc := 22) (lv' := [some (.ref h0), some (.int 0)]) C dX2_init_22 (by decide) rfl ?_
  refine b_iload_n (pc := 23) C dX2_init_23 rfl ?_
  refine b_bipush (pc := 24) (v := 12) C dX2_init_24 (by decide) ?_
  refine b_geN (pc := 26) (tgt := 48) C dX2_init_26 (by decide) (by decide) ?_
  refine b_aload_n (pc := 29) C dX2_init_29 rfl ?_
  refine b_get (pc := 30) C K_X2 0 0 rfl (by decide) lb_f_X2_11 rfl dX2_init_30 ?_
  refine b_iload_n (pc := 33) C dX2_init_33 rfl ?_
  refine b_new (pc := 34) (fs := [.null, .int 0, .int 0, .int 0, .int 0, .int 0]) (cx2 := 3) (sx2 := 118) C K_X1 lb_c_X2_9 lb_n_X1 lb_i_X1 (fun j hj => by rcases (show j = 0 ∨ j = 1 ∨ j = 2 ∨ j = 3 ∨ j = 4 ∨ j = 5 by omega) with rfl | rfl | rfl | rfl | rfl | rfl <;> rfl) (by decide) (by decide) rfl rfl dX2_init_34 (fun q3 => ?_)
  refine b_ws (ws' := [(h0, .inr (2, [.ref q1, .ref q2, .int 0, .int 0, .int 0])), (q1, .inl (zac E 2, 12, .inr (.inr (.inr (.inr (fun _ => none)))))), (q2, .inl (zac E 0, 100, .inl (fun _ => 0))), (q3, .inr (1, [.null, .int 0, .int 0, .int 0, .int 0, .int 0]))]) rfl ?_
  refine b_dup (pc := 37) C dX2_init_37 rfl ?_
  refine b_callIN (pc := 38) (n := 0) (wr := [(h0, .inr (2, [.ref q1, .ref q2, .int 0, .int 0, .int 0])), (q1, .inl (zac E 2, 12, .inr (.inr (.inr (.inr (fun _ => none)))))), (q2, .inl (zac E 0, 100, .inl (fun _ => 0)))]) (cx2 := 4) (sx2 := 133) C (i_X1_init _) lb_cc_X1_init lb_i_X1 lk_mn_X2_21 lb_im_X1_init rfl (by decide +kernel) rfl ⟨rfl, rfl⟩ (by decide) [3] [0, 1, 2] rfl rfl (by decide) (by decide) (by decide) (Nat.le_of_ble_eq_true rfl) (by decide) rfl rfl dX2_init_38 (fun as4 eas4 => ?_)
  refine b_ws (ws' := [(h0, .inr (2, [.ref q1, .ref q2, .int 0, .int 0, .int 0])), (q1, .inl (zac E 2, 12, .inr (.inr (.inr (.inr (fun _ => none)))))), (q2, .inl (zac E 0, 100, .inl (fun _ => 0))), (q3, .inr (1, [.ref (as4.getD 0 0), .int 0, .int 0, .int 0, .int 0, .int 0])), ((as4.getD 0 0), .inl (zac E 0, 15, .inl (fun _ => 0)))]) rfl ?_
  refine b_aast (pc := 41) (q0 := 1) (qk := 3) (t0 := 2) (ci := 1) (ws' := [(h0, .inr (2, [.ref q1, .ref q2, .int 0, .int 0, .int 0])), (q1, .inl (zac E 2, 12, .inr (.inr (.inr (.inr (va_up (fun _ => none) 0 (some q3))))))), (q2, .inl (zac E 0, 100, .inl (fun _ => 0))), (q3, .inr (1, [.ref (as4.getD 0 0), .int 0, .int 0, .int 0, .int 0, .int 0])), ((as4.getD 0 0), .inl (zac E 0, 15, .inl (fun _ => 0)))]) C rfl rfl rfl rfl (vp_in_iff.mpr (by decide)) rfl dX2_init_41 ?_
  refine b_iinc (pc := 42) (v := 1) (lv' := [some (.ref h0), some (.int 1)]) C dX2_init_42 (by decide) rfl (by decide) rfl ?_
  refine b_goto (pc := 45) (tgt := 23) C dX2_init_45 (by decide) ?_
  refine b_iload_n (pc := 23) C dX2_init_23 rfl ?_
  refine b_bipush (pc := 24) (v := 12) C dX2_init_24 (by decide) ?_
  refine b_geN (pc := 26) (tgt := 48) C dX2_init_26 (by decide) (by decide) ?_
  refine b_aload_n (pc := 29) C dX2_init_29 rfl ?_
  refine b_get (pc := 30) C K_X2 0 0 rfl (by decide) lb_f_X2_11 rfl dX2_init_30 ?_
  refine b_iload_n (pc := 33) C dX2_init_33 rfl ?_
  refine b_new (pc := 34) (fs := [.null, .int 0, .int 0, .int 0, .int 0, .int 0]) (cx2 := 5) (sx2 := 139) C K_X1 lb_c_X2_9 lb_n_X1 lb_i_X1 (fun j hj => by rcases (show j = 0 ∨ j = 1 ∨ j = 2 ∨ j = 3 ∨ j = 4 ∨ j = 5 by omega) with rfl | rfl | rfl | rfl | rfl | rfl <;> rfl) (by decide) (by decide) rfl rfl dX2_init_34 (fun q5 => ?_)
  refine b_ws (ws' := [(h0, .inr (2, [.ref q1, .ref q2, .int 0, .int 0, .int 0])), (q1, .inl (zac E 2, 12, .inr (.inr (.inr (.inr (va_up (fun _ => none) 0 (some q3))))))), (q2, .inl (zac E 0, 100, .inl (fun _ => 0))), (q3, .inr (1, [.ref (as4.getD 0 0), .int 0, .int 0, .int 0, .int 0, .int 0])), ((as4.getD 0 0), .inl (zac E 0, 15, .inl (fun _ => 0))), (q5, .inr (1, [.null, .int 0, .int 0, .int 0, .int 0, .int 0]))]) rfl ?_
  refine b_dup (pc := 37) C dX2_init_37 rfl ?_
  refine b_callIN (pc := 38) (n := 0) (wr := [(h0, .inr (2, [.ref q1, .ref q2, .int 0, .int 0, .int 0])), (q1, .inl (zac E 2, 12, .inr (.inr (.inr (.inr (va_up (fun _ => none) 0 (some q3))))))), (q2, .inl (zac E 0, 100, .inl (fun _ => 0))), (q3, .inr (1, [.ref (as4.getD 0 0), .int 0, .int 0, .int 0, .int 0, .int 0])), ((as4.getD 0 0), .inl (zac E 0, 15, .inl (fun _ => 0)))]) (cx2 := 6) (sx2 := 154) C (i_X1_init _) lb_cc_X1_init lb_i_X1 lk_mn_X2_21 lb_im_X1_init rfl (by decide +kernel) rfl ⟨rfl, rfl⟩ (by decide) [5] [0, 1, 2, 3, 4] rfl rfl (by decide) (by decide) (by decide) (Nat.le_of_ble_eq_true rfl) (by decide) rfl rfl dX2_init_38 (fun as6 eas6 => ?_)
  refine b_ws (ws' := [(h0, .inr (2, [.ref q1, .ref q2, .int 0, .int 0, .int 0])), (q1, .inl (zac E 2, 12, .inr (.inr (.inr (.inr (va_up (fun _ => none) 0 (some q3))))))), (q2, .inl (zac E 0, 100, .inl (fun _ => 0))), (q3, .inr (1, [.ref (as4.getD 0 0), .int 0, .int 0, .int 0, .int 0, .int 0])), ((as4.getD 0 0), .inl (zac E 0, 15, .inl (fun _ => 0))), (q5, .inr (1, [.ref (as6.getD 0 0), .int 0, .int 0, .int 0, .int 0, .int 0])), ((as6.getD 0 0), .inl (zac E 0, 15, .inl (fun _ => 0)))]) rfl ?_
  refine b_aast (pc := 41) (q0 := 1) (qk := 5) (t0 := 2) (ci := 1) (ws' := [(h0, .inr (2, [.ref q1, .ref q2, .int 0, .int 0, .int 0])), (q1, .inl (zac E 2, 12, .inr (.inr (.inr (.inr (va_up (va_up (fun _ => none) 0 (some q3)) 1 (some q5))))))), (q2, .inl (zac E 0, 100, .inl (fun _ => 0))), (q3, .inr (1, [.ref (as4.getD 0 0), .int 0, .int 0, .int 0, .int 0, .int 0])), ((as4.getD 0 0), .inl (zac E 0, 15, .inl (fun _ => 0))), (q5, .inr (1, [.ref (as6.getD 0 0), .int 0, .int 0, .int 0, .int 0, .int 0])), ((as6.getD 0 0), .inl (zac E 0, 15, .inl (fun _ => 0)))]) C rfl rfl rfl rfl (vp_in_iff.mpr (by decide)) rfl dX2_init_41 ?_
  refine b_iinc (pc := 42) (v := 2) (lv' := [some (.ref h0), some (.int 2)]) C dX2_init_42 (by decide) rfl (by decide) rfl ?_
  refine b_goto (pc := 45) (tgt := 23) C dX2_init_45 (by decide) ?_
  refine b_iload_n (pc := 23) C dX2_init_23 rfl ?_
  refine b_bipush (pc := 24) (v := 12) C dX2_init_24 (by decide) ?_
  refine b_geN (pc := 26) (tgt := 48) C dX2_init_26 (by decide) (by decide) ?_
  refine b_aload_n (pc := 29) C dX2_init_29 rfl ?_
  refine b_get (pc := 30) C K_X2 0 0 rfl (by decide) lb_f_X2_11 rfl dX2_init_30 ?_
  refine b_iload_n (pc := 33) C dX2_init_33 rfl ?_
  refine b_new (pc := 34) (fs := [.null, .int 0, .int 0, .int 0, .int 0, .int 0]) (cx2 := 7) (sx2 := 160) C K_X1 lb_c_X2_9 lb_n_X1 lb_i_X1 (fun j hj => by rcases (show j = 0 ∨ j = 1 ∨ j = 2 ∨ j = 3 ∨ j = 4 ∨ j = 5 by omega) with rfl | rfl | rfl | rfl | rfl | rfl <;> rfl) (by decide) (by decide) rfl rfl dX2_init_34 (fun q7 => ?_)
  refine b_ws (ws' := [(h0, .inr (2, [.ref q1, .ref q2, .int 0, .int 0, .int 0])), (q1, .inl (zac E 2, 12, .inr (.inr (.inr (.inr (va_up (va_up (fun _ => none) 0 (some q3)) 1 (some q5))))))), (q2, .inl (zac E 0, 100, .inl (fun _ => 0))), (q3, .inr (1, [.ref (as4.getD 0 0), .int 0, .int 0, .int 0, .int 0, .int 0])), ((as4.getD 0 0), .inl (zac E 0, 15, .inl (fun _ => 0))), (q5, .inr (1, [.ref (as6.getD 0 0), .int 0, .int 0, .int 0, .int 0, .int 0])), ((as6.getD 0 0), .inl (zac E 0, 15, .inl (fun _ => 0))), (q7, .inr (1, [.null, .int 0, .int 0, .int 0, .int 0, .int 0]))]) rfl ?_
  refine b_dup (pc := 37) C dX2_init_37 rfl ?_
  refine b_callIN (pc := 38) (n := 0) (wr := [(h0, .inr (2, [.ref q1, .ref q2, .int 0, .int 0, .int 0])), (q1, .inl (zac E 2, 12, .inr (.inr (.inr (.inr (va_up (va_up (fun _ => none) 0 (some q3)) 1 (some q5))))))), (q2, .inl (zac E 0, 100, .inl (fun _ => 0))), (q3, .inr (1, [.ref (as4.getD 0 0), .int 0, .int 0, .int 0, .int 0, .int 0])), ((as4.getD 0 0), .inl (zac E 0, 15, .inl (fun _ => 0))), (q5, .inr (1, [.ref (as6.getD 0 0), .int 0, .int 0, .int 0, .int 0, .int 0])), ((as6.getD 0 0), .inl (zac E 0, 15, .inl (fun _ => 0)))]) (cx2 := 8) (sx2 := 175) C (i_X1_init _) lb_cc_X1_init lb_i_X1 lk_mn_X2_21 lb_im_X1_init rfl (by decide +kernel) rfl ⟨rfl, rfl⟩ (by decide) [7] [0, 1, 2, 3, 4, 5, 6] rfl rfl (by decide) (by decide) (by decide) (Nat.le_of_ble_eq_true rfl) (by decide) rfl rfl dX2_init_38 (fun as8 eas8 => ?_)
  refine b_ws (ws' := [(h0, .inr (2, [.ref q1, .ref q2, .int 0, .int 0, .int 0])), (q1, .inl (zac E 2, 12, .inr (.inr (.inr (.inr (va_up (va_up (fun _ => none) 0 (some q3)) 1 (some q5))))))), (q2, .inl (zac E 0, 100, .inl (fun _ => 0))), (q3, .inr (1, [.ref (as4.getD 0 0), .int 0, .int 0, .int 0, .int 0, .int 0])), ((as4.getD 0 0), .inl (zac E 0, 15, .inl (fun _ => 0))), (q5, .inr (1, [.ref (as6.getD 0 0), .int 0, .int 0, .int 0, .int 0, .int 0])), ((as6.getD 0 0), .inl (zac E 0, 15, .inl (fun _ => 0))), (q7, .inr (1, [.ref (as8.getD 0 0), .int 0, .int 0, .int 0, .int 0, .int 0])), ((as8.getD 0 0), .inl (zac E 0, 15, .inl (fun _ => 0)))]) rfl ?_
  refine b_aast (pc := 41) (q0 := 1) (qk := 7) (t0 := 2) (ci := 1) (ws' := [(h0, .inr (2, [.ref q1, .ref q2, .int 0, .int 0, .int 0])), (q1, .inl (zac E 2, 12, .inr (.inr (.inr (.inr (va_up (va_up (va_up (fun _ => none) 0 (some q3)) 1 (some q5)) 2 (some q7))))))), (q2, .inl (zac E 0, 100, .inl (fun _ => 0))), (q3, .inr (1, [.ref (as4.getD 0 0), .int 0, .int 0, .int 0, .int 0, .int 0])), ((as4.getD 0 0), .inl (zac E 0, 15, .inl (fun _ => 0))), (q5, .inr (1, [.ref (as6.getD 0 0), .int 0, .int 0, .int 0, .int 0, .int 0])), ((as6.getD 0 0), .inl (zac E 0, 15, .inl (fun _ => 0))), (q7, .inr (1, [.ref (as8.getD 0 0), .int 0, .int 0, .int 0, .int 0, .int 0])), ((as8.getD 0 0), .inl (zac E 0, 15, .inl (fun _ => 0)))]) C rfl rfl rfl rfl (vp_in_iff.mpr (by decide)) rfl dX2_init_41 ?_
  refine b_iinc (pc := 42) (v := 3) (lv' := [some (.ref h0), some (.int 3)]) C dX2_init_42 (by decide) rfl (by decide) rfl ?_
  refine b_goto (pc := 45) (tgt := 23) C dX2_init_45 (by decide) ?_
  refine b_iload_n (pc := 23) C dX2_init_23 rfl ?_
  refine b_bipush (pc := 24) (v := 12) C dX2_init_24 (by decide) ?_
  refine b_geN (pc := 26) (tgt := 48) C dX2_init_26 (by decide) (by decide) ?_
  refine b_aload_n (pc := 29) C dX2_init_29 rfl ?_
  refine b_get (pc := 30) C K_X2 0 0 rfl (by decide) lb_f_X2_11 rfl dX2_init_30 ?_
  refine b_iload_n (pc := 33) C dX2_init_33 rfl ?_
  refine b_new (pc := 34) (fs := [.null, .int 0, .int 0, .int 0, .int 0, .int 0]) (cx2 := 9) (sx2 := 181) C K_X1 lb_c_X2_9 lb_n_X1 lb_i_X1 (fun j hj => by rcases (show j = 0 ∨ j = 1 ∨ j = 2 ∨ j = 3 ∨ j = 4 ∨ j = 5 by omega) with rfl | rfl | rfl | rfl | rfl | rfl <;> rfl) (by decide) (by decide) rfl rfl dX2_init_34 (fun q9 => ?_)
  refine b_ws (ws' := [(h0, .inr (2, [.ref q1, .ref q2, .int 0, .int 0, .int 0])), (q1, .inl (zac E 2, 12, .inr (.inr (.inr (.inr (va_up (va_up (va_up (fun _ => none) 0 (some q3)) 1 (some q5)) 2 (some q7))))))), (q2, .inl (zac E 0, 100, .inl (fun _ => 0))), (q3, .inr (1, [.ref (as4.getD 0 0), .int 0, .int 0, .int 0, .int 0, .int 0])), ((as4.getD 0 0), .inl (zac E 0, 15, .inl (fun _ => 0))), (q5, .inr (1, [.ref (as6.getD 0 0), .int 0, .int 0, .int 0, .int 0, .int 0])), ((as6.getD 0 0), .inl (zac E 0, 15, .inl (fun _ => 0))), (q7, .inr (1, [.ref (as8.getD 0 0), .int 0, .int 0, .int 0, .int 0, .int 0])), ((as8.getD 0 0), .inl (zac E 0, 15, .inl (fun _ => 0))), (q9, .inr (1, [.null, .int 0, .int 0, .int 0, .int 0, .int 0]))]) rfl ?_
  refine b_dup (pc := 37) C dX2_init_37 rfl ?_
  refine b_callIN (pc := 38) (n := 0) (wr := [(h0, .inr (2, [.ref q1, .ref q2, .int 0, .int 0, .int 0])), (q1, .inl (zac E 2, 12, .inr (.inr (.inr (.inr (va_up (va_up (va_up (fun _ => none) 0 (some q3)) 1 (some q5)) 2 (some q7))))))), (q2, .inl (zac E 0, 100, .inl (fun _ => 0))), (q3, .inr (1, [.ref (as4.getD 0 0), .int 0, .int 0, .int 0, .int 0, .int 0])), ((as4.getD 0 0), .inl (zac E 0, 15, .inl (fun _ => 0))), (q5, .inr (1, [.ref (as6.getD 0 0), .int 0, .int 0, .int 0, .int 0, .int 0])), ((as6.getD 0 0), .inl (zac E 0, 15, .inl (fun _ => 0))), (q7, .inr (1, [.ref (as8.getD 0 0), .int 0, .int 0, .int 0, .int 0, .int 0])), ((as8.getD 0 0), .inl (zac E 0, 15, .inl (fun _ => 0)))]) (cx2 := 10) (sx2 := 196) C (i_X1_init _) lb_cc_X1_init lb_i_X1 lk_mn_X2_21 lb_im_X1_init rfl (by decide +kernel) rfl ⟨rfl, rfl⟩ (by decide) [9] [0, 1, 2, 3, 4, 5, 6, 7, 8] rfl rfl (by decide) (by decide) (by decide) (Nat.le_of_ble_eq_true rfl) (by decide) rfl rfl dX2_init_38 (fun as10 eas10 => ?_)
  refine b_ws (ws' := [(h0, .inr (2, [.ref q1, .ref q2, .int 0, .int 0, .int 0])), (q1, .inl (zac E 2, 12, .inr (.inr (.inr (.inr (va_up (va_up (va_up (fun _ => none) 0 (some q3)) 1 (some q5)) 2 (some q7))))))), (q2, .inl (zac E 0, 100, .inl (fun _ => 0))), (q3, .inr (1, [.ref (as4.getD 0 0), .int 0, .int 0, .int 0, .int 0, .int 0])), ((as4.getD 0 0), .inl (zac E 0, 15, .inl (fun _ => 0))), (q5, .inr (1, [.ref (as6.getD 0 0), .int 0, .int 0, .int 0, .int 0, .int 0])), ((as6.getD 0 0), .inl (zac E 0, 15, .inl (fun _ => 0))), (q7, .inr (1, [.ref (as8.getD 0 0), .int 0, .int 0, .int 0, .int 0, .int 0])), ((as8.getD 0 0), .inl (zac E 0, 15, .inl (fun _ => 0))), (q9, .inr (1, [.ref (as10.getD 0 0), .int 0, .int 0, .int 0, .int 0, .int 0])), ((as10.getD 0 0), .inl (zac E 0, 15, .inl (fun _ => 0)))]) rfl ?_
  refine b_aast (pc := 41) (q0 := 1) (qk := 9) (t0 := 2) (ci := 1) (ws' := [(h0, .inr (2, [.ref q1, .ref q2, .int 0, .int 0, .int 0])), (q1, .inl (zac E 2, 12, .inr (.inr (.inr (.inr (va_up (va_up (va_up (va_up (fun _ => none) 0 (some q3)) 1 (some q5)) 2 (some q7)) 3 (some q9))))))), (q2, .inl (zac E 0, 100, .inl (fun _ => 0))), (q3, .inr (1, [.ref (as4.getD 0 0), .int 0, .int 0, .int 0, .int 0, .int 0])), ((as4.getD 0 0), .inl (zac E 0, 15, .inl (fun _ => 0))), (q5, .inr (1, [.ref (as6.getD 0 0), .int 0, .int 0, .int 0, .int 0, .int 0])), ((as6.getD 0 0), .inl (zac E 0, 15, .inl (fun _ => 0))), (q7, .inr (1, [.ref (as8.getD 0 0), .int 0, .int 0, .int 0, .int 0, .int 0])), ((as8.getD 0 0), .inl (zac E 0, 15, .inl (fun _ => 0))), (q9, .inr (1, [.ref (as10.getD 0 0), .int 0, .int 0, .int 0, .int 0, .int 0])), ((as10.getD 0 0), .inl (zac E 0, 15, .inl (fun _ => 0)))]) C rfl rfl rfl rfl (vp_in_iff.mpr (by decide)) rfl dX2_init_41 ?_
  refine b_iinc (pc := 42) (v := 4) (lv' := [some (.ref h0), some (.int 4)]) C dX2_init_42 (by decide) rfl (by decide) rfl ?_
  refine b_goto (pc := 45) (tgt := 23) C dX2_init_45 (by decide) ?_
  refine b_iload_n (pc := 23) C dX2_init_23 rfl ?_
  refine b_bipush (pc := 24) (v := 12) C dX2_init_24 (by decide) ?_
  refine b_geN (pc := 26) (tgt := 48) C dX2_init_26 (by decide) (by decide) ?_
  refine b_aload_n (pc := 29) C dX2_init_29 rfl ?_
  refine b_get (pc := 30) C K_X2 0 0 rfl (by decide) lb_f_X2_11 rfl dX2_init_30 ?_
  refine b_iload_n (pc := 33) C dX2_init_33 rfl ?_
  refine b_new (pc := 34) (fs := [.null, .int 0, .int 0, .int 0, .int 0, .int 0]) (cx2 := 11) (sx2 := 202) C K_X1 lb_c_X2_9 lb_n_X1 lb_i_X1 (fun j hj => by rcases (show j = 0 ∨ j = 1 ∨ j = 2 ∨ j = 3 ∨ j = 4 ∨ j = 5 by omega) with rfl | rfl | rfl | rfl | rfl | rfl <;> rfl) (by decide) (by decide) rfl rfl dX2_init_34 (fun q11 => ?_)
  refine b_ws (ws' := [(h0, .inr (2, [.ref q1, .ref q2, .int 0, .int 0, .int 0])), (q1, .inl (zac E 2, 12, .inr (.inr (.inr (.inr (va_up (va_up (va_up (va_up (fun _ => none) 0 (some q3)) 1 (some q5)) 2 (some q7)) 3 (some q9))))))), (q2, .inl (zac E 0, 100, .inl (fun _ => 0))), (q3, .inr (1, [.ref (as4.getD 0 0), .int 0, .int 0, .int 0, .int 0, .int 0])), ((as4.getD 0 0), .inl (zac E 0, 15, .inl (fun _ => 0))), (q5, .inr (1, [.ref (as6.getD 0 0), .int 0, .int 0, .int 0, .int 0, .int 0])), ((as6.getD 0 0), .inl (zac E 0, 15, .inl (fun _ => 0))), (q7, .inr (1, [.ref (as8.getD 0 0), .int 0, .int 0, .int 0, .int 0, .int 0])), ((as8.getD 0 0), .inl (zac E 0, 15, .inl (fun _ => 0))), (q9, .inr (1, [.ref (as10.getD 0 0), .int 0, .int 0, .int 0, .int 0, .int 0])), ((as10.getD 0 0), .inl (zac E 0, 15, .inl (fun _ => 0))), (q11, .inr (1, [.null, .int 0, .int 0, .int 0, .int 0, .int 0]))]) rfl ?_
  refine b_dup (pc := 37) C dX2_init_37 rfl ?_
  refine b_callIN (pc := 38) (n := 0) (wr := [(h0, .inr (2, [.ref q1, .ref q2, .int 0, .int 0, .int 0])), (q1, .inl (zac E 2, 12, .inr (.inr (.inr (.inr (va_up (va_up (va_up (va_up (fun _ => none) 0 (some q3)) 1 (some q5)) 2 (some q7)) 3 (some q9))))))), (q2, .inl (zac E 0, 100, .inl (fun _ => 0))), (q3, .inr (1, [.ref (as4.getD 0 0), .int 0, .int 0, .int 0, .int 0, .int 0])), ((as4.getD 0 0), .inl (zac E 0, 15, .inl (fun _ => 0))), (q5, .inr (1, [.ref (as6.getD 0 0), .int 0, .int 0, .int 0, .int 0, .int 0])), ((as6.getD 0 0), .inl (zac E 0, 15, .inl (fun _ => 0))), (q7, .inr (1, [.ref (as8.getD 0 0), .int 0, .int 0, .int 0, .int 0, .int 0])), ((as8.getD 0 0), .inl (zac E 0, 15, .inl (fun _ => 0))), (q9, .inr (1, [.ref (as10.getD 0 0), .int 0, .int 0, .int 0, .int 0, .int 0])), ((as10.getD 0 0), .inl (zac E 0, 15, .inl (fun _ => 0)))]) (cx2 := 12) (sx2 := 217) C (i_X1_init _) lb_cc_X1_init lb_i_X1 lk_mn_X2_21 lb_im_X1_init rfl (by decide +kernel) rfl ⟨rfl, rfl⟩ (by decide) [11] [0, 1, 2, 3, 4, 5, 6, 7, 8, 9, 10] rfl rfl (by decide) (by decide) (by decide) (Nat.le_of_ble_eq_true rfl) (by decide) rfl rfl dX2_init_38 (fun as12 eas12 => ?_)
  refine b_ws (ws' := [(h0, .inr (2, [.ref q1, .ref q2, .int 0, .int 0, .int 0])), (q1, .inl (zac E 2, 12, .inr (.inr (.inr (.inr (va_up (va_up (va_up (va_up (fun _ => none) 0 (some q3)) 1 (some q5)) 2 (some q7)) 3 (some q9))))))), (q2, .inl (zac E 0, 100, .inl (fun _ => 0))), (q3, .inr (1, [.ref (as4.getD 0 0), .int 0, .int 0, .int 0, .int 0, .int 0])), ((as4.getD 0 0), .inl (zac E 0, 15, .inl (fun _ => 0))), (q5, .inr (1, [.ref (as6.getD 0 0), .int 0, .int 0, .int 0, .int 0, .int 0])), ((as6.getD 0 0), .inl (zac E 0, 15, .inl (fun _ => 0))), (q7, .inr (1, [.ref (as8.getD 0 0), .int 0, .int 0, .int 0, .int 0, .int 0])), ((as8.getD 0 0), .inl (zac E 0, 15, .inl (fun _ => 0))), (q9, .inr (1, [.ref (as10.getD 0 0), .int 0, .int 0, .int 0, .int 0, .int 0])), ((as10.getD 0 0), .inl (zac E 0, 15, .inl (fun _ => 0))), (q11, .inr (1, [.ref (as12.getD 0 0), .int 0, .int 0, .int 0, .int 0, .int 0])), ((as12.getD 0 0), .inl (zac E 0, 15, .inl (fun _ => 0)))]) rfl ?_
  refine b_aast (pc := 41) (q0 := 1) (qk := 11) (t0 := 2) (ci := 1) (ws' := [(h0, .inr (2, [.ref q1, .ref q2, .int 0, .int 0, .int 0])), (q1, .inl (zac E 2, 12, .inr (.inr (.inr (.inr (va_up (va_up (va_up (va_up (va_up (fun _ => none) 0 (some q3)) 1 (some q5)) 2 (some q7)) 3 (some q9)) 4 (some q11))))))), (q2, .inl (zac E 0, 100, .inl (fun _ => 0))), (q3, .inr (1, [.ref (as4.getD 0 0), .int 0, .int 0, .int 0, .int 0, .int 0])), ((as4.getD 0 0), .inl (zac E 0, 15, .inl (fun _ => 0))), (q5, .inr (1, [.ref (as6.getD 0 0), .int 0, .int 0, .int 0, .int 0, .int 0])), ((as6.getD 0 0), .inl (zac E 0, 15, .inl (fun _ => 0))), (q7, .inr (1, [.ref (as8.getD 0 0), .int 0, .int 0, .int 0, .int 0, .int 0])), ((as8.getD 0 0), .inl (zac E 0, 15, .inl (fun _ => 0))), (q9, .inr (1, [.ref (as10.getD 0 0), .int 0, .int 0, .int 0, .int 0, .int 0])), ((as10.getD 0 0), .inl (zac E 0, 15, .inl (fun _ => 0))), (q11, .inr (1, [.ref (as12.getD 0 0), .int 0, .int 0, .int 0, .int 0, .int 0])), ((as12.getD 0 0), .inl (zac E 0, 15, .inl (fun _ => 0)))]) C rfl rfl rfl rfl (vp_in_iff.mpr (by decide)) rfl dX2_init_41 ?_
  refine b_iinc (pc := 42) (v := 5) (lv' := [some (.ref h0), some (.int 5)]) C dX2_init_42 (by decide) rfl (by decide) rfl ?_
  refine b_goto (pc := 45) (tgt := 23) C dX2_init_45 (by decide) ?_
  refine b_iload_n (pc := 23) C dX2_init_23 rfl ?_
  refine b_bipush (pc := 24) (v := 12) C dX2_init_24 (by decide) ?_
  refine b_geN (pc := 26) (tgt := 48) C dX2_init_26 (by decide) (by decide) ?_
  refine b_aload_n (pc := 29) C dX2_init_29 rfl ?_
  refine b_get (pc := 30) C K_X2 0 0 rfl (by decide) lb_f_X2_11 rfl dX2_init_30 ?_
  refine b_iload_n (pc := 33) C dX2_init_33 rfl ?_
  refine b_new (pc := 34) (fs := [.null, .int 0, .int 0, .int 0, .int 0, .int 0]) (cx2 := 13) (sx2 := 223) C K_X1 lb_c_X2_9 lb_n_X1 lb_i_X1 (fun j hj => by rcases (show j = 0 ∨ j = 1 ∨ j = 2 ∨ j = 3 ∨ j = 4 ∨ j = 5 by omega) with rfl | rfl | rfl | rfl | rfl | rfl <;> rfl) (by decide) (by decide) rfl rfl dX2_init_34 (fun q13 => ?_)
  refine b_ws (ws' := [(h0, .inr (2, [.ref q1, .ref q2, .int 0, .int 0, .int 0])), (q1, .inl (zac E 2, 12, .inr (.inr (.inr (.inr (va_up (va_up (va_up (va_up (va_up (fun _ => none) 0 (some q3)) 1 (some q5)) 2 (some q7)) 3 (some q9)) 4 (some q11))))))), (q2, .inl (zac E 0, 100, .inl (fun _ => 0))), (q3, .inr (1, [.ref (as4.getD 0 0), .int 0, .int 0, .int 0, .int 0, .int 0])), ((as4.getD 0 0), .inl (zac E 0, 15, .inl (fun _ => 0))), (q5, .inr (1, [.ref (as6.getD 0 0), .int 0, .int 0, .int 0, .int 0, .int 0])), ((as6.getD 0 0), .inl (zac E 0, 15, .inl (fun _ => 0))), (q7, .inr (1, [.ref (as8.getD 0 0), .int 0, .int 0, .int 0, .int 0, .int 0])), ((as8.getD 0 0), .inl (zac E 0, 15, .inl (fun _ => 0))), (q9, .inr (1, [.ref (as10.getD 0 0), .int 0, .int 0, .int 0, .int 0, .int 0])), ((as10.getD 0 0), .inl (zac E 0, 15, .inl (fun _ => 0))), (q11, .inr (1, [.ref (as12.getD 0 0), .int 0, .int 0, .int 0, .int 0, .int 0])), ((as12.getD 0 0), .inl (zac E 0, 15, .inl (fun _ => 0))), (q13, .inr (1, [.null, .int 0, .int 0, .int 0, .int 0, .int 0]))]) rfl ?_
  refine b_dup (pc := 37) C dX2_init_37 rfl ?_
  refine b_callIN (pc := 38) (n := 0) (wr := [(h0, .inr (2, [.ref q1, .ref q2, .int 0, .int 0, .int 0])), (q1, .inl (zac E 2, 12, .inr (.inr (.inr (.inr (va_up (va_up (va_up (va_up (va_up (fun _ => none) 0 (some q3)) 1 (some q5)) 2 (some q7)) 3 (some q9)) 4 (some q11))))))), (q2, .inl (zac E 0, 100, .inl (fun _ => 0))), (q3, .inr (1, [.ref (as4.getD 0 0), .int 0, .int 0, .int 0, .int 0, .int 0])), ((as4.getD 0 0), .inl (zac E 0, 15, .inl (fun _ => 0))), (q5, .inr (1, [.ref (as6.getD 0 0), .int 0, .int 0, .int 0, .int 0, .int 0])), ((as6.getD 0 0), .inl (zac E 0, 15, .inl (fun _ => 0))), (q7, .inr (1, [.ref (as8.getD 0 0), .int 0, .int 0, .int 0, .int 0, .int 0])), ((as8.getD 0 0), .inl (zac E 0, 15, .inl (fun _ => 0))), (q9, .inr (1, [.ref (as10.getD 0 0), .int 0, .int 0, .int 0, .int 0, .int 0])), ((as10.getD 0 0), .inl (zac E 0, 15, .inl (fun _ => 0))), (q11, .inr (1, [.ref (as12.getD 0 0), .int 0, .int 0, .int 0, .int 0, .int 0])), ((as12.getD 0 0), .inl (zac E 0, 15, .inl (fun _ => 0)))]) (cx2 := 14) (sx2 := 238) C (i_X1_init _) lb_cc_X1_init lb_i_X1 lk_mn_X2_21 lb_im_X1_init rfl (by decide +kernel) rfl ⟨rfl, rfl⟩ (by decide) [13] [0, 1, 2, 3, 4, 5, 6, 7, 8, 9, 10, 11, 12] rfl rfl (by decide) (by decide) (by decide) (Nat.le_of_ble_eq_true rfl) (by decide) rfl rfl dX2_init_38 (fun as14 eas14 => ?_)
  refine b_ws (ws' := [(h0, .inr (2, [.ref q1, .ref q2, .int 0, .int 0, .int 0])), (q1, .inl (zac E 2, 12, .inr (.inr (.inr (.inr (va_up (va_up (va_up (va_up (va_up (fun _ => none) 0 (some q3)) 1 (some q5)) 2 (some q7)) 3 (some q9)) 4 (some q11))))))), (q2, .inl (zac E 0, 100, .inl (fun _ => 0))), (q3, .inr (1, [.ref (as4.getD 0 0), .int 0, .int 0, .int 0, .int 0, .int 0])), ((as4.getD 0 0), .inl (zac E 0, 15, .inl (fun _ => 0))), (q5, .inr (1, [.ref (as6.getD 0 0), .int 0, .int 0, .int 0, .int 0, .int 0])), ((as6.getD 0 0), .inl (zac E 0, 15, .inl (fun _ => 0))), (q7, .inr (1, [.ref (as8.getD 0 0), .int 0, .int 0, .int 0, .int 0, .int 0])), ((as8.getD 0 0), .inl (zac E 0, 15, .inl (fun _ => 0))), (q9, .inr (1, [.ref (as10.getD 0 0), .int 0, .int 0, .int 0, .int 0, .int 0])), ((as10.getD 0 0), .inl (zac E 0, 15, .inl (fun _ => 0))), (q11, .inr (1, [.ref (as12.getD 0 0), .int 0, .int 0, .int 0, .int 0, .int 0])), ((as12.getD 0 0), .inl (zac E 0, 15, .inl (fun _ => 0))), (q13, .inr (1, [.ref (as14.getD 0 0), .int 0, .int 0, .int 0, .int 0, .int 0])), ((as14.getD 0 0), .inl (zac E 0, 15, .inl (fun _ => 0)))]) rfl ?_
  refine b_aast (pc := 41) (q0 := 1) (qk := 13) (t0 := 2) (ci := 1) (ws' := [(h0, .inr (2, [.ref q1, .ref q2, .int 0, .int 0, .int 0])), (q1, .inl (zac E 2, 12, .inr (.inr (.inr (.inr (va_up (va_up (va_up (va_up (va_up (va_up (fun _ => none) 0 (some q3)) 1 (some q5)) 2 (some q7)) 3 (some q9)) 4 (some q11)) 5 (some q13))))))), (q2, .inl (zac E 0, 100, .inl (fun _ => 0))), (q3, .inr (1, [.ref (as4.getD 0 0), .int 0, .int 0, .int 0, .int 0, .int 0])), ((as4.getD 0 0), .inl (zac E 0, 15, .inl (fun _ => 0))), (q5, .inr (1, [.ref (as6.getD 0 0), .int 0, .int 0, .int 0, .int 0, .int 0])), ((as6.getD 0 0), .inl (zac E 0, 15, .inl (fun _ => 0))), (q7, .inr (1, [.ref (as8.getD 0 0), .int 0, .int 0, .int 0, .int 0, .int 0])), ((as8.getD 0 0), .inl (zac E 0, 15, .inl (fun _ => 0))), (q9, .inr (1, [.ref (as10.getD 0 0), .int 0, .int 0, .int 0, .int 0, .int 0])), ((as10.getD 0 0), .inl (zac E 0, 15, .inl (fun _ => 0))), (q11, .inr (1, [.ref (as12.getD 0 0), .int 0, .int 0, .int 0, .int 0, .int 0])), ((as12.getD 0 0), .inl (zac E 0, 15, .inl (fun _ => 0))), (q13, .inr (1, [.ref (as14.getD 0 0), .int 0, .int 0, .int 0, .int 0, .int 0])), ((as14.getD 0 0), .inl (zac E 0, 15, .inl (fun _ => 0)))]) C rfl rfl rfl rfl (vp_in_iff.mpr (by decide)) rfl dX2_init_41 ?_
  refine b_iinc (pc := 42) (v := 6) (lv' := [some (.ref h0), some (.int 6)]) C dX2_init_42 (by decide) rfl (by decide) rfl ?_
  refine b_goto (pc := 45) (tgt := 23) C dX2_init_45 (by decide) ?_
  refine b_iload_n (pc := 23) C dX2_init_23 rfl ?_
  refine b_bipush (pc := 24) (v := 12) C dX2_init_24 (by decide) ?_
  refine b_geN (pc := 26) (tgt := 48) C dX2_init_26 (by decide) (by decide) ?_
  refine b_aload_n (pc := 29) C dX2_init_29 rfl ?_
  refine b_get (pc := 30) C K_X2 0 0 rfl (by decide) lb_f_X2_11 rfl dX2_init_30 ?_
  refine b_iload_n (pc := 33) C dX2_init_33 rfl ?_
  refine b_new (pc := 34) (fs := [.null, .int 0, .int 0, .int 0, .int 0, .int 0]) (cx2 := 15) (sx2 := 244) C K_X1 lb_c_X2_9 lb_n_X1 lb_i_X1 (fun j hj => by rcases (show j = 0 ∨ j = 1 ∨ j = 2 ∨ j = 3 ∨ j = 4 ∨ j = 5 by omega) with rfl | rfl | rfl | rfl | rfl | rfl <;> rfl) (by decide) (by decide) rfl rfl dX2_init_34 (fun q15 => ?_)
  refine b_ws (ws' := [(h0, .inr (2, [.ref q1, .ref q2, .int 0, .int 0, .int 0])), (q1, .inl (zac E 2, 12, .inr (.inr (.inr (.inr (va_up (va_up (va_up (va_up (va_up (va_up (fun _ => none) 0 (some q3)) 1 (some q5)) 2 (some q7)) 3 (some q9)) 4 (some q11)) 5 (some q13))))))), (q2, .inl (zac E 0, 100, .inl (fun _ => 0))), (q3, .inr (1, [.ref (as4.getD 0 0), .int 0, .int 0, .int 0, .int 0, .int 0])), ((as4.getD 0 0), .inl (zac E 0, 15, .inl (fun _ => 0))), (q5, .inr (1, [.ref (as6.getD 0 0), .int 0, .int 0, .int 0, .int 0, .int 0])), ((as6.getD 0 0), .inl (zac E 0, 15, .inl (fun _ => 0))), (q7, .inr (1, [.ref (as8.getD 0 0), .int 0, .int 0, .int 0, .int 0, .int 0])), ((as8.getD 0 0), .inl (zac E 0, 15, .inl (fun _ => 0))), (q9, .inr (1, [.ref (as10.getD 0 0), .int 0, .int 0, .int 0, .int 0, .int 0])), ((as10.getD 0 0), .inl (zac E 0, 15, .inl (fun _ => 0))), (q11, .inr (1, [.ref (as12.getD 0 0), .int 0, .int 0, .int 0, .int 0, .int 0])), ((as12.getD 0 0), .inl (zac E 0, 15, .inl (fun _ => 0))), (q13, .inr (1, [.ref (as14.getD 0 0), .int 0, .int 0, .int 0, .int 0, .int 0])), ((as14.getD 0 0), .inl (zac E 0, 15, .inl (fun _ => 0))), (q15, .inr (1, [.null, .int 0, .int 0, .int 0, .int 0, .int 0]))]) rfl ?_
  refine b_dup (pc := 37) C dX2_init_37 rfl ?_
  refine b_callIN (pc := 38) (n := 0) (wr := [(h0, .inr (2, [.ref q1, .ref q2, .int 0, .int 0, .int 0])), (q1, .inl (zac E 2, 12, .inr (.inr (.inr (.inr (va_up (va_up (va_up (va_up (va_up (va_up (fun _ => none) 0 (some q3)) 1 (some q5)) 2 (some q7)) 3 (some q9)) 4 (some q11)) 5 (some q13))))))), (q2, .inl (zac E 0, 100, .inl (fun _ => 0))), (q3, .inr (1, [.ref (as4.getD 0 0), .int 0, .int 0, .int 0, .int 0, .int 0])), ((as4.getD 0 0), .inl (zac E 0, 15, .inl (fun _ => 0))), (q5, .inr (1, [.ref (as6.getD 0 0), .int 0, .int 0, .int 0, .int 0, .int 0])), ((as6.getD 0 0), .inl (zac E 0, 15, .inl (fun _ => 0))), (q7, .inr (1, [.ref (as8.getD 0 0), .int 0, .int 0, .int 0, .int 0, .int 0])), ((as8.getD 0 0), .inl (zac E 0, 15, .inl (fun _ => 0))), (q9, .inr (1, [.ref (as10.getD 0 0), .int 0, .int 0, .int 0, .int 0, .int 0])), ((as10.getD 0 0), .inl (zac E 0, 15, .inl (fun _ => 0))), (q11, .inr (1, [.ref (as12.getD 0 0), .int 0, .int 0, .int 0, .int 0, .int 0])), ((as12.getD 0 0), .inl (zac E 0, 15, .inl (fun _ => 0))), (q13, .inr (1, [.ref (as14.getD 0 0), .int 0, .int 0, .int 0, .int 0, .int 0])), ((as14.getD 0 0), .inl (zac E 0, 15, .inl (fun _ => 0)))]) (cx2 := 16) (sx2 := 259) C (i_X1_init _) lb_cc_X1_init lb_i_X1 lk_mn_X2_21 lb_im_X1_init rfl (by decide +kernel) rfl ⟨rfl, rfl⟩ (by decide) [15] [0, 1, 2, 3, 4, 5, 6, 7, 8, 9, 10, 11, 12, 13, 14] rfl rfl (by decide) (by decide) (by decide) (Nat.le_of_ble_eq_true rfl) (by decide) rfl rfl dX2_init_38 (fun as16 eas16 => ?_)
  refine b_ws (ws' := [(h0, .inr (2, [.ref q1, .ref q2, .int 0, .int 0, .int 0])), (q1, .inl (zac E 2, 12, .inr (.inr (.inr (.inr (va_up (va_up (va_up (va_up (va_up (va_up (fun _ => none) 0 (some q3)) 1 (some q5)) 2 (some q7)) 3 (some q9)) 4 (some q11)) 5 (some q13))))))), (q2, .inl (zac E 0, 100, .inl (fun _ => 0))), (q3, .inr (1, [.ref (as4.getD 0 0), .int 0, .int 0, .int 0, .int 0, .int 0])), ((as4.getD 0 0), .inl (zac E 0, 15, .inl (fun _ => 0))), (q5, .inr (1, [.ref (as6.getD 0 0), .int 0, .int 0, .int 0, .int 0, .int 0])), ((as6.getD 0 0), .inl (zac E 0, 15, .inl (fun _ => 0))), (q7, .inr (1, [.ref (as8.getD 0 0), .int 0, .int 0, .int 0, .int 0, .int 0])), ((as8.getD 0 0), .inl (zac E 0, 15, .inl (fun _ => 0))), (q9, .inr (1, [.ref (as10.getD 0 0), .int 0, .int 0, .int 0, .int 0, .int 0])), ((as10.getD 0 0), .inl (zac E 0, 15, .inl (fun _ => 0))), (q11, .inr (1, [.ref (as12.getD 0 0), .int 0, .int 0, .int 0, .int 0, .int 0])), ((as12.getD 0 0), .inl (zac E 0, 15, .inl (fun _ => 0))), (q13, .inr (1, [.ref (as14.getD 0 0), .int 0, .int 0, .int 0, .int 0, .int 0])), ((as14.getD 0 0), .inl (zac E 0, 15, .inl (fun _ => 0))), (q15, .inr (1, [.ref (as16.getD 0 0), .int 0, .int 0, .int 0, .int 0, .int 0])), ((as16.getD 0 0), .inl (zac E 0, 15, .inl (fun _ => 0)))]) rfl ?_
  refine b_aast (pc := 41) (q0 := 1) (qk := 15) (t0 := 2) (ci := 1) (ws' := [(h0, .inr (2, [.ref q1, .ref q2, .int 0, .int 0, .int 0])), (q1, .inl (zac E 2, 12, .inr (.inr (.inr (.inr (va_up (va_up (va_up (va_up (va_up (va_up (va_up (fun _ => none) 0 (some q3)) 1 (some q5)) 2 (some q7)) 3 (some q9)) 4 (some q11)) 5 (some q13)) 6 (some q15))))))), (q2, .inl (zac E 0, 100, .inl (fun _ => 0))), (q3, .inr (1, [.ref (as4.getD 0 0), .int 0, .int 0, .int 0, .int 0, .int 0])), ((as4.getD 0 0), .inl (zac E 0, 15, .inl (fun _ => 0))), (q5, .inr (1, [.ref (as6.getD 0 0), .int 0, .int 0, .int 0, .int 0, .int 0])), ((as6.getD 0 0), .inl (zac E 0, 15, .inl (fun _ => 0))), (q7, .inr (1, [.ref (as8.getD 0 0), .int 0, .int 0, .int 0, .int 0, .int 0])), ((as8.getD 0 0), .inl (zac E 0, 15, .inl (fun _ => 0))), (q9, .inr (1, [.ref (as10.getD 0 0), .int 0, .int 0, .int 0, .int 0, .int 0])), ((as10.getD 0 0), .inl (zac E 0, 15, .inl (fun _ => 0))), (q11, .inr (1, [.ref (as12.getD 0 0), .int 0, .int 0, .int 0, .int 0, .int 0])), ((as12.getD 0 0), .inl (zac E 0, 15, .inl (fun _ => 0))), (q13, .inr (1, [.ref (as14.getD 0 0), .int 0, .int 0, .int 0, .int 0, .int 0])), ((as14.getD 0 0), .inl (zac E 0, 15, .inl (fun _ => 0))), (q15, .inr (1, [.ref (as16.getD 0 0), .int 0, .int 0, .int 0, .int 0, .int 0])), ((as16.getD 0 0), .inl (zac E 0, 15, .inl (fun _ => 0)))]) C rfl rfl rfl rfl (vp_in_iff.mpr (by decide)) rfl dX2_init_41 ?_
  refine b_iinc (pc := 42) (v := 7) (lv' := [some (.ref h0), some (.int 7)]) C dX2_init_42 (by decide) rfl (by decide) rfl ?_
  refine b_goto (pc := 45) (tgt := 23) C dX2_init_45 (by decide) ?_
  refine b_iload_n (pc := 23) C dX2_init_23 rfl ?_
  refine b_bipush (pc := 24) (v := 12) C dX2_init_24 (by decide) ?_
  refine b_geN (pc := 26) (tgt := 48) C dX2_init_26 (by decide) (by decide) ?_
  refine b_aload_n (pc := 29) C dX2_init_29 rfl ?_
  refine b_get (pc := 30) C K_X2 0 0 rfl (by decide) lb_f_X2_11 rfl dX2_init_30 ?_
  refine b_iload_n (pc := 33) C dX2_init_33 rfl ?_
  refine b_new (pc := 34) (fs := [.null, .int 0, .int 0, .int 0, .int 0, .int 0]) (cx2 := 17) (sx2 := 265) C K_X1 lb_c_X2_9 lb_n_X1 lb_i_X1 (fun j hj => by rcases (show j = 0 ∨ j = 1 ∨ j = 2 ∨ j = 3 ∨ j = 4 ∨ j = 5 by omega) with rfl | rfl | rfl | rfl | rfl | rfl <;> rfl) (by decide) (by decide) rfl rfl dX2_init_34 (fun q17 => ?_)
  refine b_ws (ws' := [(h0, .inr (2, [.ref q1, .ref q2, .int 0, .int 0, .int 0])), (q1, .inl (zac E 2, 12, .inr (.inr (.inr (.inr (va_up (va_up (va_up (va_up (va_up (va_up (va_up (fun _ => none) 0 (some q3)) 1 (some q5)) 2 (some q7)) 3 (some q9)) 4 (some q11)) 5 (some q13)) 6 (some q15))))))), (q2, .inl (zac E 0, 100, .inl (fun _ => 0))), (q3, .inr (1, [.ref (as4.getD 0 0), .int 0, .int 0, .int 0, .int 0, .int 0])), ((as4.getD 0 0), .inl (zac E 0, 15, .inl (fun _ => 0))), (q5, .inr (1, [.ref (as6.getD 0 0), .int 0, .int 0, .int 0, .int 0, .int 0])), ((as6.getD 0 0), .inl (zac E 0, 15, .inl (fun _ => 0))), (q7, .inr (1, [.ref (as8.getD 0 0), .int 0, .int 0, .int 0, .int 0, .int 0])), ((as8.getD 0 0), .inl (zac E 0, 15, .inl (fun _ => 0))), (q9, .inr (1, [.ref (as10.getD 0 0), .int 0, .int 0, .int 0, .int 0, .int 0])), ((as10.getD 0 0), .inl (zac E 0, 15, .inl (fun _ => 0))), (q11, .inr (1, [.ref (as12.getD 0 0), .int 0, .int 0, .int 0, .int 0, .int 0])), ((as12.getD 0 0), .inl (zac E 0, 15, .inl (fun _ => 0))), (q13, .inr (1, [.ref (as14.getD 0 0), .int 0, .int 0, .int 0, .int 0, .int 0])), ((as14.getD 0 0), .inl (zac E 0, 15, .inl (fun _ => 0))), (q15, .inr (1, [.ref (as16.getD 0 0), .int 0, .int 0, .int 0, .int 0, .int 0])), ((as16.getD 0 0), .inl (zac E 0, 15, .inl (fun _ => 0))), (q17, .inr (1, [.null, .int 0, .int 0, .int 0, .int 0, .int 0]))]) rfl ?_
  refine b_dup (pc := 37) C dX2_init_37 rfl ?_
  refine b_callIN (pc := 38) (n := 0) (wr := [(h0, .inr (2, [.ref q1, .ref q2, .int 0, .int 0, .int 0])), (q1, .inl (zac E 2, 12, .inr (.inr (.inr (.inr (va_up (va_up (va_up (va_up (va_up (va_up (va_up (fun _ => none) 0 (some q3)) 1 (some q5)) 2 (some q7)) 3 (some q9)) 4 (some q11)) 5 (some q13)) 6 (some q15))))))), (q2, .inl (zac E 0, 100, .inl (fun _ => 0))), (q3, .inr (1, [.ref (as4.getD 0 0), .int 0, .int 0, .int 0, .int 0, .int 0])), ((as4.getD 0 0), .inl (zac E 0, 15, .inl (fun _ => 0))), (q5, .inr (1, [.ref (as6.getD 0 0), .int 0, .int 0, .int 0, .int 0, .int 0])), ((as6.getD 0 0), .inl (zac E 0, 15, .inl (fun _ => 0))), (q7, .inr (1, [.ref (as8.getD 0 0), .int 0, .int 0, .int 0, .int 0, .int 0])), ((as8.getD 0 0), .inl (zac E 0, 15, .inl (fun _ => 0))), (q9, .inr (1, [.ref (as10.getD 0 0), .int 0, .int 0, .int 0, .int 0, .int 0])), ((as10.getD 0 0), .inl (zac E 0, 15, .inl (fun _ => 0))), (q11, .inr (1, [.ref (as12.getD 0 0), .int 0, .int 0, .int 0, .int 0, .int 0])), ((as12.getD 0 0), .inl (zac E 0, 15, .inl (fun _ => 0))), (q13, .inr (1, [.ref (as14.getD 0 0), .int 0, .int 0, .int 0, .int 0, .int 0])), ((as14.getD 0 0), .inl (zac E 0, 15, .inl (fun _ => 0))), (q15, .inr (1, [.ref (as16.getD 0 0), .int 0, .int 0, .int 0, .int 0, .int 0])), ((as16.getD 0 0), .inl (zac E 0, 15, .inl (fun _ => 0)))]) (cx2 := 18) (sx2 := 280) C (i_X1_init _) lb_cc_X1_init lb_i_X1 lk_mn_X2_21 lb_im_X1_init rfl (by decide +kernel) rfl ⟨rfl, rfl⟩ (by decide) [17] [0, 1, 2, 3, 4, 5, 6, 7, 8, 9, 10, 11, 12, 13, 14, 15, 16] rfl rfl (by decide) (by decide) (by decide) (Nat.le_of_ble_eq_true rfl) (by decide) rfl rfl dX2_init_38 (fun as18 eas18 => ?_)
  refine b_ws (ws' := [(h0, .inr (2, [.ref q1, .ref q2, .int 0, .int 0, .int 0])), (q1, .inl (zac E 2, 12, .inr (.inr (.inr (.inr (va_up (va_up (va_up (va_up (va_up (va_up (va_up (fun _ => none) 0 (some q3)) 1 (some q5)) 2 (some q7)) 3 (some q9)) 4 (some q11)) 5 (some q13)) 6 (some q15))))))), (q2, .inl (zac E 0, 100, .inl (fun _ => 0))), (q3, .inr (1, [.ref (as4.getD 0 0), .int 0, .int 0, .int 0, .int 0, .int 0])), ((as4.getD 0 0), .inl (zac E 0, 15, .inl (fun _ => 0))), (q5, .inr (1, [.ref (as6.getD 0 0), .int 0, .int 0, .int 0, .int 0, .int 0])), ((as6.getD 0 0), .inl (zac E 0, 15, .inl (fun _ => 0))), (q7, .inr (1, [.ref (as8.getD 0 0), .int 0, .int 0, .int 0, .int 0, .int 0])), ((as8.getD 0 0), .inl (zac E 0, 15, .inl (fun _ => 0))), (q9, .inr (1, [.ref (as10.getD 0 0), .int 0, .int 0, .int 0, .int 0, .int 0])), ((as10.getD 0 0), .inl (zac E 0, 15, .inl (fun _ => 0))), (q11, .inr (1, [.ref (as12.getD 0 0), .int 0, .int 0, .int 0, .int 0, .int 0])), ((as12.getD 0 0), .inl (zac E 0, 15, .inl (fun _ => 0))), (q13, .inr (1, [.ref (as14.getD 0 0), .int 0, .int 0, .int 0, .int 0, .int 0])), ((as14.getD 0 0), .inl (zac E 0, 15, .inl (fun _ => 0))), (q15, .inr (1, [.ref (as16.getD 0 0), .int 0, .int 0, .int 0, .int 0, .int 0])), ((as16.getD 0 0), .inl (zac E 0, 15, .inl (fun _ => 0))), (q17, .inr (1, [.ref (as18.getD 0 0), .int 0, .int 0, .int 0, .int 0, .int 0])), ((as18.getD 0 0), .inl (zac E 0, 15, .inl (fun _ => 0)))]) rfl ?_
  refine b_aast (pc := 41) (q0 := 1) (qk := 17) (t0 := 2) (ci := 1) (ws' := [(h0, .inr (2, [.ref q1, .ref q2, .int 0, .int 0, .int 0])), (q1, .inl (zac E 2, 12, .inr (.inr (.inr (.inr (va_up (va_up (va_up (va_up (va_up (va_up (va_up (va_up (fun _ => none) 0 (some q3)) 1 (some q5)) 2 (some q7)) 3 (some q9)) 4 (some q11)) 5 (some q13)) 6 (some q15)) 7 (some q17))))))), (q2, .inl (zac E 0, 100, .inl (fun _ => 0))), (q3, .inr (1, [.ref (as4.getD 0 0), .int 0, .int 0, .int 0, .int 0, .int 0])), ((as4.getD 0 0), .inl (zac E 0, 15, .inl (fun _ => 0))), (q5, .inr (1, [.ref (as6.getD 0 0), .int 0, .int 0, .int 0, .int 0, .int 0])), ((as6.getD 0 0), .inl (zac E 0, 15, .inl (fun _ => 0))), (q7, .inr (1, [.ref (as8.getD 0 0), .int 0, .int 0, .int 0, .int 0, .int 0])), ((as8.getD 0 0), .inl (zac E 0, 15, .inl (fun _ => 0))), (q9, .inr (1, [.ref (as10.getD 0 0), .int 0, .int 0, .int 0, .int 0, .int 0])), ((as10.getD 0 0), .inl (zac E 0, 15, .inl (fun _ => 0))), (q11, .inr (1, [.ref (as12.getD 0 0), .int 0, .int 0, .int 0, .int 0, .int 0])), ((as12.getD 0 0), .inl (zac E 0, 15, .inl (fun _ => 0))), (q13, .inr (1, [.ref (as14.getD 0 0), .int 0, .int 0, .int 0, .int 0, .int 0])), ((as14.getD 0 0), .inl (zac E 0, 15, .inl (fun _ => 0))), (q15, .inr (1, [.ref (as16.getD 0 0), .int 0, .int 0, .int 0, .int 0, .int 0])), ((as16.getD 0 0), .inl (zac E 0, 15, .inl (fun _ => 0))), (q17, .inr (1, [.ref (as18.getD 0 0), .int 0, .int 0, .int 0, .int 0, .int 0])), ((as18.getD 0 0), .inl (zac E 0, 15, .inl (fun _ => 0)))]) C rfl rfl rfl rfl (vp_in_iff.mpr (by decide)) rfl dX2_init_41 ?_
  refine b_iinc (pc := 42) (v := 8) (lv' := [some (.ref h0), some (.int 8)]) C dX2_init_42 (by decide) rfl (by decide) rfl ?_
  refine b_goto (pc := 45) (tgt := 23) C dX2_init_45 (by decide) ?_
  refine b_iload_n (pc := 23) C dX2_init_23 rfl ?_
  refine b_bipush (pc := 24) (v := 12) C dX2_init_24 (by decide) ?_
  refine b_geN (pc := 26) (tgt := 48) C dX2_init_26 (by decide) (by decide) ?_
  refine b_aload_n (pc := 29) C dX2_init_29 rfl ?_
  refine b_get (pc := 30) C K_X2 0 0 rfl (by decide) lb_f_X2_11 rfl dX2_init_30 ?_
  refine b_iload_n (pc := 33) C dX2_init_33 rfl ?_
  refine b_new (pc := 34) (fs := [.null, .int 0, .int 0, .int 0, .int 0, .int 0]) (cx2 := 19) (sx2 := 286) C K_X1 lb_c_X2_9 lb_n_X1 lb_i_X1 (fun j hj => by rcases (show j = 0 ∨ j = 1 ∨ j = 2 ∨ j = 3 ∨ j = 4 ∨ j = 5 by omega) with rfl | rfl | rfl | rfl | rfl | rfl <;> rfl) (by decide) (by decide) rfl rfl dX2_init_34 (fun q19 => ?_)
  refine b_ws (ws' := [(h0, .inr (2, [.ref q1, .ref q2, .int 0, .int 0, .int 0])), (q1, .inl (zac E 2, 12, .inr (.inr (.inr (.inr (va_up (va_up (va_up (va_up (va_up (va_up (va_up (va_up (fun _ => none) 0 (some q3)) 1 (some q5)) 2 (some q7)) 3 (some q9)) 4 (some q11)) 5 (some q13)) 6 (some q15)) 7 (some q17))))))), (q2, .inl (zac E 0, 100, .inl (fun _ => 0))), (q3, .inr (1, [.ref (as4.getD 0 0), .int 0, .int 0, .int 0, .int 0, .int 0])), ((as4.getD 0 0), .inl (zac E 0, 15, .inl (fun _ => 0))), (q5, .inr (1, [.ref (as6.getD 0 0), .int 0, .int 0, .int 0, .int 0, .int 0])), ((as6.getD 0 0), .inl (zac E 0, 15, .inl (fun _ => 0))), (q7, .inr (1, [.ref (as8.getD 0 0), .int 0, .int 0, .int 0, .int 0, .int 0])), ((as8.getD 0 0), .inl (zac E 0, 15, .inl (fun _ => 0))), (q9, .inr (1, [.ref (as10.getD 0 0), .int 0, .int 0, .int 0, .int 0, .int 0])), ((as10.getD 0 0), .inl (zac E 0, 15, .inl (fun _ => 0))), (q11, .inr (1, [.ref (as12.getD 0 0), .int 0, .int 0, .int 0, .int 0, .int 0])), ((as12.getD 0 0), .inl (zac E 0, 15, .inl (fun _ => 0))), (q13, .inr (1, [.ref (as14.getD 0 0), .int 0, .int 0, .int 0, .int 0, .int 0])), ((as14.getD 0 0), .inl (zac E 0, 15, .inl (fun _ => 0))), (q15, .inr (1, [.ref (as16.getD 0 0), .int 0, .int 0, .int 0, .int 0, .int 0])), ((as16.getD 0 0), .inl (zac E 0, 15, .inl (fun _ => 0))), (q17, .inr (1, [.ref (as18.getD 0 0), .int 0, .int 0, .int 0, .int 0, .int 0])), ((as18.getD 0 0), .inl (zac E 0, 15, .inl (fun _ => 0))), (q19, .inr (1, [.null, .int 0, .int 0, .int 0, .int 0, .int 0]))]) rfl ?_
  refine b_dup (pc := 37) C dX2_init_37 rfl ?_
  refine b_callIN (pc := 38) (n := 0) (wr := [(h0, .inr (2, [.ref q1, .ref q2, .int 0, .int 0, .int 0])), (q1, .inl (zac E 2, 12, .inr (.inr (.inr (.inr (va_up (va_up (va_up (va_up (va_up (va_up (va_up (va_up (fun _ => none) 0 (some q3)) 1 (some q5)) 2 (some q7)) 3 (some q9)) 4 (some q11)) 5 (some q13)) 6 (some q15)) 7 (some q17))))))), (q2, .inl (zac E 0, 100, .inl (fun _ => 0))), (q3, .inr (1, [.ref (as4.getD 0 0), .int 0, .int 0, .int 0, .int 0, .int 0])), ((as4.getD 0 0), .inl (zac E 0, 15, .inl (fun _ => 0))), (q5, .inr (1, [.ref (as6.getD 0 0), .int 0, .int 0, .int 0, .int 0, .int 0])), ((as6.getD 0 0), .inl (zac E 0, 15, .inl (fun _ => 0))), (q7, .inr (1, [.ref (as8.getD 0 0), .int 0, .int 0, .int 0, .int 0, .int 0])), ((as8.getD 0 0), .inl (zac E 0, 15, .inl (fun _ => 0))), (q9, .inr (1, [.ref (as10.getD 0 0), .int 0, .int 0, .int 0, .int 0, .int 0])), ((as10.getD 0 0), .inl (zac E 0, 15, .inl (fun _ => 0))), (q11, .inr (1, [.ref (as12.getD 0 0), .int 0, .int 0, .int 0, .int 0, .int 0])), ((as12.getD 0 0), .inl (zac E 0, 15, .inl (fun _ => 0))), (q13, .inr (1, [.ref (as14.getD 0 0), .int 0, .int 0, .int 0, .int 0, .int 0])), ((as14.getD 0 0), .inl (zac E 0, 15, .inl (fun _ => 0))), (q15, .inr (1, [.ref (as16.getD 0 0), .int 0, .int 0, .int 0, .int 0, .int 0])), ((as16.getD 0 0), .inl (zac E 0, 15, .inl (fun _ => 0))), (q17, .inr (1, [.ref (as18.getD 0 0), .int 0, .int 0, .int 0, .int 0, .int 0])), ((as18.getD 0 0), .inl (zac E 0, 15, .inl (fun _ => 0)))]) (cx2 := 20) (sx2 := 301) C (i_X1_init _) lb_cc_X1_init lb_i_X1 lk_mn_X2_21 lb_im_X1_init rfl (by decide +kernel) rfl ⟨rfl, rfl⟩ (by decide) [19] [0, 1, 2, 3, 4, 5, 6, 7, 8, 9, 10, 11, 12, 13, 14, 15, 16, 17, 18] rfl rfl (by decide) (by decide) (by decide) (Nat.le_of_ble_eq_true rfl) (by decide) rfl rfl dX2_init_38 (fun as20 eas20 => ?_)
  refine b_ws (ws' := [(h0, .inr (2, [.ref q1, .ref q2, .int 0, .int 0, .int 0])), (q1, .inl (zac E 2, 12, .inr (.inr (.inr (.inr (va_up (va_up (va_up (va_up (va_up (va_up (va_up (va_up (fun _ => none) 0 (some q3)) 1 (some q5)) 2 (some q7)) 3 (some q9)) 4 (some q11)) 5 (some q13)) 6 (some q15)) 7 (some q17))))))), (q2, .inl (zac E 0, 100, .inl (fun _ => 0))), (q3, .inr (1, [.ref (as4.getD 0 0), .int 0, .int 0, .int 0, .int 0, .int 0])), ((as4.getD 0 0), .inl (zac E 0, 15, .inl (fun _ => 0))), (q5, .inr (1, [.ref (as6.getD 0 0), .int 0, .int 0, .int 0, .int 0, .int 0])), ((as6.getD 0 0), .inl (zac E 0, 15, .inl (fun _ => 0))), (q7, .inr (1, [.ref (as8.getD 0 0), .int 0, .int 0, .int 0, .int 0, .int 0])), ((as8.getD 0 0), .inl (zac E 0, 15, .inl (fun _ => 0))), (q9, .inr (1, [.ref (as10.getD 0 0), .int 0, .int 0, .int 0, .int 0, .int 0])), ((as10.getD 0 0), .inl (zac E 0, 15, .inl (fun _ => 0))), (q11, .inr (1, [.ref (as12.getD 0 0), .int 0, .int 0, .int 0, .int 0, .int 0])), ((as12.getD 0 0), .inl (zac E 0, 15, .inl (fun _ => 0))), (q13, .inr (1, [.ref (as14.getD 0 0), .int 0, .int 0, .int 0, .int 0, .int 0])), ((as14.getD 0 0), .inl (zac E 0, 15, .inl (fun _ => 0))), (q15, .inr (1, [.ref (as16.getD 0 0), .int 0, .int 0, .int 0, .int 0, .int 0])), ((as16.getD 0 0), .inl (zac E 0, 15, .inl (fun _ => 0))), (q17, .inr (1, [.ref (as18.getD 0 0), .int 0, .int 0, .int 0, .int 0, .int 0])), ((as18.getD 0 0), .inl (zac E 0, 15, .inl (fun _ => 0))), (q19, .inr (1, [.ref (as20.getD 0 0), .int 0, .int 0, .int 0, .int 0, .int 0])), ((as20.getD 0 0), .inl (zac E 0, 15, .inl (fun _ => 0)))]) rfl ?_
  refine b_aast (pc := 41) (q0 := 1) (qk := 19) (t0 := 2) (ci := 1) (ws' := [(h0, .inr (2, [.ref q1, .ref q2, .int 0, .int 0, .int 0])), (q1, .inl (zac E 2, 12, .inr (.inr (.inr (.inr (va_up (va_up (va_up (va_up (va_up (va_up (va_up (va_up (va_up (fun _ => none) 0 (some q3)) 1 (some q5)) 2 (some q7)) 3 (some q9)) 4 (some q11)) 5 (some q13)) 6 (some q15)) 7 (some q17)) 8 (some q19))))))), (q2, .inl (zac E 0, 100, .inl (fun _ => 0))), (q3, .inr (1, [.ref (as4.getD 0 0), .int 0, .int 0, .int 0, .int 0, .int 0])), ((as4.getD 0 0), .inl (zac E 0, 15, .inl (fun _ => 0))), (q5, .inr (1, [.ref (as6.getD 0 0), .int 0, .int 0, .int 0, .int 0, .int 0])), ((as6.getD 0 0), .inl (zac E 0, 15, .inl (fun _ => 0))), (q7, .inr (1, [.ref (as8.getD 0 0), .int 0, .int 0, .int 0, .int 0, .int 0])), ((as8.getD 0 0), .inl (zac E 0, 15, .inl (fun _ => 0))), (q9, .inr (1, [.ref (as10.getD 0 0), .int 0, .int 0, .int 0, .int 0, .int 0])), ((as10.getD 0 0), .inl (zac E 0, 15, .inl (fun _ => 0))), (q11, .inr (1, [.ref (as12.getD 0 0), .int 0, .int 0, .int 0, .int 0, .int 0])), ((as12.getD 0 0), .inl (zac E 0, 15, .inl (fun _ => 0))), (q13, .inr (1, [.ref (as14.getD 0 0), .int 0, .int 0, .int 0, .int 0, .int 0])), ((as14.getD 0 0), .inl (zac E 0, 15, .inl (fun _ => 0))), (q15, .inr (1, [.ref (as16.getD 0 0), .int 0, .int 0, .int 0, .int 0, .int 0])), ((as16.getD 0 0), .inl (zac E 0, 15, .inl (fun _ => 0))), (q17, .inr (1, [.ref (as18.getD 0 0), .int 0, .int 0, .int 0, .int 0, .int 0])), ((as18.getD 0 0), .inl (zac E 0, 15, .inl (fun _ => 0))), (q19, .inr (1, [.ref (as20.getD 0 0), .int 0, .int 0, .int 0, .int 0, .int 0])), ((as20.getD 0 0), .inl (zac E 0, 15, .inl (fun _ => 0)))]) C rfl rfl rfl rfl (vp_in_iff.mpr (by decide)) rfl dX2_init_41 ?_
  refine b_iinc (pc := 42) (v := 9) (lv' := [some (.ref h0), some (.int 9)]) C dX2_init_42 (by decide) rfl (by decide) rfl ?_
  refine b_goto (pc := 45) (tgt := 23) C dX2_init_45 (by decide) ?_
  refine b_iload_n (pc := 23) C dX2_init_23 rfl ?_
  refine b_bipush (pc := 24) (v := 12) C dX2_init_24 (by decide) ?_
  refine b_geN (pc := 26) (tgt := 48) C dX2_init_26 (by decide) (by decide) ?_
  refine b_aload_n (pc := 29) C dX2_init_29 rfl ?_
  refine b_get (pc := 30) C K_X2 0 0 rfl (by decide) lb_f_X2_11 rfl dX2_init_30 ?_
  refine b_iload_n (pc := 33) C dX2_init_33 rfl ?_
  refine b_new (pc := 34) (fs := [.null, .int 0, .int 0, .int 0, .int 0, .int 0]) (cx2 := 21) (sx2 := 307) C K_X1 lb_c_X2_9 lb_n_X1 lb_i_X1 (fun j hj => by rcases (show j = 0 ∨ j = 1 ∨ j = 2 ∨ j = 3 ∨ j = 4 ∨ j = 5 by omega) with rfl | rfl | rfl | rfl | rfl | rfl <;> rfl) (by decide) (by decide) rfl rfl dX2_init_34 (fun q21 => ?_)
  refine b_ws (ws' := [(h0, .inr (2, [.ref q1, .ref q2, .int 0, .int 0, .int 0])), (q1, .inl (zac E 2, 12, .inr (.inr (.inr (.inr (va_up (va_up (va_up (va_up (va_up (va_up (va_up (va_up (va_up (fun _ => none) 0 (some q3)) 1 (some q5)) 2 (some q7)) 3 (some q9)) 4 (some q11)) 5 (some q13)) 6 (some q15)) 7 (some q17)) 8 (some q19))))))), (q2, .inl (zac E 0, 100, .inl (fun _ => 0))), (q3, .inr (1, [.ref (as4.getD 0 0), .int 0, .int 0, .int 0, .int 0, .int 0])), ((as4.getD 0 0), .inl (zac E 0, 15, .inl (fun _ => 0))), (q5, .inr (1, [.ref (as6.getD 0 0), .int 0, .int 0, .int 0, .int 0, .int 0])), ((as6.getD 0 0), .inl (zac E 0, 15, .inl (fun _ => 0))), (q7, .inr (1, [.ref (as8.getD 0 0), .int 0, .int 0, .int 0, .int 0, .int 0])), ((as8.getD 0 0), .inl (zac E 0, 15, .inl (fun _ => 0))), (q9, .inr (1, [.ref (as10.getD 0 0), .int 0, .int 0, .int 0, .int 0, .int 0])), ((as10.getD 0 0), .inl (zac E 0, 15, .inl (fun _ => 0))), (q11, .inr (1, [.ref (as12.getD 0 0), .int 0, .int 0, .int 0, .int 0, .int 0])), ((as12.getD 0 0), .inl (zac E 0, 15, .inl (fun _ => 0))), (q13, .inr (1, [.ref (as14.getD 0 0), .int 0, .int 0, .int 0, .int 0, .int 0])), ((as14.getD 0 0), .inl (zac E 0, 15, .inl (fun _ => 0))), (q15, .inr (1, [.ref (as16.getD 0 0), .int 0, .int 0, .int 0, .int 0, .int 0])), ((as16.getD 0 0), .inl (zac E 0, 15, .inl (fun _ => 0))), (q17, .inr (1, [.ref (as18.getD 0 0), .int 0, .int 0, .int 0, .int 0, .int 0])), ((as18.getD 0 0), .inl (zac E 0, 15, .inl (fun _ => 0))), (q19, .inr (1, [.ref (as20.getD 0 0), .int 0, .int 0, .int 0, .int 0, .int 0])), ((as20.getD 0 0), .inl (zac E 0, 15, .inl (fun _ => 0))), (q21, .inr (1, [.null, .int 0, .int 0, .int 0, .int 0, .int 0]))]) rfl ?_
  refine b_dup (pc := 37) C dX2_init_37 rfl ?_
  refine b_callIN (pc := 38) (n := 0) (wr := [(h0, .inr (2, [.ref q1, .ref q2, .int 0, .int 0, .int 0])), (q1, .inl (zac E 2, 12, .inr (.inr (.inr (.inr (va_up (va_up (va_up (va_up (va_up (va_up (va_up (va_up (va_up (fun _ => none) 0 (some q3)) 1 (some q5)) 2 (some q7)) 3 (some q9)) 4 (some q11)) 5 (some q13)) 6 (some q15)) 7 (some q17)) 8 (some q19))))))), (q2, .inl (zac E 0, 100, .inl (fun _ => 0))), (q3, .inr (1, [.ref (as4.getD 0 0), .int 0, .int 0, .int 0, .int 0, .int 0])), ((as4.getD 0 0), .inl (zac E 0, 15, .inl (fun _ => 0))), (q5, .inr (1, [.ref (as6.getD 0 0), .int 0, .int 0, .int 0, .int 0, .int 0])), ((as6.getD 0 0), .inl (zac E 0, 15, .inl (fun _ => 0))), (q7, .inr (1, [.ref (as8.getD 0 0), .int 0, .int 0, .int 0, .int 0, .int 0])), ((as8.getD 0 0), .inl (zac E 0, 15, .inl (fun _ => 0))), (q9, .inr (1, [.ref (as10.getD 0 0), .int 0, .int 0, .int 0, .int 0, .int 0])), ((as10.getD 0 0), .inl (zac E 0, 15, .inl (fun _ => 0))), (q11, .inr (1, [.ref (as12.getD 0 0), .int 0, .int 0, .int 0, .int 0, .int 0])), ((as12.getD 0 0), .inl (zac E 0, 15, .inl (fun _ => 0))), (q13, .inr (1, [.ref (as14.getD 0 0), .int 0, .int 0, .int 0, .int 0, .int 0])), ((as14.getD 0 0), .inl (zac E 0, 15, .inl (fun _ => 0))), (q15, .inr (1, [.ref (as16.getD 0 0), .int 0, .int 0, .int 0, .int 0, .int 0])), ((as16.getD 0 0), .inl (zac E 0, 15, .inl (fun _ => 0))), (q17, .inr (1, [.ref (as18.getD 0 0), .int 0, .int 0, .int 0, .int 0, .int 0])), ((as18.getD 0 0), .inl (zac E 0, 15, .inl (fun _ => 0))), (q19, .inr (1, [.ref (as20.getD 0 0), .int 0, .int 0, .int 0, .int 0, .int 0])), ((as20.getD 0 0), .inl (zac E 0, 15, .inl (fun _ => 0)))]) (cx2 := 22) (sx2 := 322) C (i_X1_init _) lb_cc_X1_init lb_i_X1 lk_mn_X2_21 lb_im_X1_init rfl (by decide +kernel) rfl ⟨rfl, rfl⟩ (by decide) [21] [0, 1, 2, 3, 4, 5, 6, 7, 8, 9, 10, 11, 12, 13, 14, 15, 16, 17, 18, 19, 20] rfl rfl (by decide) (by decide) (by decide) (Nat.le_of_ble_eq_true rfl) (by decide) rfl rfl dX2_init_38 (fun as22 eas22 => ?_)
  refine b_ws (ws' := [(h0, .inr (2, [.ref q1, .ref q2, .int 0, .int 0, .int 0])), (q1, .inl (zac E 2, 12, .inr (.inr (.inr (.inr (va_up (va_up (va_up (va_up (va_up (va_up (va_up (va_up (va_up (fun _ => none) 0 (some q3)) 1 (some q5)) 2 (some q7)) 3 (some q9)) 4 (some q11)) 5 (some q13)) 6 (some q15)) 7 (some q17)) 8 (some q19))))))), (q2, .inl (zac E 0, 100, .inl (fun _ => 0))), (q3, .inr (1, [.ref (as4.getD 0 0), .int 0, .int 0, .int 0, .int 0, .int 0])), ((as4.getD 0 0), .inl (zac E 0, 15, .inl (fun _ => 0))), (q5, .inr (1, [.ref (as6.getD 0 0), .int 0, .int 0, .int 0, .int 0, .int 0])), ((as6.getD 0 0), .inl (zac E 0, 15, .inl (fun _ => 0))), (q7, .inr (1, [.ref (as8.getD 0 0), .int 0, .int 0, .int 0, .int 0, .int 0])), ((as8.getD 0 0), .inl (zac E 0, 15, .inl (fun _ => 0))), (q9, .inr (1, [.ref (as10.getD 0 0), .int 0, .int 0, .int 0, .int 0, .int 0])), ((as10.getD 0 0), .inl (zac E 0, 15, .inl (fun _ => 0))), (q11, .inr (1, [.ref (as12.getD 0 0), .int 0, .int 0, .int 0, .int 0, .int 0])), ((as12.getD 0 0), .inl (zac E 0, 15, .inl (fun _ => 0))), (q13, .inr (1, [.ref (as14.getD 0 0), .int 0, .int 0, .int 0, .int 0, .int 0])), ((as14.getD 0 0), .inl (zac E 0, 15, .inl (fun _ => 0))), (q15, .inr (1, [.ref (as16.getD 0 0), .int 0, .int 0, .int 0, .int 0, .int 0])), ((as16.getD 0 0), .inl (zac E 0, 15, .inl (fun _ => 0))), (q17, .inr (1, [.ref (as18.getD 0 0), .int 0, .int 0, .int 0, .int 0, .int 0])), ((as18.getD 0 0), .inl (zac E 0, 15, .inl (fun _ => 0))), (q19, .inr (1, [.ref (as20.getD 0 0), .int 0, .int 0, .int 0, .int 0, .int 0])), ((as20.getD 0 0), .inl (zac E 0, 15, .inl (fun _ => 0))), (q21, .inr (1, [.ref (as22.getD 0 0), .int 0, .int 0, .int 0, .int 0, .int 0])), ((as22.getD 0 0), .inl (zac E 0, 15, .inl (fun _ => 0)))]) rfl ?_
  refine b_aast (pc := 41) (q0 := 1) (qk := 21) (t0 := 2) (ci := 1) (ws' := [(h0, .inr (2, [.ref q1, .ref q2, .int 0, .int 0, .int 0])), (q1, .inl (zac E 2, 12, .inr (.inr (.inr (.inr (va_up (va_up (va_up (va_up (va_up (va_up (va_up (va_up (va_up (va_up (fun _ => none) 0 (some q3)) 1 (some q5)) 2 (some q7)) 3 (some q9)) 4 (some q11)) 5 (some q13)) 6 (some q15)) 7 (some q17)) 8 (some q19)) 9 (some q21))))))), (q2, .inl (zac E 0, 100, .inl (fun _ => 0))), (q3, .inr (1, [.ref (as4.getD 0 0), .int 0, .int 0, .int 0, .int 0, .int 0])), ((as4.getD 0 0), .inl (zac E 0, 15, .inl (fun _ => 0))), (q5, .inr (1, [.ref (as6.getD 0 0), .int 0, .int 0, .int 0, .int 0, .int 0])), ((as6.getD 0 0), .inl (zac E 0, 15, .inl (fun _ => 0))), (q7, .inr (1, [.ref (as8.getD 0 0), .int 0, .int 0, .int 0, .int 0, .int 0])), ((as8.getD 0 0), .inl (zac E 0, 15, .inl (fun _ => 0))), (q9, .inr (1, [.ref (as10.getD 0 0), .int 0, .int 0, .int 0, .int 0, .int 0])), ((as10.getD 0 0), .inl (zac E 0, 15, .inl (fun _ => 0))), (q11, .inr (1, [.ref (as12.getD 0 0), .int 0, .int 0, .int 0, .int 0, .int 0])), ((as12.getD 0 0), .inl (zac E 0, 15, .inl (fun _ => 0))), (q13, .inr (1, [.ref (as14.getD 0 0), .int 0, .int 0, .int 0, .int 0, .int 0])), ((as14.getD 0 0), .inl (zac E 0, 15, .inl (fun _ => 0))), (q15, .inr (1, [.ref (as16.getD 0 0), .int 0, .int 0, .int 0, .int 0, .int 0])), ((as16.getD 0 0), .inl (zac E 0, 15, .inl (fun _ => 0))), (q17, .inr (1, [.ref (as18.getD 0 0), .int 0, .int 0, .int 0, .int 0, .int 0])), ((as18.getD 0 0), .inl (zac E 0, 15, .inl (fun _ => 0))), (q19, .inr (1, [.ref (as20.getD 0 0), .int 0, .int 0, .int 0, .int 0, .int 0])), ((as20.getD 0 0), .inl (zac E 0, 15, .inl (fun _ => 0))), (q21, .inr (1, [.ref (as22.getD 0 0), .int 0, .int 0, .int 0, .int 0, .int 0])), ((as22.getD 0 0), .inl (zac E 0, 15, .inl (fun _ => 0)))]) C rfl rfl rfl rfl (vp_in_iff.mpr (by decide)) rfl dX2_init_41 ?_
  refine b_iinc (pc := 42) (v := 10) (lv' := [some (.ref h0), some (.int 10)]) C dX2_init_42 (by decide) rfl (by decide) rfl ?_
  refine b_goto (pc := 45) (tgt := 23) C dX2_init_45 (by decide) ?_
  refine b_iload_n (pc := 23) C dX2_init_23 rfl ?_
  refine b_bipush (pc := 24) (v := 12) C dX2_init_24 (by decide) ?_
  refine b_geN (pc := 26) (tgt := 48) C dX2_init_26 (by decide) (by decide) ?_
  refine b_aload_n (pc := 29) C dX2_init_29 rfl ?_
  refine b_get (pc := 30) C K_X2 0 0 rfl (by decide) lb_f_X2_11 rfl dX2_init_30 ?_
  refine b_iload_n (pc := 33) C dX2_init_33 rfl ?_
  refine b_new (pc := 34) (fs := [.null, .int 0, .int 0, .int 0, .int 0, .int 0]) (cx2 := 23) (sx2 := 328) C K_X1 lb_c_X2_9 lb_n_X1 lb_i_X1 (fun j hj => by rcases (show j = 0 ∨ j = 1 ∨ j = 2 ∨ j = 3 ∨ j = 4 ∨ j = 5 by omega) with rfl | rfl | rfl | rfl | rfl | rfl <;> rfl) (by decide) (by decide) rfl rfl dX2_init_34 (fun q23 => ?_)
  refine b_ws (ws' := [(h0, .inr (2, [.ref q1, .ref q2, .int 0, .int 0, .int 0])), (q1, .inl (zac E 2, 12, .inr (.inr (.inr (.inr (va_up (va_up (va_up (va_up (va_up (va_up (va_up (va_up (va_up (va_up (fun _ => none) 0 (some q3)) 1 (some q5)) 2 (some q7)) 3 (some q9)) 4 (some q11)) 5 (some q13)) 6 (some q15)) 7 (some q17)) 8 (some q19)) 9 (some q21))))))), (q2, .inl (zac E 0, 100, .inl (fun _ => 0))), (q3, .inr (1, [.ref (as4.getD 0 0), .int 0, .int 0, .int 0, .int 0, .int 0])), ((as4.getD 0 0), .inl (zac E 0, 15, .inl (fun _ => 0))), (q5, .inr (1, [.ref (as6.getD 0 0), .int 0, .int 0, .int 0, .int 0, .int 0])), ((as6.getD 0 0), .inl (zac E 0, 15, .inl (fun _ => 0))), (q7, .inr (1, [.ref (as8.getD 0 0), .int 0, .int 0, .int 0, .int 0, .int 0])), ((as8.getD 0 0), .inl (zac E 0, 15, .inl (fun _ => 0))), (q9, .inr (1, [.ref (as10.getD 0 0), .int 0, .int 0, .int 0, .int 0, .int 0])), ((as10.getD 0 0), .inl (zac E 0, 15, .inl (fun _ => 0))), (q11, .inr (1, [.ref (as12.getD 0 0), .int 0, .int 0, .int 0, .int 0, .int 0])), ((as12.getD 0 0), .inl (zac E 0, 15, .inl (fun _ => 0))), (q13, .inr (1, [.ref (as14.getD 0 0), .int 0, .int 0, .int 0, .int 0, .int 0])), ((as14.getD 0 0), .inl (zac E 0, 15, .inl (fun _ => 0))), (q15, .inr (1, [.ref (as16.getD 0 0), .int 0, .int 0, .int 0, .int 0, .int 0])), ((as16.getD 0 0), .inl (zac E 0, 15, .inl (fun _ => 0))), (q17, .inr (1, [.ref (as18.getD 0 0), .int 0, .int 0, .int 0, .int 0, .int 0])), ((as18.getD 0 0), .inl (zac E 0, 15, .inl (fun _ => 0))), (q19, .inr (1, [.ref (as20.getD 0 0), .int 0, .int 0, .int 0, .int 0, .int 0])), ((as20.getD 0 0), .inl (zac E 0, 15, .inl (fun _ => 0))), (q21, .inr (1, [.ref (as22.getD 0 0), .int 0, .int 0, .int 0, .int 0, .int 0])), ((as22.getD 0 0), .inl (zac E 0, 15, .inl (fun _ => 0))), (q23, .inr (1, [.null, .int 0, .int 0, .int 0, .int 0, .int 0]))]) rfl ?_
  refine b_dup (pc := 37) C dX2_init_37 rfl ?_
  refine b_callIN (pc := 38) (n := 0) (wr := [(h0, .inr (2, [.ref q1, .ref q2, .int 0, .int 0, .int 0])), (q1, .inl (zac E 2, 12, .inr (.inr (.inr (.inr (va_up (va_up (va_up (va_up (va_up (va_up (va_up (va_up (va_up (va_up (fun _ => none) 0 (some q3)) 1 (some q5)) 2 (some q7)) 3 (some q9)) 4 (some q11)) 5 (some q13)) 6 (some q15)) 7 (some q17)) 8 (some q19)) 9 (some q21))))))), (q2, .inl (zac E 0, 100, .inl (fun _ => 0))), (q3, .inr (1, [.ref (as4.getD 0 0), .int 0, .int 0, .int 0, .int 0, .int 0])), ((as4.getD 0 0), .inl (zac E 0, 15, .inl (fun _ => 0))), (q5, .inr (1, [.ref (as6.getD 0 0), .int 0, .int 0, .int 0, .int 0, .int 0])), ((as6.getD 0 0), .inl (zac E 0, 15, .inl (fun _ => 0))), (q7, .inr (1, [.ref (as8.getD 0 0), .int 0, .int 0, .int 0, .int 0, .int 0])), ((as8.getD 0 0), .inl (zac E 0, 15, .inl (fun _ => 0))), (q9, .inr (1, [.ref (as10.getD 0 0), .int 0, .int 0, .int 0, .int 0, .int 0])), ((as10.getD 0 0), .inl (zac E 0, 15, .inl (fun _ => 0))), (q11, .inr (1, [.ref (as12.getD 0 0), .int 0, .int 0, .int 0, .int 0, .int 0])), ((as12.getD 0 0), .inl (zac E 0, 15, .inl (fun _ => 0))), (q13, .inr (1, [.ref (as14.getD 0 0), .int 0, .int 0, .int 0, .int 0, .int 0])), ((as14.getD 0 0), .inl (zac E 0, 15, .inl (fun _ => 0))), (q15, .inr (1, [.ref (as16.getD 0 0), .int 0, .int 0, .int 0, .int 0, .int 0])), ((as16.getD 0 0), .inl (zac E 0, 15, .inl (fun _ => 0))), (q17, .inr (1, [.ref (as18.getD 0 0), .int 0, .int 0, .int 0, .int 0, .int 0])), ((as18.getD 0 0), .inl (zac E 0, 15, .inl (fun _ => 0))), (q19, .inr (1, [.ref (as20.getD 0 0), .int 0, .int 0, .int 0, .int 0, .int 0])), ((as20.getD 0 0), .inl (zac E 0, 15, .inl (fun _ => 0))), (q21, .inr (1, [.ref (as22.getD 0 0), .int 0, .int 0, .int 0, .int 0, .int 0])), ((as22.getD 0 0), .inl (zac E 0, 15, .inl (fun _ => 0)))]) (cx2 := 24) (sx2 := 343) C (i_X1_init _) lb_cc_X1_init lb_i_X1 lk_mn_X2_21 lb_im_X1_init rfl (by decide +kernel) rfl ⟨rfl, rfl⟩ (by decide) [23] [0, 1, 2, 3, 4, 5, 6, 7, 8, 9, 10, 11, 12, 13, 14, 15, 16, 17, 18, 19, 20, 21, 22] rfl rfl (by decide) (by decide) (by decide) (Nat.le_of_ble_eq_true rfl) (by decide) rfl rfl dX2_init_38 (fun as24 eas24 => ?_)
  refine b_ws (ws' := [(h0, .inr (2, [.ref q1, .ref q2, .int 0, .int 0, .int 0])), (q1, .inl (zac E 2, 12, .inr (.inr (.inr (.inr (va_up (va_up (va_up (va_up (va_up (va_up (va_up (va_up (va_up (va_up (fun _ => none) 0 (some q3)) 1 (some q5)) 2 (some q7)) 3 (some q9)) 4 (some q11)) 5 (some q13)) 6 (some q15)) 7 (some q17)) 8 (some q19)) 9 (some q21))))))), (q2, .inl (zac E 0, 100, .inl (fun _ => 0))), (q3, .inr (1, [.ref (as4.getD 0 0), .int 0, .int 0, .int 0, .int 0, .int 0])), ((as4.getD 0 0), .inl (zac E 0, 15, .inl (fun _ => 0))), (q5, .inr (1, [.ref (as6.getD 0 0), .int 0, .int 0, .int 0, .int 0, .int 0])), ((as6.getD 0 0), .inl (zac E 0, 15, .inl (fun _ => 0))), (q7, .inr (1, [.ref (as8.getD 0 0), .int 0, .int 0, .int 0, .int 0, .int 0])), ((as8.getD 0 0), .inl (zac E 0, 15, .inl (fun _ => 0))), (q9, .inr (1, [.ref (as10.getD 0 0), .int 0, .int 0, .int 0, .int 0, .int 0])), ((as10.getD 0 0), .inl (zac E 0, 15, .inl (fun _ => 0))), (q11, .inr (1, [.ref (as12.getD 0 0), .int 0, .int 0, .int 0, .int 0, .int 0])), ((as12.getD 0 0), .inl (zac E 0, 15, .inl (fun _ => 0))), (q13, .inr (1, [.ref (as14.getD 0 0), .int 0, .int 0, .int 0, .int 0, .int 0])), ((as14.getD 0 0), .inl (zac E 0, 15, .inl (fun _ => 0))), (q15, .inr (1, [.ref (as16.getD 0 0), .int 0, .int 0, .int 0, .int 0, .int 0])), ((as16.getD 0 0), .inl (zac E 0, 15, .inl (fun _ => 0))), (q17, .inr (1, [.ref (as18.getD 0 0), .int 0, .int 0, .int 0, .int 0, .int 0])), ((as18.getD 0 0), .inl (zac E 0, 15, .inl (fun _ => 0))), (q19, .inr (1, [.ref (as20.getD 0 0), .int 0, .int 0, .int 0, .int 0, .int 0])), ((as20.getD 0 0), .inl (zac E 0, 15, .inl (fun _ => 0))), (q21, .inr (1, [.ref (as22.getD 0 0), .int 0, .int 0, .int 0, .int 0, .int 0])), ((as22.getD 0 0), .inl (zac E 0, 15, .inl (fun _ => 0))), (q23, .inr (1, [.ref (as24.getD 0 0), .int 0, .int 0, .int 0, .int 0, .int 0])), ((as24.getD 0 0), .inl (zac E 0, 15, .inl (fun _ => 0)))]) rfl ?_
  refine b_aast (pc := 41) (q0 := 1) (qk := 23) (t0 := 2) (ci := 1) (ws' := [(h0, .inr (2, [.ref q1, .ref q2, .int 0, .int 0, .int 0])), (q1, .inl (zac E 2, 12, .inr (.inr (.inr (.inr (va_up (va_up (va_up (va_up (va_up (va_up (va_up (va_up (va_up (va_up (va_up (fun _ => none) 0 (some q3)) 1 (some q5)) 2 (some q7)) 3 (some q9)) 4 (some q11)) 5 (some q13)) 6 (some q15)) 7 (some q17)) 8 (some q19)) 9 (some q21)) 10 (some q23))))))), (q2, .inl (zac E 0, 100, .inl (fun _ => 0))), (q3, .inr (1, [.ref (as4.getD 0 0), .int 0, .int 0, .int 0, .int 0, .int 0])), ((as4.getD 0 0), .inl (zac E 0, 15, .inl (fun _ => 0))), (q5, .inr (1, [.ref (as6.getD 0 0), .int 0, .int 0, .int 0, .int 0, .int 0])), ((as6.getD 0 0), .inl (zac E 0, 15, .inl (fun _ => 0))), (q7, .inr (1, [.ref (as8.getD 0 0), .int 0, .int 0, .int 0, .int 0, .int 0])), ((as8.getD 0 0), .inl (zac E 0, 15, .inl (fun _ => 0))), (q9, .inr (1, [.ref (as10.getD 0 0), .int 0, .int 0, .int 0, .int 0, .int 0])), ((as10.getD 0 0), .inl (zac E 0, 15, .inl (fun _ => 0))), (q11, .inr (1, [.ref (as12.getD 0 0), .int 0, .int 0, .int 0, .int 0, .int 0])), ((as12.getD 0 0), .inl (zac E 0, 15, .inl (fun _ => 0))), (q13, .inr (1, [.ref (as14.getD 0 0), .int 0, .int 0, .int 0, .int 0, .int 0])), ((as14.getD 0 0), .inl (zac E 0, 15, .inl (fun _ => 0))), (q15, .inr (1, [.ref (as16.getD 0 0), .int 0, .int 0, .int 0, .int 0, .int 0])), ((as16.getD 0 0), .inl (zac E 0, 15, .inl (fun _ => 0))), (q17, .inr (1, [.ref (as18.getD 0 0), .int 0, .int 0, .int 0, .int 0, .int 0])), ((as18.getD 0 0), .inl (zac E 0, 15, .inl (fun _ => 0))), (q19, .inr (1, [.ref (as20.getD 0 0), .int 0, .int 0, .int 0, .int 0, .int 0])), ((as20.getD 0 0), .inl (zac E 0, 15, .inl (fun _ => 0))), (q21, .inr (1, [.ref (as22.getD 0 0), .int 0, .int 0, .int 0, .int 0, .int 0])), ((as22.getD 0 0), .inl (zac E 0, 15, .inl (fun _ => 0))), (q23, .inr (1, [.ref (as24.getD 0 0), .int 0, .int 0, .int 0, .int 0, .int 0])), ((as24.getD 0 0), .inl (zac E 0, 15, .inl (fun _ => 0)))]) C rfl rfl rfl rfl (vp_in_iff.mpr (by decide)) rfl dX2_init_41 ?_
  refine b_iinc (pc := 42) (v := 11) (lv' := [some (.ref h0), some (.int 11)]) C dX2_init_42 (by decide) rfl (by decide) rfl ?_
  refine b_goto (pc := 45) (tgt := 23) C dX2_init_45 (by decide) ?_
  refine b_iload_n (pc := 23) C dX2_init_23 rfl ?_
  refine b_bipush (pc := 24) (v := 12) C dX2_init_24 (by decide) ?_
  refine b_geN (pc := 26) (tgt := 48) C dX2_init_26 (by decide) (by decide) ?_
  refine b_aload_n (pc := 29) C dX2_init_29 rfl ?_
  refine b_get (pc := 30) C K_X2 0 0 rfl (by decide) lb_f_X2_11 rfl dX2_init_30 ?_
  refine b_iload_n (pc := 33) C dX2_init_33 rfl ?_
  refine b_new (pc := 34) (fs := [.null, .int 0, .int 0, .int 0, .int 0, .int 0]) (cx2 := 25) (sx2 := 349) C K_X1 lb_c_X2_9 lb_n_X1 lb_i_X1 (fun j hj => by rcases (show j = 0 ∨ j = 1 ∨ j = 2 ∨ j = 3 ∨ j = 4 ∨ j = 5 by omega) with rfl | rfl | rfl | rfl | rfl | rfl <;> rfl) (by decide) (by decide) rfl rfl dX2_init_34 (fun q25 => ?_)
  refine b_ws (ws' := [(h0, .inr (2, [.ref q1, .ref q2, .int 0, .int 0, .int 0])), (q1, .inl (zac E 2, 12, .inr (.inr (.inr (.inr (va_up (va_up (va_up (va_up (va_up (va_up (va_up (va_up (va_up (va_up (va_up (fun _ => none) 0 (some q3)) 1 (some q5)) 2 (some q7)) 3 (some q9)) 4 (some q11)) 5 (some q13)) 6 (some q15)) 7 (some q17)) 8 (some q19)) 9 (some q21)) 10 (some q23))))))), (q2, .inl (zac E 0, 100, .inl (fun _ => 0))), (q3, .inr (1, [.ref (as4.getD 0 0), .int 0, .int 0, .int 0, .int 0, .int 0])), ((as4.getD 0 0), .inl (zac E 0, 15, .inl (fun _ => 0))), (q5, .inr (1, [.ref (as6.getD 0 0), .int 0, .int 0, .int 0, .int 0, .int 0])), ((as6.getD 0 0), .inl (zac E 0, 15, .inl (fun _ => 0))), (q7, .inr (1, [.ref (as8.getD 0 0), .int 0, .int 0, .int 0, .int 0, .int 0])), ((as8.getD 0 0), .inl (zac E 0, 15, .inl (fun _ => 0))), (q9, .inr (1, [.ref (as10.getD 0 0), .int 0, .int 0, .int 0, .int 0, .int 0])), ((as10.getD 0 0), .inl (zac E 0, 15, .inl (fun _ => 0))), (q11, .inr (1, [.ref (as12.getD 0 0), .int 0, .int 0, .int 0, .int 0, .int 0])), ((as12.getD 0 0), .inl (zac E 0, 15, .inl (fun _ => 0))), (q13, .inr (1, [.ref (as14.getD 0 0), .int 0, .int 0, .int 0, .int 0, .int 0])), ((as14.getD 0 0), .inl (zac E 0, 15, .inl (fun _ => 0))), (q15, .inr (1, [.ref (as16.getD 0 0), .int 0, .int 0, .int 0, .int 0, .int 0])), ((as16.getD 0 0), .inl (zac E 0, 15, .inl (fun _ => 0))), (q17, .inr (1, [.ref (as18.getD 0 0), .int 0, .int 0, .int 0, .int 0, .int 0])), ((as18.getD 0 0), .inl (zac E 0, 15, .inl (fun _ => 0))), (q19, .inr (1, [.ref (as20.getD 0 0), .int 0, .int 0, .int 0, .int 0, .int 0])), ((as20.getD 0 0), .inl (zac E 0, 15, .inl (fun _ => 0))), (q21, .inr (1, [.ref (as22.getD 0 0), .int 0, .int 0, .int 0, .int 0, .int 0])), ((as22.getD 0 0), .inl (zac E 0, 15, .inl (fun _ => 0))), (q23, .inr (1, [.ref (as24.getD 0 0), .int 0, .int 0, .int 0, .int 0, .int 0])), ((as24.getD 0 0), .inl (zac E 0, 15, .inl (fun _ => 0))), (q25, .inr (1, [.null, .int 0, .int 0, .int 0, .int 0, .int 0]))]) rfl ?_
  refine b_dup (pc := 37) C dX2_init_37 rfl ?_
  refine b_callIN (pc := 38) (n := 0) (wr := [(h0, .inr (2, [.ref q1, .ref q2, .int 0, .int 0, .int 0])), (q1, .inl (zac E 2, 12, .inr (.inr (.inr (.inr (va_up (va_up (va_up (va_up (va_up (va_up (va_up (va_up (va_up (va_up (va_up (fun _ => none) 0 (some q3)) 1 (some q5)) 2 (some q7)) 3 (some q9)) 4 (some q11)) 5 (some q13)) 6 (some q15)) 7 (some q17)) 8 (some q19)) 9 (some q21)) 10 (some q23))))))), (q2, .inl (zac E 0, 100, .inl (fun _ => 0))), (q3, .inr (1, [.ref (as4.getD 0 0), .int 0, .int 0, .int 0, .int 0, .int 0])), ((as4.getD 0 0), .inl (zac E 0, 15, .inl (fun _ => 0))), (q5, .inr (1, [.ref (as6.getD 0 0), .int 0, .int 0, .int 0, .int 0, .int 0])), ((as6.getD 0 0), .inl (zac E 0, 15, .inl (fun _ => 0))), (q7, .inr (1, [.ref (as8.getD 0 0), .int 0, .int 0, .int 0, .int 0, .int 0])), ((as8.getD 0 0), .inl (zac E 0, 15, .inl (fun _ => 0))), (q9, .inr (1, [.ref (as10.getD 0 0), .int 0, .int 0, .int 0, .int 0, .int 0])), ((as10.getD 0 0), .inl (zac E 0, 15, .inl (fun _ => 0))), (q11, .inr (1, [.ref (as12.getD 0 0), .int 0, .int 0, .int 0, .int 0, .int 0])), ((as12.getD 0 0), .inl (zac E 0, 15, .inl (fun _ => 0))), (q13, .inr (1, [.ref (as14.getD 0 0), .int 0, .int 0, .int 0, .int 0, .int 0])), ((as14.getD 0 0), .inl (zac E 0, 15, .inl (fun _ => 0))), (q15, .inr (1, [.ref (as16.getD 0 0), .int 0, .int 0, .int 0, .int 0, .int 0])), ((as16.getD 0 0), .inl (zac E 0, 15, .inl (fun _ => 0))), (q17, .inr (1, [.ref (as18.getD 0 0), .int 0, .int 0, .int 0, .int 0, .int 0])), ((as18.getD 0 0), .inl (zac E 0, 15, .inl (fun _ => 0))), (q19, .inr (1, [.ref (as20.getD 0 0), .int 0, .int 0, .int 0, .int 0, .int 0])), ((as20.getD 0 0), .inl (zac E 0, 15, .inl (fun _ => 0))), (q21, .inr (1, [.ref (as22.getD 0 0), .int 0, .int 0, .int 0, .int 0, .int 0])), ((as22.getD 0 0), .inl (zac E 0, 15, .inl (fun _ => 0))), (q23, .inr (1, [.ref (as24.getD 0 0), .int 0, .int 0, .int 0, .int 0, .int 0])), ((as24.getD 0 0), .inl (zac E 0, 15, .inl (fun _ => 0)))]) (cx2 := 26) (sx2 := 364) C (i_X1_init _) lb_cc_X1_init lb_i_X1 lk_mn_X2_21 lb_im_X1_init rfl (by decide +kernel) rfl ⟨rfl, rfl⟩ (by decide) [25] [0, 1, 2, 3, 4, 5, 6, 7, 8, 9, 10, 11, 12, 13, 14, 15, 16, 17, 18, 19, 20, 21, 22, 23, 24] rfl rfl (by decide) (by decide) (by decide) (Nat.le_of_ble_eq_true rfl) (by decide) rfl rfl dX2_init_38 (fun as26 eas26 => ?_)
  refine b_ws (ws' := [(h0, .inr (2, [.ref q1, .ref q2, .int 0, .int 0, .int 0])), (q1, .inl (zac E 2, 12, .inr (.inr (.inr (.inr (va_up (va_up (va_up (va_up (va_up (va_up (va_up (va_up (va_up (va_up (va_up (fun _ => none) 0 (some q3)) 1 (some q5)) 2 (some q7)) 3 (some q9)) 4 (some q11)) 5 (some q13)) 6 (some q15)) 7 (some q17)) 8 (some q19)) 9 (some q21)) 10 (some q23))))))), (q2, .inl (zac E 0, 100, .inl (fun _ => 0))), (q3, .inr (1, [.ref (as4.getD 0 0), .int 0, .int 0, .int 0, .int 0, .int 0])), ((as4.getD 0 0), .inl (zac E 0, 15, .inl (fun _ => 0))), (q5, .inr (1, [.ref (as6.getD 0 0), .int 0, .int 0, .int 0, .int 0, .int 0])), ((as6.getD 0 0), .inl (zac E 0, 15, .inl (fun _ => 0))), (q7, .inr (1, [.ref (as8.getD 0 0), .int 0, .int 0, .int 0, .int 0, .int 0])), ((as8.getD 0 0), .inl (zac E 0, 15, .inl (fun _ => 0))), (q9, .inr (1, [.ref (as10.getD 0 0), .int 0, .int 0, .int 0, .int 0, .int 0])), ((as10.getD 0 0), .inl (zac E 0, 15, .inl (fun _ => 0))), (q11, .inr (1, [.ref (as12.getD 0 0), .int 0, .int 0, .int 0, .int 0, .int 0])), ((as12.getD 0 0), .inl (zac E 0, 15, .inl (fun _ => 0))), (q13, .inr (1, [.ref (as14.getD 0 0), .int 0, .int 0, .int 0, .int 0, .int 0])), ((as14.getD 0 0), .inl (zac E 0, 15, .inl (fun _ => 0))), (q15, .inr (1, [.ref (as16.getD 0 0), .int 0, .int 0, .int 0, .int 0, .int 0])), ((as16.getD 0 0), .inl (zac E 0, 15, .inl (fun _ => 0))), (q17, .inr (1, [.ref (as18.getD 0 0), .int 0, .int 0, .int 0, .int 0, .int 0])), ((as18.getD 0 0), .inl (zac E 0, 15, .inl (fun _ => 0))), (q19, .inr (1, [.ref (as20.getD 0 0), .int 0, .int 0, .int 0, .int 0, .int 0])), ((as20.getD 0 0), .inl (zac E 0, 15, .inl (fun _ => 0))), (q21, .inr (1, [.ref (as22.getD 0 0), .int 0, .int 0, .int 0, .int 0, .int 0])), ((as22.getD 0 0), .inl (zac E 0, 15, .inl (fun _ => 0))), (q23, .inr (1, [.ref (as24.getD 0 0), .int 0, .int 0, .int 0, .int 0, .int 0])), ((as24.getD 0 0), .inl (zac E 0, 15, .inl (fun _ => 0))), (q25, .inr (1, [.ref (as26.getD 0 0), .int 0, .int 0, .int 0, .int 0, .int 0])), ((as26.getD 0 0), .inl (zac E 0, 15, .inl (fun _ => 0)))]) rfl ?_
  refine b_aast (pc := 41) (q0 := 1) (qk := 25) (t0 := 2) (ci := 1) (ws' := [(h0, .inr (2, [.ref q1, .ref q2, .int 0, .int 0, .int 0])), (q1, .inl (zac E 2, 12, .inr (.inr (.inr (.inr (va_up (va_up (va_up (va_up (va_up (va_up (va_up (va_up (va_up (va_up (va_up (va_up (fun _ => none) 0 (some q3)) 1 (some q5)) 2 (some q7)) 3 (some q9)) 4 (some q11)) 5 (some q13)) 6 (some q15)) 7 (some q17)) 8 (some q19)) 9 (some q21)) 10 (some q23)) 11 (some q25))))))), (q2, .inl (zac E 0, 100, .inl (fun _ => 0))), (q3, .inr (1, [.ref (as4.getD 0 0), .int 0, .int 0, .int 0, .int 0, .int 0])), ((as4.getD 0 0), .inl (zac E 0, 15, .inl (fun _ => 0))), (q5, .inr (1, [.ref (as6.getD 0 0), .int 0, .int 0, .int 0, .int 0, .int 0])), ((as6.getD 0 0), .inl (zac E 0, 15, .inl (fun _ => 0))), (q7, .inr (1, [.ref (as8.getD 0 0), .int 0, .int 0, .int 0, .int 0, .int 0])), ((as8.getD 0 0), .inl (zac E 0, 15, .inl (fun _ => 0))), (q9, .inr (1, [.ref (as10.getD 0 0), .int 0, .int 0, .int 0, .int 0, .int 0])), ((as10.getD 0 0), .inl (zac E 0, 15, .inl (fun _ => 0))), (q11, .inr (1, [.ref (as12.getD 0 0), .int 0, .int 0, .int 0, .int 0, .int 0])), ((as12.getD 0 0), .inl (zac E 0, 15, .inl (fun _ => 0))), (q13, .inr (1, [.ref (as14.getD 0 0), .int 0, .int 0, .int 0, .int 0, .int 0])), ((as14.getD 0 0), .inl (zac E 0, 15, .inl (fun _ => 0))), (q15, .inr (1, [.ref (as16.getD 0 0), .int 0, .int 0, .int 0, .int 0, .int 0])), ((as16.getD 0 0), .inl (zac E 0, 15, .inl (fun _ => 0))), (q17, .inr (1, [.ref (as18.getD 0 0), .int 0, .int 0, .int 0, .int 0, .int 0])), ((as18.getD 0 0), .inl (zac E 0, 15, .inl (fun _ => 0))), (q19, .inr (1, [.ref (as20.getD 0 0), .int 0, .int 0, .int 0, .int 0, .int 0])), ((as20.getD 0 0), .inl (zac E 0, 15, .inl (fun _ => 0))), (q21, .inr (1, [.ref (as22.getD 0 0), .int 0, .int 0, .int 0, .int 0, .int 0])), ((as22.getD 0 0), .inl (zac E 0, 15, .inl (fun _ => 0))), (q23, .inr (1, [.ref (as24.getD 0 0), .int 0, .int 0, .int 0, .int 0, .int 0])), ((as24.getD 0 0), .inl (zac E 0, 15, .inl (fun _ => 0))), (q25, .inr (1, [.ref (as26.getD 0 0), .int 0, .int 0, .int 0, .int 0, .int 0])), ((as26.getD 0 0), .inl (zac E 0, 15, .inl (fun _ => 0)))]) C rfl rfl rfl rfl (vp_in_iff.mpr (by decide)) rfl dX2_init_41 ?_
  refine b_iinc (pc := 42) (v := 12) (lv' := [some (.ref h0), some (.int 12)]) C dX2_init_42 (by decide) rfl (by decide) rfl ?_
  refine b_goto (pc := 45) (tgt := 23) C dX2_init_45 (by decide) ?_
  refine b_iload_n (pc := 23) C dX2_init_23 rfl ?_
  refine b_bipush (pc := 24) (v := 12) C dX2_init_24 (by decide) ?_
  refine b_geY (pc := 26) (tgt := 48) C dX2_init_26 (by decide) (by decide) ?_
  exact fin 48 _ _ [q1, q2, q3, (as4.getD 0 0), q5, (as6.getD 0 0), q7, (as8.getD 0 0), q9, (as10.getD 0 0), q11, (as12.getD 0 0), q13, (as14.getD 0 0), q15, (as16.getD 0 0), q17, (as18.getD 0 0), q19, (as20.getD 0 0), q21, (as22.getD 0 0), q23, (as24.getD 0 0), q25, (as26.getD 0 0)] [0, 1, 2, 3, 4, 5, 6, 7, 8, 9, 10, 11, 12, 13, 14, 15, 16, 17, 18, 19, 20, 21, 22, 23, 24, 25, 26] dX2_init_48 rfl (by decide) rfl
def rmI_X4_init : Room := { frames := 1, cells := 1, slots := 120, locals := 20 }
def wI_X4_init (E : zG) (h0 : Nat) (as : List Nat) : va_W := [(h0, .inr (4, [.ref (as.getD 0 0), .int 0])), ((as.getD 0 0), .inl (zac E 0, 120, .inl (fun _ => 0)))]
set_option maxHeartbeats 8000000 in
set_option maxRecDepth 100000 in
theorem i_X4_init {E : zG} (h0 : Nat) : zI E yX4_init cX4_init 1 rmI_X4_init [.ref h0] [(h0, .inr (4, [.null, .int 0]))] 1 (wI_X4_init E h0) 1 120 := by
  refine zI_of (nn := 0) (by decide) rfl (Nat.le_of_ble_eq_true rfl) rfl rfl (fun Γ A C hin fin => ?_)
  refine b_aload_n (pc := 0) C dX4_init_0 rfl ?_
  refine b_obj (pc := 1) C dX4_init_1 lb_m_X4_3 lb_oi lb_oc (by decide) (Nat.le_of_ble_eq_true rfl) ?_
  refine b_aload_n (pc := 4) C dX4_init_4 rfl ?_
  refine b_bipush (pc := 5) (v := 120) C dX4_init_5 (by decide) ?_
  refine b_newa (pc := 7) (atype := .int) (tf := .int) (N' := 120) (t0 := 0) (a0 := (120, .inl (fun _ => 0))) (cx2 := 1) (sx2 := 120) C lb_ac_int rfl rfl (fun _ => rfl) (by decide) (by decide) (by decide) (by decide) (by decide) rfl rfl dX4_init_7 (fun q1 => ?_)
  refine b_ws (ws' := [(h0, .inr (4, [.null, .int 0])), (q1, .inl (zac E 0, 120, .inl (fun _ => 0)))]) rfl ?_
  refine b_putF (pc := 9) (ws' := [(h0, .inr (4, [.ref q1, .int 0])), (q1, .inl (zac E 0, 120, .inl (fun _ => 0)))]) C K_X4 0 0 hin rfl rfl (by decide) lb_f_X4_9 rfl rfl rfl rfl (Nat.le_of_ble_eq_true rfl) rfl dX4_init_9 ?_
  exact fin 12 _ _ [q1] [0, 1] dX4_init_12 rfl (by decide) rfl
def rmI_X6_init : Room := { frames := 3, cells := 31, slots := 502, locals := 61 }
def wI_X6_init (E : zG) (h0 a0 a1 a2 : Nat) (as : List Nat) : va_W := [(h0, .inr (6, [.ref a0, .ref a1, .ref a2, .ref (as.getD 0 0), .ref (as.getD 27 0), .ref (as.getD 29 0), .ref (as.getD 30 0), .int 0, .int 130, .int 0, .int 0, .int 0, .int 0, .int 0, .int 0, .int 0, .int 0])), ((as.getD 0 0), .inr (2, [.ref (as.getD 1 0), .ref (as.getD 2 0), .int 0, .int 0, .int 0])), ((as.getD 1 0), .inl (zac E 2, 12, .inr (.inr (.inr (.inr (va_up (va_up (va_up (va_up (va_up (va_up (va_up (va_up (va_up (va_up (va_up (va_up (fun _ => none) 0 (some (as.getD 3 0))) 1 (some (as.getD 5 0))) 2 (some (as.getD 7 0))) 3 (some (as.getD 9 0))) 4 (some (as.getD 11 0))) 5 (some (as.getD 13 0))) 6 (some (as.getD 15 0))) 7 (some (as.getD 17 0))) 8 (some (as.getD 19 0))) 9 (some (as.getD 21 0))) 10 (some (as.getD 23 0))) 11 (some (as.getD 25 0)))))))), ((as.getD 2 0), .inl (zac E 0, 100, .inl (fun _ => 0))), ((as.getD 3 0), .inr (1, [.ref (as.getD 4 0), .int 0, .int 0, .int 0, .int 0, .int 0])), ((as.getD 4 0), .inl (zac E 0, 15, .inl (fun _ => 0))), ((as.getD 5 0), .inr (1, [.ref (as.getD 6 0), .int 0, .int 0, .int 0, .int 0, .int 0])), ((as.getD 6 0), .inl (zac E 0, 15, .inl (fun _ => 0))), ((as.getD 7 0), .inr (1, [.ref (as.getD 8 0), .int 0, .int 0, .int 0, .int 0, .int 0])), ((as.getD 8 0), .inl (zac E 0, 15, .inl (fun _ => 0))), ((as.getD 9 0), .inr (1, [.ref (as.getD 10 0), .int 0, .int 0, .int 0, .int 0, .int 0])), ((as.getD 10 0), .inl (zac E 0, 15, .inl (fun _ => 0))), ((as.getD 11 0), .inr (1, [.ref (as.getD 12 0), .int 0, .int 0, .int 0, .int 0, .int 0])), ((as.getD 12 0), .inl (zac E 0, 15, .inl (fun _ => 0))), ((as.getD 13 0), .inr (1, [.ref (as.getD 14 0), .int 0, .int 0, .int 0, .int 0, .int 0])), ((as.getD 14 0), .inl (zac E 0, 15, .inl (fun _ => 0))), ((as.getD 15 0), .inr (1, [.ref (as.getD 16 0), .int 0, .int 0, .int 0, .int 0, .int 0])), ((as.getD 16 0), .inl (zac E 0, 15, .inl (fun _ => 0))), ((as.getD 17 0), .inr (1, [.ref (as.getD 18 0), .int 0, .int 0, .int 0, .int 0, .int 0])), ((as.getD 18 0), .inl (zac E 0, 15, .inl (fun _ => 0))), ((as.getD 19 0), .inr (1, [.ref (as.getD 20 0), .int 0, .int 0, .int 0, .int 0, .int 0])), ((as.getD 20 0), .inl (zac E 0, 15, .inl (fun _ => 0))), ((as.getD 21 0), .inr (1, [.ref (as.getD 22 0), .int 0, .int 0, .int 0, .int 0, .int 0])), ((as.getD 22 0), .inl (zac E 0, 15, .inl (fun _ => 0))), ((as.getD 23 0), .inr (1, [.ref (as.getD 24 0), .int 0, .int 0, .int 0, .int 0, .int 0])), ((as.getD 24 0), .inl (zac E 0, 15, .inl (fun _ => 0))), ((as.getD 25 0), .inr (1, [.ref (as.getD 26 0), .int 0, .int 0, .int 0, .int 0, .int 0])), ((as.getD 26 0), .inl (zac E 0, 15, .inl (fun _ => 0))), ((as.getD 27 0), .inr (4, [.ref (as.getD 28 0), .int 0])), ((as.getD 28 0), .inl (zac E 0, 120, .inl (fun _ => 0))), ((as.getD 29 0), .inl (zac E 0, 8, .inl (fun _ => 0))), ((as.getD 30 0), .inl (zac E 0, 3, .inl (fun _ => 0)))]
set_option maxHeartbeats 8000000 in
set_option maxRecDepth 100000 in
theorem i_X6_init {E : zG} (h0 a0 a1 a2 : Nat) : zI E yX6_init cX6_init 4 rmI_X6_init [.ref h0, .ref a0, .ref a1, .ref a2] [(h0, .inr (6, [.null, .null, .null, .null, .null, .null, .null, .int 0, .int 0, .int 0, .int 0, .int 0, .int 0, .int 0, .int 0, .int 0, .int 0]))] 31 (wI_X6_init E h0 a0 a1 a2) 31 502 := by
  refine zI_of (nn := 0) (by decide) rfl (Nat.le_of_ble_eq_true rfl) rfl rfl (fun Γ A C hin fin => ?_)
  refine b_aload_n (pc := 0) C dX6_init_0 rfl ?_
  refine b_obj (pc := 1) C dX6_init_1 lb_m_X6_3 lb_oi lb_oc (by decide) (Nat.le_of_ble_eq_true rfl) ?_
  refine b_aload_n (pc := 4) C dX6_init_4 rfl ?_
  refine b_new (pc := 5) (fs := [.null, .null, .int 0, .int 0, .int 0]) (cx2 := 1) (sx2 := 5) C K_X2 lb_c_X6_9 lb_n_X2 lb_i_X2 (fun j hj => by rcases (show j = 0 ∨ j = 1 ∨ j = 2 ∨ j = 3 ∨ j = 4 by omega) with rfl | rfl | rfl | rfl | rfl <;> rfl) (by decide) (by decide) rfl rfl dX6_init_5 (fun q1 => ?_)
  refine b_ws (ws' := [(h0, .inr (6, [.null, .null, .null, .null, .null, .null, .null, .int 0, .int 0, .int 0, .int 0, .int 0, .int 0, .int 0, .int 0, .int 0, .int 0])), (q1, .inr (2, [.null, .null, .int 0, .int 0, .int 0]))]) rfl ?_
  refine b_dup (pc := 8) C dX6_init_8 rfl ?_
  refine b_callI (pc := 9) (n := 0) (wr := [(h0, .inr (6, [.null, .null, .null, .null, .null, .null, .null, .int 0, .int 0, .int 0, .int 0, .int 0, .int 0, .int 0, .int 0, .int 0, .int 0]))]) (cx2 := 27) (sx2 := 369) C (i_X2_init _) lb_cc_X2_init lb_i_X2 lb_m_X6_11 lb_im_X2_init rfl (by decide +kernel) rfl ⟨rfl, rfl⟩ (by decide) [1] [0] rfl rfl (by decide) (by decide) (by decide) (Nat.le_of_ble_eq_true rfl) (by decide) rfl rfl dX6_init_9 (fun as2 eas2 => ?_)
  refine b_ws (ws' := [(h0, .inr (6, [.null, .null, .null, .null, .null, .null, .null, .int 0, .int 0, .int 0, .int 0, .int 0, .int 0, .int 0, .int 0, .int 0, .int 0])), (q1, .inr (2, [.ref (as2.getD 0 0), .ref (as2.getD 1 0), .int 0, .int 0, .int 0])), ((as2.getD 0 0), .inl (zac E 2, 12, .inr (.inr (.inr (.inr (va_up (va_up (va_up (va_up (va_up (va_up (va_up (va_up (va_up (va_up (va_up (va_up (fun _ => none) 0 (some (as2.getD 2 0))) 1 (some (as2.getD 4 0))) 2 (some (as2.getD 6 0))) 3 (some (as2.getD 8 0))) 4 (some (as2.getD 10 0))) 5 (some (as2.getD 12 0))) 6 (some (as2.getD 14 0))) 7 (some (as2.getD 16 0))) 8 (some (as2.getD 18 0))) 9 (some (as2.getD 20 0))) 10 (some (as2.getD 22 0))) 11 (some (as2.getD 24 0)))))))), ((as2.getD 1 0), .inl (zac E 0, 100, .inl (fun _ => 0))), ((as2.getD 2 0), .inr (1, [.ref (as2.getD 3 0), .int 0, .int 0, .int 0, .int 0, .int 0])), ((as2.getD 3 0), .inl (zac E 0, 15, .inl (fun _ => 0))), ((as2.getD 4 0), .inr (1, [.ref (as2.getD 5 0), .int 0, .int 0, .int 0, .int 0, .int 0])), ((as2.getD 5 0), .inl (zac E 0, 15, .inl (fun _ => 0))), ((as2.getD 6 0), .inr (1, [.ref (as2.getD 7 0), .int 0, .int 0, .int 0, .int 0, .int 0])), ((as2.getD 7 0), .inl (zac E 0, 15, .inl (fun _ => 0))), ((as2.getD 8 0), .inr (1, [.ref (as2.getD 9 0), .int 0, .int 0, .int 0, .int 0, .int 0])), ((as2.getD 9 0), .inl (zac E 0, 15, .inl (fun _ => 0))), ((as2.getD 10 0), .inr (1, [.ref (as2.getD 11 0), .int 0, .int 0, .int 0, .int 0, .int 0])), ((as2.getD 11 0), .inl (zac E 0, 15, .inl (fun _ => 0))), ((as2.getD 12 0), .inr (1, [.ref (as2.getD 13 0), .int 0, .int 0, .int 0, .int 0, .int 0])), ((as2.getD 13 0), .inl (zac E 0, 15, .inl (fun _ => 0))), ((as2.getD 14 0), .inr (1, [.ref (as2.getD 15 0), .int 0, .int 0, .int 0, .int 0, .int 0])), ((as2.getD 15 0), .inl (zac E 0, 15, .inl (fun _ => 0))), ((as2.getD 16 0), .inr (1, [.ref (as2.getD 17 0), .int 0, .int 0, .int 0, .int 0, .int 0])), ((as2.getD 17 0), .inl (zac E 0, 15, .inl (fun _ => 0))), ((as2.getD 18 0), .inr (1, [.ref (as2.getD 19 0), .int 0, .int 0, .int 0, .int 0, .int 0])), ((as2.getD 19 0), .inl (zac E 0, 15, .inl (fun _ => 0))), ((as2.getD 20 0), .inr (1, [.ref (as2.getD 21 0), .int 0, .int 0, .int 0, .int 0, .int 0])), ((as2.getD 21 0), .inl (zac E 0, 15, .inl (fun _ => 0))), ((as2.getD 22 0), .inr (1, [.ref (as2.getD 23 0), .int 0, .int 0, .int 0, .int 0, .int 0])), ((as2.getD 23 0), .inl (zac E 0, 15, .inl (fun _ => 0))), ((as2.getD 24 0), .inr (1, [.ref (as2.getD 25 0), .int 0, .int 0, .int 0, .int 0, .int 0])), ((as2.getD 25 0), .inl (zac E 0, 15, .inl (fun _ => 0)))]) rfl ?_
  refine b_putF (pc := 12) (ws' := [(h0, .inr (6, [.null, .null, .null, .ref q1, .null, .null, .null, .int 0, .int 0, .int 0, .int 0, .int 0, .int 0, .int 0, .int 0, .int 0, .int 0])), (q1, .inr (2, [.ref (as2.getD 0 0), .ref (as2.getD 1 0), .int 0, .int 0, .int 0])), ((as2.getD 0 0), .inl (zac E 2, 12, .inr (.inr (.inr (.inr (va_up (va_up (va_up (va_up (va_up (va_up (va_up (va_up (va_up (va_up (va_up (va_up (fun _ => none) 0 (some (as2.getD 2 0))) 1 (some (as2.getD 4 0))) 2 (some (as2.getD 6 0))) 3 (some (as2.getD 8 0))) 4 (some (as2.getD 10 0))) 5 (some (as2.getD 12 0))) 6 (some (as2.getD 14 0))) 7 (some (as2.getD 16 0))) 8 (some (as2.getD 18 0))) 9 (some (as2.getD 20 0))) 10 (some (as2.getD 22 0))) 11 (some (as2.getD 24 0)))))))), ((as2.getD 1 0), .inl (zac E 0, 100, .inl (fun _ => 0))), ((as2.getD 2 0), .inr (1, [.ref (as2.getD 3 0), .int 0, .int 0, .int 0, .int 0, .int 0])), ((as2.getD 3 0), .inl (zac E 0, 15, .inl (fun _ => 0))), ((as2.getD 4 0), .inr (1, [.ref (as2.getD 5 0), .int 0, .int 0, .int 0, .int 0, .int 0])), ((as2.getD 5 0), .inl (zac E 0, 15, .inl (fun _ => 0))), ((as2.getD 6 0), .inr (1, [.ref (as2.getD 7 0), .int 0, .int 0, .int 0, .int 0, .int 0])), ((as2.getD 7 0), .inl (zac E 0, 15, .inl (fun _ => 0))), ((as2.getD 8 0), .inr (1, [.ref (as2.getD 9 0), .int 0, .int 0, .int 0, .int 0, .int 0])), ((as2.getD 9 0), .inl (zac E 0, 15, .inl (fun _ => 0))), ((as2.getD 10 0), .inr (1, [.ref (as2.getD 11 0), .int 0, .int 0, .int 0, .int 0, .int 0])), ((as2.getD 11 0), .inl (zac E 0, 15, .inl (fun _ => 0))), ((as2.getD 12 0), .inr (1, [.ref (as2.getD 13 0), .int 0, .int 0, .int 0, .int 0, .int 0])), ((as2.getD 13 0), .inl (zac E 0, 15, .inl (fun _ => 0))), ((as2.getD 14 0), .inr (1, [.ref (as2.getD 15 0), .int 0, .int 0, .int 0, .int 0, .int 0])), ((as2.getD 15 0), .inl (zac E 0, 15, .inl (fun _ => 0))), ((as2.getD 16 0), .inr (1, [.ref (as2.getD 17 0), .int 0, .int 0, .int 0, .int 0, .int 0])), ((as2.getD 17 0), .inl (zac E 0, 15, .inl (fun _ => 0))), ((as2.getD 18 0), .inr (1, [.ref (as2.getD 19 0), .int 0, .int 0, .int 0, .int 0, .int 0])), ((as2.getD 19 0), .inl (zac E 0, 15, .inl (fun _ => 0))), ((as2.getD 20 0), .inr (1, [.ref (as2.getD 21 0), .int 0, .int 0, .int 0, .int 0, .int 0])), ((as2.getD 21 0), .inl (zac E 0, 15, .inl (fun _ => 0))), ((as2.getD 22 0), .inr (1, [.ref (as2.getD 23 0), .int 0, .int 0, .int 0, .int 0, .int 0])), ((as2.getD 23 0), .inl (zac E 0, 15, .inl (fun _ => 0))), ((as2.getD 24 0), .inr (1, [.ref (as2.getD 25 0), .int 0, .int 0, .int 0, .int 0, .int 0])), ((as2.getD 25 0), .inl (zac E 0, 15, .inl (fun _ => 0)))]) C K_X6 0 3 hin rfl rfl (by decide) lb_f_X6_12 rfl rfl rfl rfl (Nat.le_of_ble_eq_true rfl) rfl dX6_init_12 ?_
  refine b_aload_n (pc := 15) C dX6_init_15 rfl ?_
  refine b_new (pc := 16) (fs := [.null, .int 0]) (cx2 := 28) (sx2 := 371) C K_X4 lb_c_X6_18 lb_n_X4 lb_i_X4 (fun j hj => by rcases (show j = 0 ∨ j = 1 by omega) with rfl | rfl <;> rfl) (by decide) (by decide) rfl rfl dX6_init_16 (fun q3 => ?_)
  refine b_ws (ws' := [(h0, .inr (6, [.null, .null, .null, .ref q1, .null, .null, .null, .int 0, .int 0, .int 0, .int 0, .int 0, .int 0, .int 0, .int 0, .int 0, .int 0])), (q1, .inr (2, [.ref (as2.getD 0 0), .ref (as2.getD 1 0), .int 0, .int 0, .int 0])), ((as2.getD 0 0), .inl (zac E 2, 12, .inr (.inr (.inr (.inr (va_up (va_up (va_up (va_up (va_up (va_up (va_up (va_up (va_up (va_up (va_up (va_up (fun _ => none) 0 (some (as2.getD 2 0))) 1 (some (as2.getD 4 0))) 2 (some (as2.getD 6 0))) 3 (some (as2.getD 8 0))) 4 (some (as2.getD 10 0))) 5 (some (as2.getD 12 0))) 6 (some (as2.getD 14 0))) 7 (some (as2.getD 16 0))) 8 (some (as2.getD 18 0))) 9 (some (as2.getD 20 0))) 10 (some (as2.getD 22 0))) 11 (some (as2.getD 24 0)))))))), ((as2.getD 1 0), .inl (zac E 0, 100, .inl (fun _ => 0))), ((as2.getD 2 0), .inr (1, [.ref (as2.getD 3 0), .int 0, .int 0, .int 0, .int 0, .int 0])), ((as2.getD 3 0), .inl (zac E 0, 15, .inl (fun _ => 0))), ((as2.getD 4 0), .inr (1, [.ref (as2.getD 5 0), .int 0, .int 0, .int 0, .int 0, .int 0])), ((as2.getD 5 0), .inl (zac E 0, 15, .inl (fun _ => 0))), ((as2.getD 6 0), .inr (1, [.ref (as2.getD 7 0), .int 0, .int 0, .int 0, .int 0, .int 0])), ((as2.getD 7 0), .inl (zac E 0, 15, .inl (fun _ => 0))), ((as2.getD 8 0), .inr (1, [.ref (as2.getD 9 0), .int 0, .int 0, .int 0, .int 0, .int 0])), ((as2.getD 9 0), .inl (zac E 0, 15, .inl (fun _ => 0))), ((as2.getD 10 0), .inr (1, [.ref (as2.getD 11 0), .int 0, .int 0, .int 0, .int 0, .int 0])), ((as2.getD 11 0), .inl (zac E 0, 15, .inl (fun _ => 0))), ((as2.getD 12 0), .inr (1, [.ref (as2.getD 13 0), .int 0, .int 0, .int 0, .int 0, .int 0])), ((as2.getD 13 0), .inl (zac E 0, 15, .inl (fun _ => 0))), ((as2.getD 14 0), .inr (1, [.ref (as2.getD 15 0), .int 0, .int 0, .int 0, .int 0, .int 0])), ((as2.getD 15 0), .inl (zac E 0, 15, .inl (fun _ => 0))), ((as2.getD 16 0), .inr (1, [.ref (as2.getD 17 0), .int 0, .int 0, .int 0, .int 0, .int 0])), ((as2.getD 17 0), .inl (zac E 0, 15, .inl (fun _ => 0))), ((as2.getD 18 0), .inr (1, [.ref (as2.getD 19 0), .int 0, .int 0, .int 0, .int 0, .int 0])), ((as2.getD 19 0), .inl (zac E 0, 15, .inl (fun _ => 0))), ((as2.getD 20 0), .inr (1, [.ref (as2.getD 21 0), .int 0, .int 0, .int 0, .int 0, .int 0])), ((as2.getD 21 0), .inl (zac E 0, 15, .inl (fun _ => 0))), ((as2.getD 22 0), .inr (1, [.ref (as2.getD 23 0), .int 0, .int 0, .int 0, .int 0, .int 0])), ((as2.getD 23 0), .inl (zac E 0, 15, .inl (fun _ => 0))), ((as2.getD 24 0), .inr (1, [.ref (as2.getD 25 0), .int 0, .int 0, .int 0, .int 0, .int 0])), ((as2.getD 25 0), .inl (zac E 0, 15, .inl (fun _ => 0))), (q3, .inr (4, [.null, .int 0]))]) rfl ?_
  refine b_dup (pc := 19) C dX6_init_19 rfl ?_
  refine b_callIN (pc := 20) (n := 0) (wr := [(h0, .inr (6, [.null, .null, .null, .ref q1, .null, .null, .null, .int 0, .int 0, .int 0, .int 0, .int 0, .int 0, .int 0, .int 0, .int 0, .int 0])), (q1, .inr (2, [.ref (as2.getD 0 0), .ref (as2.getD 1 0), .int 0, .int 0, .int 0])), ((as2.getD 0 0), .inl (zac E 2, 12, .inr (.inr (.inr (.inr (va_up (va_up (va_up (va_up (va_up (va_up (va_up (va_up (va_up (va_up (va_up (va_up (fun _ => none) 0 (some (as2.getD 2 0))) 1 (some (as2.getD 4 0))) 2 (some (as2.getD 6 0))) 3 (some (as2.getD 8 0))) 4 (some (as2.getD 10 0))) 5 (some (as2.getD 12 0))) 6 (some (as2.getD 14 0))) 7 (some (as2.getD 16 0))) 8 (some (as2.getD 18 0))) 9 (some (as2.getD 20 0))) 10 (some (as2.getD 22 0))) 11 (some (as2.getD 24 0)))))))), ((as2.getD 1 0), .inl (zac E 0, 100, .inl (fun _ => 0))), ((as2.getD 2 0), .inr (1, [.ref (as2.getD 3 0), .int 0, .int 0, .int 0, .int 0, .int 0])), ((as2.getD 3 0), .inl (zac E 0, 15, .inl (fun _ => 0))), ((as2.getD 4 0), .inr (1, [.ref (as2.getD 5 0), .int 0, .int 0, .int 0, .int 0, .int 0])), ((as2.getD 5 0), .inl (zac E 0, 15, .inl (fun _ => 0))), ((as2.getD 6 0), .inr (1, [.ref (as2.getD 7 0), .int 0, .int 0, .int 0, .int 0, .int 0])), ((as2.getD 7 0), .inl (zac E 0, 15, .inl (fun _ => 0))), ((as2.getD 8 0), .inr (1, [.ref (as2.getD 9 0), .int 0, .int 0, .int 0, .int 0, .int 0])), ((as2.getD 9 0), .inl (zac E 0, 15, .inl (fun _ => 0))), ((as2.getD 10 0), .inr (1, [.ref (as2.getD 11 0), .int 0, .int 0, .int 0, .int 0, .int 0])), ((as2.getD 11 0), .inl (zac E 0, 15, .inl (fun _ => 0))), ((as2.getD 12 0), .inr (1, [.ref (as2.getD 13 0), .int 0, .int 0, .int 0, .int 0, .int 0])), ((as2.getD 13 0), .inl (zac E 0, 15, .inl (fun _ => 0))), ((as2.getD 14 0), .inr (1, [.ref (as2.getD 15 0), .int 0, .int 0, .int 0, .int 0, .int 0])), ((as2.getD 15 0), .inl (zac E 0, 15, .inl (fun _ => 0))), ((as2.getD 16 0), .inr (1, [.ref (as2.getD 17 0), .int 0, .int 0, .int 0, .int 0, .int 0])), ((as2.getD 17 0), .inl (zac E 0, 15, .inl (fun _ => 0))), ((as2.getD 18 0), .inr (1, [.ref (as2.getD 19 0), .int 0, .int 0, .int 0, .int 0, .int 0])), ((as2.getD 19 0), .inl (zac E 0, 15, .inl (fun _ => 0))), ((as2.getD 20 0), .inr (1, [.ref (as2.getD 21 0), .int 0, .int 0, .int 0, .int 0, .int 0])), ((as2.getD 21 0), .inl (zac E 0, 15, .inl (fun _ => 0))), ((as2.getD 22 0), .inr (1, [.ref (as2.getD 23 0), .int 0, .int 0, .int 0, .int 0, .int 0])), ((as2.getD 23 0), .inl (zac E 0, 15, .inl (fun _ => 0))), ((as2.getD 24 0), .inr (1, [.ref (as2.getD 25 0), .int 0, .int 0, .int 0, .int 0, .int 0])), ((as2.getD 25 0), .inl (zac E 0, 15, .inl (fun _ => 0)))]) (cx2 := 29) (sx2 := 491) C (i_X4_init _) lb_cc_X4_init lb_i_X4 lk_mn_X6_20 lb_im_X4_init rfl (by decide +kernel) rfl ⟨rfl, rfl⟩ (by decide) [28] [0, 1, 2, 3, 4, 5, 6, 7, 8, 9, 10, 11, 12, 13, 14, 15, 16, 17, 18, 19, 20, 21, 22, 23, 24, 25, 26, 27] rfl rfl (by decide) (by decide) (by decide) (Nat.le_of_ble_eq_true rfl) (by decide) rfl rfl dX6_init_20 (fun as4 eas4 => ?_)
  refine b_ws (ws' := [(h0, .inr (6, [.null, .null, .null, .ref q1, .null, .null, .null, .int 0, .int 0, .int 0, .int 0, .int 0, .int 0, .int 0, .int 0, .int 0, .int 0])), (q1, .inr (2, [.ref (as2.getD 0 0), .ref (as2.getD 1 0), .int 0, .int 0, .int 0])), ((as2.getD 0 0), .inl (zac E 2, 12, .inr (.inr (.inr (.inr (va_up (va_up (va_up (va_up (va_up (va_up (va_up (va_up (va_up (va_up (va_up (va_up (fun _ => none) 0 (some (as2.getD 2 0))) 1 (some (as2.getD 4 0))) 2 (some (as2.getD 6 0))) 3 (some (as2.getD 8 0))) 4 (some (as2.getD 10 0))) 5 (some (as2.getD 12 0))) 6 (some (as2.getD 14 0))) 7 (some (as2.getD 16 0))) 8 (some (as2.getD 18 0))) 9 (some (as2.getD 20 0))) 10 (some (as2.getD 22 0))) 11 (some (as2.getD 24 0)))))))), ((as2.getD 1 0), .inl (zac E 0, 100, .inl (fun _ => 0))), ((as2.getD 2 0), .inr (1, [.ref (as2.getD 3 0), .int 0, .int 0, .int 0, .int 0, .int 0])), ((as2.getD 3 0), .inl (zac E 0, 15, .inl (fun _ => 0))), ((as2.getD 4 0), .inr (1, [.ref (as2.getD 5 0), .int 0, .int 0, .int 0, .int 0, .int 0])), ((as2.getD 5 0), .inl (zac E 0, 15, .inl (fun _ => 0))), ((as2.getD 6 0), .inr (1, [.ref (as2.getD 7 0), .int 0, .int 0, .int 0, .int 0, .int 0])), ((as2.getD 7 0), .inl (zac E 0, 15, .inl (fun _ => 0))), ((as2.getD 8 0), .inr (1, [.ref (as2.getD 9 0), .int 0, .int 0, .int 0, .int 0, .int 0])), ((as2.getD 9 0), .inl (zac E 0, 15, .inl (fun _ => 0))), ((as2.getD 10 0), .inr (1, [.ref (as2.getD 11 0), .int 0, .int 0, .int 0, .int 0, .int 0])), ((as2.getD 11 0), .inl (zac E 0, 15, .inl (fun _ => 0))), ((as2.getD 12 0), .inr (1, [.ref (as2.getD 13 0), .int 0, .int 0, .int 0, .int 0, .int 0])), ((as2.getD 13 0), .inl (zac E 0, 15, .inl (fun _ => 0))), ((as2.getD 14 0), .inr (1, [.ref (as2.getD 15 0), .int 0, .int 0, .int 0, .int 0, .int 0])), ((as2.getD 15 0), .inl (zac E 0, 15, .inl (fun _ => 0))), ((as2.getD 16 0), .inr (1, [.ref (as2.getD 17 0), .int 0, .int 0, .int 0, .int 0, .int 0])), ((as2.getD 17 0), .inl (zac E 0, 15, .inl (fun _ => 0))), ((as2.getD 18 0), .inr (1, [.ref (as2.getD 19 0), .int 0, .int 0, .int 0, .int 0, .int 0])), ((as2.getD 19 0), .inl (zac E 0, 15, .inl (fun _ => 0))), ((as2.getD 20 0), .inr (1, [.ref (as2.getD 21 0), .int 0, .int 0, .int 0, .int 0, .int 0])), ((as2.getD 21 0), .inl (zac E 0, 15, .inl (fun _ => 0))), ((as2.getD 22 0), .inr (1, [.ref (as2.getD 23 0), .int 0, .int 0, .int 0, .int 0, .int 0])), ((as2.getD 23 0), .inl (zac E 0, 15, .inl (fun _ => 0))), ((as2.getD 24 0), .inr (1, [.ref (as2.getD 25 0), .int 0, .int 0, .int 0, .int 0, .int 0])), ((as2.getD 25 0), .inl (zac E 0, 15, .inl (fun _ => 0))), (q3, .inr (4, [.ref (as4.getD 0 0), .int 0])), ((as4.getD 0 0), .inl (zac E 0, 120, .inl (fun _ => 0)))]) rfl ?_
  refine b_putF (pc := 23) (ws' := [(h0, .inr (6, [.null, .null, .null, .ref q1, .ref q3, .null, .null, .int 0, .int 0, .int 0, .int 0, .int 0, .int 0, .int 0, .int 0, .int 0, .int 0])), (q1, .inr (2, [.ref (as2.getD 0 0), .ref (as2.getD 1 0), .int 0, .int 0, .int 0])), ((as2.getD 0 0), .inl (zac E 2, 12, .inr (.inr (.inr (.inr (va_up (va_up (va_up (va_up (va_up (va_up (va_up (va_up (va_up (va_up (va_up (va_up (fun _ => none) 0 (some (as2.getD 2 0))) 1 (some (as2.getD 4 0))) 2 (some (as2.getD 6 0))) 3 (some (as2.getD 8 0))) 4 (some (as2.getD 10 0))) 5 (some (as2.getD 12 0))) 6 (some (as2.getD 14 0))) 7 (some (as2.getD 16 0))) 8 (some (as2.getD 18 0))) 9 (some (as2.getD 20 0))) 10 (some (as2.getD 22 0))) 11 (some (as2.getD 24 0)))))))), ((as2.getD 1 0), .inl (zac E 0, 100, .inl (fun _ => 0))), ((as2.getD 2 0), .inr (1, [.ref (as2.getD 3 0), .int 0, .int 0, .int 0, .int 0, .int 0])), ((as2.getD 3 0), .inl (zac E 0, 15, .inl (fun _ => 0))), ((as2.getD 4 0), .inr (1, [.ref (as2.getD 5 0), .int 0, .int 0, .int 0, .int 0, .int 0])), ((as2.getD 5 0), .inl (zac E 0, 15, .inl (fun _ => 0))), ((as2.getD 6 0), .inr (1, [.ref (as2.getD 7 0), .int 0, .int 0, .int 0, .int 0, .int 0])), ((as2.getD 7 0), .inl (zac E 0, 15, .inl (fun _ => 0))), ((as2.getD 8 0), .inr (1, [.ref (as2.getD 9 0), .int 0, .int 0, .int 0, .int 0, .int 0])), ((as2.getD 9 0), .inl (zac E 0, 15, .inl (fun _ => 0))), ((as2.getD 10 0), .inr (1, [.ref (as2.getD 11 0), .int 0, .int 0, .int 0, .int 0, .int 0])), ((as2.getD 11 0), .inl (zac E 0, 15, .inl (fun _ => 0))), ((as2.getD 12 0), .inr (1, [.ref (as2.getD 13 0), .int 0, .int 0, .int 0, .int 0, .int 0])), ((as2.getD 13 0), .inl (zac E 0, 15, .inl (fun _ => 0))), ((as2.getD 14 0), .inr (1, [.ref (as2.getD 15 0), .int 0, .int 0, .int 0, .int 0, .int 0])), ((as2.getD 15 0), .inl (zac E 0, 15, .inl (fun _ => 0))), ((as2.getD 16 0), .inr (1, [.ref (as2.getD 17 0), .int 0, .int 0, .int 0, .int 0, .int 0])), ((as2.getD 17 0), .inl (zac E 0, 15, .inl (fun _ => 0))), ((as2.getD 18 0), .inr (1, [.ref (as2.getD 19 0), .int 0, .int 0, .int 0, .int 0, .int 0])), ((as2.getD 19 0), .inl (zac E 0, 15, .inl (fun _ => 0))), ((as2.getD 20 0), .inr (1, [.ref (as2.getD 21 0), .int 0, .int 0, .int 0, .int 0, .int 0])), ((as2.getD 21 0), .inl (zac E 0, 15, .inl (fun _ => 0))), ((as2.getD 22 0), .inr (1, [.ref (as2.getD 23 0), .int 0, .int 0, .int 0, .int 0, .int 0])), ((as2.getD 23 0), .inl (zac E 0, 15, .inl (fun _ => 0))), ((as2.getD 24 0), .inr (1, [.ref (as2.getD 25 0), .int 0, .int 0, .int 0, .int 0, .int 0])), ((as2.getD 25 0), .inl (zac E 0, 15, .inl (fun _ => 0))), (q3, .inr (4, [.ref (as4.getD 0 0), .int 0])), ((as4.getD 0 0), .inl (zac E 0, 120, .inl (fun _ => 0)))]) C K_X6 0 4 hin rfl rfl (by decide) lb_f_X6_21 rfl rfl rfl rfl (Nat.le_of_ble_eq_true rfl) rfl dX6_init_23 ?_
  refine b_aload_n (pc := 26) C dX6_init_26 rfl ?_
  refine b_bipush (pc := 27) (v := 8) C dX6_init_27 (by decide) ?_
  refine b_newa (pc := 29) (atype := .int) (tf := .int) (N' := 8) (t0 := 0) (a0 := (8, .inl (fun _ => 0))) (cx2 := 30) (sx2 := 499) C lb_ac_int rfl rfl (fun _ => rfl) (by decide) (by decide) (by decide) (by decide) (by decide) rfl rfl dX6_init_29 (fun q5 => ?_)
  refine b_ws (ws' := [(h0, .inr (6, [.null, .null, .null, .ref q1, .ref q3, .null, .null, .int 0, .int 0, .int 0, .int 0, .int 0, .int 0, .int 0, .int 0, .int 0, .int 0])), (q1, .inr (2, [.ref (as2.getD 0 0), .ref (as2.getD 1 0), .int 0, .int 0, .int 0])), ((as2.getD 0 0), .inl (zac E 2, 12, .inr (.inr (.inr (.inr (va_up (va_up (va_up (va_up (va_up (va_up (va_up (va_up (va_up (va_up (va_up (va_up (fun _ => none) 0 (some (as2.getD 2 0))) 1 (some (as2.getD 4 0))) 2 (some (as2.getD 6 0))) 3 (some (as2.getD 8 0))) 4 (some (as2.getD 10 0))) 5 (some (as2.getD 12 0))) 6 (some (as2.getD 14 0))) 7 (some (as2.getD 16 0))) 8 (some (as2.getD 18 0))) 9 (some (as2.getD 20 0))) 10 (some (as2.getD 22 0))) 11 (some (as2.getD 24 0)))))))), ((as2.getD 1 0), .inl (zac E 0, 100, .inl (fun _ => 0))), ((as2.getD 2 0), .inr (1, [.ref (as2.getD 3 0), .int 0, .int 0, .int 0, .int 0, .int 0])), ((as2.getD 3 0), .inl (zac E 0, 15, .inl (fun _ => 0))), ((as2.getD 4 0), .inr (1, [.ref (as2.getD 5 0), .int 0, .int 0, .int 0, .int 0, .int 0])), ((as2.getD 5 0), .inl (zac E 0, 15, .inl (fun _ => 0))), ((as2.getD 6 0), .inr (1, [.ref (as2.getD 7 0), .int 0, .int 0, .int 0, .int 0, .int 0])), ((as2.getD 7 0), .inl (zac E 0, 15, .inl (fun _ => 0))), ((as2.getD 8 0), .inr (1, [.ref (as2.getD 9 0), .int 0, .int 0, .int 0, .int 0, .int 0])), ((as2.getD 9 0), .inl (zac E 0, 15, .inl (fun _ => 0))), ((as2.getD 10 0), .inr (1, [.ref (as2.getD 11 0), .int 0, .int 0, .int 0, .int 0, .int 0])), ((as2.getD 11 0), .inl (zac E 0, 15, .inl (fun _ => 0))), ((as2.getD 12 0), .inr (1, [.ref (as2.getD 13 0), .int 0, .int 0, .int 0, .int 0, .int 0])), ((as2.getD 13 0), .inl (zac E 0, 15, .inl (fun _ => 0))), ((as2.getD 14 0), .inr (1, [.ref (as2.getD 15 0), .int 0, .int 0, .int 0, .int 0, .int 0])), ((as2.getD 15 0), .inl (zac E 0, 15, .inl (fun _ => 0))), ((as2.getD 16 0), .inr (1, [.ref (as2.getD 17 0), .int 0, .int 0, .int 0, .int 0, .int 0])), ((as2.getD 17 0), .inl (zac E 0, 15, .inl (fun _ => 0))), ((as2.getD 18 0), .inr (1, [.ref (as2.getD 19 0), .int 0, .int 0, .int 0, .int 0, .int 0])), ((as2.getD 19 0), .inl (zac E 0, 15, .inl (fun _ => 0))), ((as2.getD 20 0), .inr (1, [.ref (as2.getD 21 0), .int 0, .int 0, .int 0, .int 0, .int 0])), ((as2.getD 21 0), .inl (zac E 0, 15, .inl (fun _ => 0))), ((as2.getD 22 0), .inr (1, [.ref (as2.getD 23 0), .int 0, .int 0, .int 0, .int 0, .int 0])), ((as2.getD 23 0), .inl (zac E 0, 15, .inl (fun _ => 0))), ((as2.getD 24 0), .inr (1, [.ref (as2.getD 25 0), .int 0, .int 0, .int 0, .int 0, .int 0])), ((as2.getD 25 0), .inl (zac E 0, 15, .inl (fun _ => 0))), (q3, .inr (4, [.ref (as4.getD 0 0), .int 0])), ((as4.getD 0 0), .inl (zac E 0, 120, .inl (fun _ => 0))), (q5, .inl (zac E 0, 8, .inl (fun _ => 0)))]) rfl ?_
  refine b_putF (pc := 31) (ws' := [(h0, .inr (6, [.null, .null, .null, .ref q1, .ref q3, .ref q5, .null, .int 0, .int 0, .int 0, .int 0, .int 0, .int 0, .int 0, .int 0, .int 0, .int 0])), (q1, .inr (2, [.ref (as2.getD 0 0), .ref (as2.getD 1 0), .int 0, .int 0, .int 0])), ((as2.getD 0 0), .inl (zac E 2, 12, .inr (.inr (.inr (.inr (va_up (va_up (va_up (va_up (va_up (va_up (va_up (va_up (va_up (va_up (va_up (va_up (fun _ => none) 0 (some (as2.getD 2 0))) 1 (some (as2.getD 4 0))) 2 (some (as2.getD 6 0))) 3 (some (as2.getD 8 0))) 4 (some (as2.getD 10 0))) 5 (some (as2.getD 12 0))) 6 (some (as2.getD 14 0))) 7 (some (as2.getD 16 0))) 8 (some (as2.getD 18 0))) 9 (some (as2.getD 20 0))) 10 (some (as2.getD 22 0))) 11 (some (as2.getD 24 0)))))))), ((as2.getD 1 0), .inl (zac E 0, 100, .inl (fun _ => 0))), ((as2.getD 2 0), .inr (1, [.ref (as2.getD 3 0), .int 0, .int 0, .int 0, .int 0, .int 0])), ((as2.getD 3 0), .inl (zac E 0, 15, .inl (fun _ => 0))), ((as2.getD 4 0), .inr (1, [.ref (as2.getD 5 0), .int 0, .int 0, .int 0, .int 0, .int 0])), ((as2.getD 5 0), .inl (zac E 0, 15, .inl (fun _ => 0))), ((as2.getD 6 0), .inr (1, [.ref (as2.getD 7 0), .int 0, .int 0, .int 0, .int 0, .int 0])), ((as2.getD 7 0), .inl (zac E 0, 15, .inl (fun _ => 0))), ((as2.getD 8 0), .inr (1, [.ref (as2.getD 9 0), .int 0, .int 0, .int 0, .int 0, .int 0])), ((as2.getD 9 0), .inl (zac E 0, 15, .inl (fun _ => 0))), ((as2.getD 10 0), .inr (1, [.ref (as2.getD 11 0), .int 0, .int 0, .int 0, .int 0, .int 0])), ((as2.getD 11 0), .inl (zac E 0, 15, .inl (fun _ => 0))), ((as2.getD 12 0), .inr (1, [.ref (as2.getD 13 0), .int 0, .int 0, .int 0, .int 0, .int 0])), ((as2.getD 13 0), .inl (zac E 0, 15, .inl (fun _ => 0))), ((as2.getD 14 0), .inr (1, [.ref (as2.getD 15 0), .int 0, .int 0, .int 0, .int 0, .int 0])), ((as2.getD 15 0), .inl (zac E 0, 15, .inl (fun _ => 0))), ((as2.getD 16 0), .inr (1, [.ref (as2.getD 17 0), .int 0, .int 0, .int 0, .int 0, .int 0])), ((as2.getD 17 0), .inl (zac E 0, 15, .inl (fun _ => 0))), ((as2.getD 18 0), .inr (1, [.ref (as2.getD 19 0), .int 0, .int 0, .int 0, .int 0, .int 0])), ((as2.getD 19 0), .inl (zac E 0, 15, .inl (fun _ => 0))), ((as2.getD 20 0), .inr (1, [.ref (as2.getD 21 0), .int 0, .int 0, .int 0, .int 0, .int 0])), ((as2.getD 21 0), .inl (zac E 0, 15, .inl (fun _ => 0))), ((as2.getD 22 0), .inr (1, [.ref (as2.getD 23 0), .int 0, .int 0, .int 0, .int 0, .int 0])), ((as2.getD 23 0), .inl (zac E 0, 15, .inl (fun _ => 0))), ((as2.getD 24 0), .inr (1, [.ref (as2.getD 25 0), .int 0, .int 0, .int 0, .int 0, .int 0])), ((as2.getD 25 0), .inl (zac E 0, 15, .inl (fun _ => 0))), (q3, .inr (4, [.ref (as4.getD 0 0), .int 0])), ((as4.getD 0 0), .inl (zac E 0, 120, .inl (fun _ => 0))), (q5, .inl (zac E 0, 8, .inl (fun _ => 0)))]) C K_X6 0 5 hin rfl rfl (by decide) lb_f_X6_25 rfl rfl rfl rfl (Nat.le_of_ble_eq_true rfl) rfl dX6_init_31 ?_
  refine b_aload_n (pc := 34) C dX6_init_34 rfl ?_
  refine b_iconst (pc := 35) (v := 3) C dX6_init_35 (by decide) ?_
  refine b_newa (pc := 36) (atype := .int) (tf := .int) (N' := 3) (t0 := 0) (a0 := (3, .inl (fun _ => 0))) (cx2 := 31) (sx2 := 502) C lb_ac_int rfl rfl (fun _ => rfl) (by decide) (by decide) (by decide) (by decide) (by decide) rfl rfl dX6_init_36 (fun q6 => ?_)
  refine b_ws (ws' := [(h0, .inr (6, [.null, .null, .null, .ref q1, .ref q3, .ref q5, .null, .int 0, .int 0, .int 0, .int 0, .int 0, .int 0, .int 0, .int 0, .int 0, .int 0])), (q1, .inr (2, [.ref (as2.getD 0 0), .ref (as2.getD 1 0), .int 0, .int 0, .int 0])), ((as2.getD 0 0), .inl (zac E 2, 12, .inr (.inr (.inr (.inr (va_up (va_up (va_up (va_up (va_up (va_up (va_up (va_up (va_up (va_up (va_up (va_up (fun _ => none) 0 (some (as2.getD 2 0))) 1 (some (as2.getD 4 0))) 2 (some (as2.getD 6 0))) 3 (some (as2.getD 8 0))) 4 (some (as2.getD 10 0))) 5 (some (as2.getD 12 0))) 6 (some (as2.getD 14 0))) 7 (some (as2.getD 16 0))) 8 (some (as2.getD 18 0))) 9 (some (as2.getD 20 0))) 10 (some (as2.getD 22 0))) 11 (some (as2.getD 24 0)))))))), ((as2.getD 1 0), .inl (zac E 0, 100, .inl (fun _ => 0))), ((as2.getD 2 0), .inr (1, [.ref (as2.getD 3 0), .int 0, .int 0, .int 0, .int 0, .int 0])), ((as2.getD 3 0), .inl (zac E 0, 15, .inl (fun _ => 0))), ((as2.getD 4 0), .inr (1, [.ref (as2.getD 5 0), .int 0, .int 0, .int 0, .int 0, .int 0])), ((as2.getD 5 0), .inl (zac E 0, 15, .inl (fun _ => 0))), ((as2.getD 6 0), .inr (1, [.ref (as2.getD 7 0), .int 0, .int 0, .int 0, .int 0, .int 0])), ((as2.getD 7 0), .inl (zac E 0, 15, .inl (fun _ => 0))), ((as2.getD 8 0), .inr (1, [.ref (as2.getD 9 0), .int 0, .int 0, .int 0, .int 0, .int 0])), ((as2.getD 9 0), .inl (zac E 0, 15, .inl (fun _ => 0))), ((as2.getD 10 0), .inr (1, [.ref (as2.getD 11 0), .int 0, .int 0, .int 0, .int 0, .int 0])), ((as2.getD 11 0), .inl (zac E 0, 15, .inl (fun _ => 0))), ((as2.getD 12 0), .inr (1, [.ref (as2.getD 13 0), .int 0, .int 0, .int 0, .int 0, .int 0])), ((as2.getD 13 0), .inl (zac E 0, 15, .inl (fun _ => 0))), ((as2.getD 14 0), .inr (1, [.ref (as2.getD 15 0), .int 0, .int 0, .int 0, .int 0, .int 0])), ((as2.getD 15 0), .inl (zac E 0, 15, .inl (fun _ => 0))), ((as2.getD 16 0), .inr (1, [.ref (as2.getD 17 0), .int 0, .int 0, .int 0, .int 0, .int 0])), ((as2.getD 17 0), .inl (zac E 0, 15, .inl (fun _ => 0))), ((as2.getD 18 0), .inr (1, [.ref (as2.getD 19 0), .int 0, .int 0, .int 0, .int 0, .int 0])), ((as2.getD 19 0), .inl (zac E 0, 15, .inl (fun _ => 0))), ((as2.getD 20 0), .inr (1, [.ref (as2.getD 21 0), .int 0, .int 0, .int 0, .int 0, .int 0])), ((as2.getD 21 0), .inl (zac E 0, 15, .inl (fun _ => 0))), ((as2.getD 22 0), .inr (1, [.ref (as2.getD 23 0), .int 0, .int 0, .int 0, .int 0, .int 0])), ((as2.getD 23 0), .inl (zac E 0, 15, .inl (fun _ => 0))), ((as2.getD 24 0), .inr (1, [.ref (as2.getD 25 0), .int 0, .int 0, .int 0, .int 0, .int 0])), ((as2.getD 25 0), .inl (zac E 0, 15, .inl (fun _ => 0))), (q3, .inr (4, [.ref (as4.getD 0 0), .int 0])), ((as4.getD 0 0), .inl (zac E 0, 120, .inl (fun _ => 0))), (q5, .inl (zac E 0, 8, .inl (fun _ => 0))), (q6, .inl (zac E 0, 3, .inl (fun _ => 0)))]) rfl ?_
  refine b_putF (pc := 38) (ws' := [(h0, .inr (6, [.null, .null, .null, .ref q1, .ref q3, .ref q5, .ref q6, .int 0, .int 0, .int 0, .int 0, .int 0, .int 0, .int 0, .int 0, .int 0, .int 0])), (q1, .inr (2, [.ref (as2.getD 0 0), .ref (as2.getD 1 0), .int 0, .int 0, .int 0])), ((as2.getD 0 0), .inl (zac E 2, 12, .inr (.inr (.inr (.inr (va_up (va_up (va_up (va_up (va_up (va_up (va_up (va_up (va_up (va_up (va_up (va_up (fun _ => none) 0 (some (as2.getD 2 0))) 1 (some (as2.getD 4 0))) 2 (some (as2.getD 6 0))) 3 (some (as2.getD 8 0))) 4 (some (as2.getD 10 0))) 5 (some (as2.getD 12 0))) 6 (some (as2.getD 14 0))) 7 (some (as2.getD 16 0))) 8 (some (as2.getD 18 0))) 9 (some (as2.getD 20 0))) 10 (some (as2.getD 22 0))) 11 (some (as2.getD 24 0)))))))), ((as2.getD 1 0), .inl (zac E 0, 100, .inl (fun _ => 0))), ((as2.getD 2 0), .inr (1, [.ref (as2.getD 3 0), .int 0, .int 0, .int 0, .int 0, .int 0])), ((as2.getD 3 0), .inl (zac E 0, 15, .inl (fun _ => 0))), ((as2.getD 4 0), .inr (1, [.ref (as2.getD 5 0), .int 0, .int 0, .int 0, .int 0, .int 0])), ((as2.getD 5 0), .inl (zac E 0, 15, .inl (fun _ => 0))), ((as2.getD 6 0), .inr (1, [.ref (as2.getD 7 0), .int 0, .int 0, .int 0, .int 0, .int 0])), ((as2.getD 7 0), .inl (zac E 0, 15, .inl (fun _ => 0))), ((as2.getD 8 0), .inr (1, [.ref (as2.getD 9 0), .int 0, .int 0, .int 0, .int 0, .int 0])), ((as2.getD 9 0), .inl (zac E 0, 15, .inl (fun _ => 0))), ((as2.getD 10 0), .inr (1, [.ref (as2.getD 11 0), .int 0, .int 0, .int 0, .int 0, .int 0])), ((as2.getD 11 0), .inl (zac E 0, 15, .inl (fun _ => 0))), ((as2.getD 12 0), .inr (1, [.ref (as2.getD 13 0), .int 0, .int 0, .int 0, .int 0, .int 0])), ((as2.getD 13 0), .inl (zac E 0, 15, .inl (fun _ => 0))), ((as2.getD 14 0), .inr (1, [.ref (as2.getD 15 0), .int 0, .int 0, .int 0, .int 0, .int 0])), ((as2.getD 15 0), .inl (zac E 0, 15, .inl (fun _ => 0))), ((as2.getD 16 0), .inr (1, [.ref (as2.getD 17 0), .int 0, .int 0, .int 0, .int 0, .int 0])), ((as2.getD 17 0), .inl (zac E 0, 15, .inl (fun _ => 0))), ((as2.getD 18 0), .inr (1, [.ref (as2.getD 19 0), .int 0, .int 0, .int 0, .int 0, .int 0])), ((as2.getD 19 0), .inl (zac E 0, 15, .inl (fun _ => 0))), ((as2.getD 20 0), .inr (1, [.ref (as2.getD 21 0), .int 0, .int 0, .int 0, .int 0, .int 0])), ((as2.getD 21 0), .inl (zac E 0, 15, .inl (fun _ => 0))), ((as2.getD 22 0), .inr (1, [.ref (as2.getD 23 0), .int 0, .int 0, .int 0, .int 0, .int 0])), ((as2.getD 23 0), .inl (zac E 0, 15, .inl (fun _ => 0))), ((as2.getD 24 0), .inr (1, [.ref (as2.getD 25 0), .int 0, .int 0, .int 0, .int 0, .int 0])), ((as2.getD 25 0), .inl (zac E 0, 15, .inl (fun _ => 0))), (q3, .inr (4, [.ref (as4.getD 0 0), .int 0])), ((as4.getD 0 0), .inl (zac E 0, 120, .inl (fun _ => 0))), (q5, .inl (zac E 0, 8, .inl (fun _ => 0))), (q6, .inl (zac E 0, 3, .inl (fun _ => 0)))]) C K_X6 0 6 hin rfl rfl (by decide) lb_f_X6_29 rfl rfl rfl rfl (Nat.le_of_ble_eq_true rfl) rfl dX6_init_38 ?_
  refine b_aload_n (pc := 41) C dX6_init_41 rfl ?_
  refine b_sipush (pc := 42) (v := 130) C dX6_init_42 (by decide) ?_
  refine b_put (pc := 45) (ws' := [(h0, .inr (6, [.null, .null, .null, .ref q1, .ref q3, .ref q5, .ref q6, .int 0, .int 130, .int 0, .int 0, .int 0, .int 0, .int 0, .int 0, .int 0, .int 0])), (q1, .inr (2, [.ref (as2.getD 0 0), .ref (as2.getD 1 0), .int 0, .int 0, .int 0])), ((as2.getD 0 0), .inl (zac E 2, 12, .inr (.inr (.inr (.inr (va_up (va_up (va_up (va_up (va_up (va_up (va_up (va_up (va_up (va_up (va_up (va_up (fun _ => none) 0 (some (as2.getD 2 0))) 1 (some (as2.getD 4 0))) 2 (some (as2.getD 6 0))) 3 (some (as2.getD 8 0))) 4 (some (as2.getD 10 0))) 5 (some (as2.getD 12 0))) 6 (some (as2.getD 14 0))) 7 (some (as2.getD 16 0))) 8 (some (as2.getD 18 0))) 9 (some (as2.getD 20 0))) 10 (some (as2.getD 22 0))) 11 (some (as2.getD 24 0)))))))), ((as2.getD 1 0), .inl (zac E 0, 100, .inl (fun _ => 0))), ((as2.getD 2 0), .inr (1, [.ref (as2.getD 3 0), .int 0, .int 0, .int 0, .int 0, .int 0])), ((as2.getD 3 0), .inl (zac E 0, 15, .inl (fun _ => 0))), ((as2.getD 4 0), .inr (1, [.ref (as2.getD 5 0), .int 0, .int 0, .int 0, .int 0, .int 0])), ((as2.getD 5 0), .inl (zac E 0, 15, .inl (fun _ => 0))), ((as2.getD 6 0), .inr (1, [.ref (as2.getD 7 0), .int 0, .int 0, .int 0, .int 0, .int 0])), ((as2.getD 7 0), .inl (zac E 0, 15, .inl (fun _ => 0))), ((as2.getD 8 0), .inr (1, [.ref (as2.getD 9 0), .int 0, .int 0, .int 0, .int 0, .int 0])), ((as2.getD 9 0), .inl (zac E 0, 15, .inl (fun _ => 0))), ((as2.getD 10 0), .inr (1, [.ref (as2.getD 11 0), .int 0, .int 0, .int 0, .int 0, .int 0])), ((as2.getD 11 0), .inl (zac E 0, 15, .inl (fun _ => 0))), ((as2.getD 12 0), .inr (1, [.ref (as2.getD 13 0), .int 0, .int 0, .int 0, .int 0, .int 0])), ((as2.getD 13 0), .inl (zac E 0, 15, .inl (fun _ => 0))), ((as2.getD 14 0), .inr (1, [.ref (as2.getD 15 0), .int 0, .int 0, .int 0, .int 0, .int 0])), ((as2.getD 15 0), .inl (zac E 0, 15, .inl (fun _ => 0))), ((as2.getD 16 0), .inr (1, [.ref (as2.getD 17 0), .int 0, .int 0, .int 0, .int 0, .int 0])), ((as2.getD 17 0), .inl (zac E 0, 15, .inl (fun _ => 0))), ((as2.getD 18 0), .inr (1, [.ref (as2.getD 19 0), .int 0, .int 0, .int 0, .int 0, .int 0])), ((as2.getD 19 0), .inl (zac E 0, 15, .inl (fun _ => 0))), ((as2.getD 20 0), .inr (1, [.ref (as2.getD 21 0), .int 0, .int 0, .int 0, .int 0, .int 0])), ((as2.getD 21 0), .inl (zac E 0, 15, .inl (fun _ => 0))), ((as2.getD 22 0), .inr (1, [.ref (as2.getD 23 0), .int 0, .int 0, .int 0, .int 0, .int 0])), ((as2.getD 23 0), .inl (zac E 0, 15, .inl (fun _ => 0))), ((as2.getD 24 0), .inr (1, [.ref (as2.getD 25 0), .int 0, .int 0, .int 0, .int 0, .int 0])), ((as2.getD 25 0), .inl (zac E 0, 15, .inl (fun _ => 0))), (q3, .inr (4, [.ref (as4.getD 0 0), .int 0])), ((as4.getD 0 0), .inl (zac E 0, 120, .inl (fun _ => 0))), (q5, .inl (zac E 0, 8, .inl (fun _ => 0))), (q6, .inl (zac E 0, 3, .inl (fun _ => 0)))]) C K_X6 0 8 rfl (by decide) lb_f_X6_32 rfl rfl rfl rfl (Nat.le_of_ble_eq_true rfl) rfl dX6_init_45 ?_
  refine b_aload_n (pc := 48) C dX6_init_48 rfl ?_
  refine b_aload_n (pc := 49) C dX6_init_49 rfl ?_
  refine b_putF (pc := 50) (ws' := [(h0, .inr (6, [.ref a0, .null, .null, .ref q1, .ref q3, .ref q5, .ref q6, .int 0, .int 130, .int 0, .int 0, .int 0, .int 0, .int 0, .int 0, .int 0, .int 0])), (q1, .inr (2, [.ref (as2.getD 0 0), .ref (as2.getD 1 0), .int 0, .int 0, .int 0])), ((as2.getD 0 0), .inl (zac E 2, 12, .inr (.inr (.inr (.inr (va_up (va_up (va_up (va_up (va_up (va_up (va_up (va_up (va_up (va_up (va_up (va_up (fun _ => none) 0 (some (as2.getD 2 0))) 1 (some (as2.getD 4 0))) 2 (some (as2.getD 6 0))) 3 (some (as2.getD 8 0))) 4 (some (as2.getD 10 0))) 5 (some (as2.getD 12 0))) 6 (some (as2.getD 14 0))) 7 (some (as2.getD 16 0))) 8 (some (as2.getD 18 0))) 9 (some (as2.getD 20 0))) 10 (some (as2.getD 22 0))) 11 (some (as2.getD 24 0)))))))), ((as2.getD 1 0), .inl (zac E 0, 100, .inl (fun _ => 0))), ((as2.getD 2 0), .inr (1, [.ref (as2.getD 3 0), .int 0, .int 0, .int 0, .int 0, .int 0])), ((as2.getD 3 0), .inl (zac E 0, 15, .inl (fun _ => 0))), ((as2.getD 4 0), .inr (1, [.ref (as2.getD 5 0), .int 0, .int 0, .int 0, .int 0, .int 0])), ((as2.getD 5 0), .inl (zac E 0, 15, .inl (fun _ => 0))), ((as2.getD 6 0), .inr (1, [.ref (as2.getD 7 0), .int 0, .int 0, .int 0, .int 0, .int 0])), ((as2.getD 7 0), .inl (zac E 0, 15, .inl (fun _ => 0))), ((as2.getD 8 0), .inr (1, [.ref (as2.getD 9 0), .int 0, .int 0, .int 0, .int 0, .int 0])), ((as2.getD 9 0), .inl (zac E 0, 15, .inl (fun _ => 0))), ((as2.getD 10 0), .inr (1, [.ref (as2.getD 11 0), .int 0, .int 0, .int 0, .int 0, .int 0])), ((as2.getD 11 0), .inl (zac E 0, 15, .inl (fun _ => 0))), ((as2.getD 12 0), .inr (1, [.ref (as2.getD 13 0), .int 0, .int 0, .int 0, .int 0, .int 0])), ((as2.getD 13 0), .inl (zac E 0, 15, .inl (fun _ => 0))), ((as2.getD 14 0), .inr (1, [.ref (as2.getD 15 0), .int 0, .int 0, .int 0, .int 0, .int 0])), ((as2.getD 15 0), .inl (zac E 0, 15, .inl (fun _ => 0))), ((as2.getD 16 0), .inr (1, [.ref (as2.getD 17 0), .int 0, .int 0, .int 0, .int 0, .int 0])), ((as2.getD 17 0), .inl (zac E 0, 15, .inl (fun _ => 0))), ((as2.getD 18 0), .inr (1, [.ref (as2.getD 19 0), .int 0, .int 0, .int 0, .int 0, .int 0])), ((as2.getD 19 0), .inl (zac E 0, 15, .inl (fun _ => 0))), ((as2.getD 20 0), .inr (1, [.ref (as2.getD 21 0), .int 0, .int 0, .int 0, .int 0, .int 0])), ((as2.getD 21 0), .inl (zac E 0, 15, .inl (fun _ => 0))), ((as2.getD 22 0), .inr (1, [.ref (as2.getD 23 0), .int 0, .int 0, .int 0, .int 0, .int 0])), ((as2.getD 23 0), .inl (zac E 0, 15, .inl (fun _ => 0))), ((as2.getD 24 0), .inr (1, [.ref (as2.getD 25 0), .int 0, .int 0, .int 0, .int 0, .int 0])), ((as2.getD 25 0), .inl (zac E 0, 15, .inl (fun _ => 0))), (q3, .inr (4, [.ref (as4.getD 0 0), .int 0])), ((as4.getD 0 0), .inl (zac E 0, 120, .inl (fun _ => 0))), (q5, .inl (zac E 0, 8, .inl (fun _ => 0))), (q6, .inl (zac E 0, 3, .inl (fun _ => 0)))]) C K_X6 0 0 hin rfl rfl (by decide) lb_f_X6_36 rfl rfl rfl rfl (Nat.le_of_ble_eq_true rfl) rfl dX6_init_50 ?_
  refine b_aload_n (pc := 53) C dX6_init_53 rfl ?_
  refine b_aload_n (pc := 54) C dX6_init_54 rfl ?_
  refine b_putF (pc := 55) (ws' := [(h0, .inr (6, [.ref a0, .ref a1, .null, .ref q1, .ref q3, .ref q5, .ref q6, .int 0, .int 130, .int 0, .int 0, .int 0, .int 0, .int 0, .int 0, .int 0, .int 0])), (q1, .inr (2, [.ref (as2.getD 0 0), .ref (as2.getD 1 0), .int 0, .int 0, .int 0])), ((as2.getD 0 0), .inl (zac E 2, 12, .inr (.inr (.inr (.inr (va_up (va_up (va_up (va_up (va_up (va_up (va_up (va_up (va_up (va_up (va_up (va_up (fun _ => none) 0 (some (as2.getD 2 0))) 1 (some (as2.getD 4 0))) 2 (some (as2.getD 6 0))) 3 (some (as2.getD 8 0))) 4 (some (as2.getD 10 0))) 5 (some (as2.getD 12 0))) 6 (some (as2.getD 14 0))) 7 (some (as2.getD 16 0))) 8 (some (as2.getD 18 0))) 9 (some (as2.getD 20 0))) 10 (some (as2.getD 22 0))) 11 (some (as2.getD 24 0)))))))), ((as2.getD 1 0), .inl (zac E 0, 100, .inl (fun _ => 0))), ((as2.getD 2 0), .inr (1, [.ref (as2.getD 3 0), .int 0, .int 0, .int 0, .int 0, .int 0])), ((as2.getD 3 0), .inl (zac E 0, 15, .inl (fun _ => 0))), ((as2.getD 4 0), .inr (1, [.ref (as2.getD 5 0), .int 0, .int 0, .int 0, .int 0, .int 0])), ((as2.getD 5 0), .inl (zac E 0, 15, .inl (fun _ => 0))), ((as2.getD 6 0), .inr (1, [.ref (as2.getD 7 0), .int 0, .int 0, .int 0, .int 0, .int 0])), ((as2.getD 7 0), .inl (zac E 0, 15, .inl (fun _ => 0))), ((as2.getD 8 0), .inr (1, [.ref (as2.getD 9 0), .int 0, .int 0, .int 0, .int 0, .int 0])), ((as2.getD 9 0), .inl (zac E 0, 15, .inl (fun _ => 0))), ((as2.getD 10 0), .inr (1, [.ref (as2.getD 11 0), .int 0, .int 0, .int 0, .int 0, .int 0])), ((as2.getD 11 0), .inl (zac E 0, 15, .inl (fun _ => 0))), ((as2.getD 12 0), .inr (1, [.ref (as2.getD 13 0), .int 0, .int 0, .int 0, .int 0, .int 0])), ((as2.getD 13 0), .inl (zac E 0, 15, .inl (fun _ => 0))), ((as2.getD 14 0), .inr (1, [.ref (as2.getD 15 0), .int 0, .int 0, .int 0, .int 0, .int 0])), ((as2.getD 15 0), .inl (zac E 0, 15, .inl (fun _ => 0))), ((as2.getD 16 0), .inr (1, [.ref (as2.getD 17 0), .int 0, .int 0, .int 0, .int 0, .int 0])), ((as2.getD 17 0), .inl (zac E 0, 15, .inl (fun _ => 0))), ((as2.getD 18 0), .inr (1, [.ref (as2.getD 19 0), .int 0, .int 0, .int 0, .int 0, .int 0])), ((as2.getD 19 0), .inl (zac E 0, 15, .inl (fun _ => 0))), ((as2.getD 20 0), .inr (1, [.ref (as2.getD 21 0), .int 0, .int 0, .int 0, .int 0, .int 0])), ((as2.getD 21 0), .inl (zac E 0, 15, .inl (fun _ => 0))), ((as2.getD 22 0), .inr (1, [.ref (as2.getD 23 0), .int 0, .int 0, .int 0, .int 0, .int 0])), ((as2.getD 23 0), .inl (zac E 0, 15, .inl (fun _ => 0))), ((as2.getD 24 0), .inr (1, [.ref (as2.getD 25 0), .int 0, .int 0, .int 0, .int 0, .int 0])), ((as2.getD 25 0), .inl (zac E 0, 15, .inl (fun _ => 0))), (q3, .inr (4, [.ref (as4.getD 0 0), .int 0])), ((as4.getD 0 0), .inl (zac E 0, 120, .inl (fun _ => 0))), (q5, .inl (zac E 0, 8, .inl (fun _ => 0))), (q6, .inl (zac E 0, 3, .inl (fun _ => 0)))]) C K_X6 0 1 hin rfl rfl (by decide) lb_f_X6_40 rfl rfl rfl rfl (Nat.le_of_ble_eq_true rfl) rfl dX6_init_55 ?_
  refine b_aload_n (pc := 58) C dX6_init_58 rfl ?_
  refine b_aload_n (pc := 59) C dX6_init_59 rfl ?_
  refine b_putF (pc := 60) (ws' := [(h0, .inr (6, [.ref a0, .ref a1, .ref a2, .ref q1, .ref q3, .ref q5, .ref q6, .int 0, .int 130, .int 0, .int 0, .int 0, .int 0, .int 0, .int 0, .int 0, .int 0])), (q1, .inr (2, [.ref (as2.getD 0 0), .ref (as2.getD 1 0), .int 0, .int 0, .int 0])), ((as2.getD 0 0), .inl (zac E 2, 12, .inr (.inr (.inr (.inr (va_up (va_up (va_up (va_up (va_up (va_up (va_up (va_up (va_up (va_up (va_up (va_up (fun _ => none) 0 (some (as2.getD 2 0))) 1 (some (as2.getD 4 0))) 2 (some (as2.getD 6 0))) 3 (some (as2.getD 8 0))) 4 (some (as2.getD 10 0))) 5 (some (as2.getD 12 0))) 6 (some (as2.getD 14 0))) 7 (some (as2.getD 16 0))) 8 (some (as2.getD 18 0))) 9 (some (as2.getD 20 0))) 10 (some (as2.getD 22 0))) 11 (some (as2.getD 24 0)))))))), ((as2.getD 1 0), .inl (zac E 0, 100, .inl (fun _ => 0))), ((as2.getD 2 0), .inr (1, [.ref (as2.getD 3 0), .int 0, .int 0, .int 0, .int 0, .int 0])), ((as2.getD 3 0), .inl (zac E 0, 15, .inl (fun _ => 0))), ((as2.getD 4 0), .inr (1, [.ref (as2.getD 5 0), .int 0, .int 0, .int 0, .int 0, .int 0])), ((as2.getD 5 0), .inl (zac E 0, 15, .inl (fun _ => 0))), ((as2.getD 6 0), .inr (1, [.ref (as2.getD 7 0), .int 0, .int 0, .int 0, .int 0, .int 0])), ((as2.getD 7 0), .inl (zac E 0, 15, .inl (fun _ => 0))), ((as2.getD 8 0), .inr (1, [.ref (as2.getD 9 0), .int 0, .int 0, .int 0, .int 0, .int 0])), ((as2.getD 9 0), .inl (zac E 0, 15, .inl (fun _ => 0))), ((as2.getD 10 0), .inr (1, [.ref (as2.getD 11 0), .int 0, .int 0, .int 0, .int 0, .int 0])), ((as2.getD 11 0), .inl (zac E 0, 15, .inl (fun _ => 0))), ((as2.getD 12 0), .inr (1, [.ref (as2.getD 13 0), .int 0, .int 0, .int 0, .int 0, .int 0])), ((as2.getD 13 0), .inl (zac E 0, 15, .inl (fun _ => 0))), ((as2.getD 14 0), .inr (1, [.ref (as2.getD 15 0), .int 0, .int 0, .int 0, .int 0, .int 0])), ((as2.getD 15 0), .inl (zac E 0, 15, .inl (fun _ => 0))), ((as2.getD 16 0), .inr (1, [.ref (as2.getD 17 0), .int 0, .int 0, .int 0, .int 0, .int 0])), ((as2.getD 17 0), .inl (zac E 0, 15, .inl (fun _ => 0))), ((as2.getD 18 0), .inr (1, [.ref (as2.getD 19 0), .int 0, .int 0, .int 0, .int 0, .int 0])), ((as2.getD 19 0), .inl (zac E 0, 15, .inl (fun _ => 0))), ((as2.getD 20 0), .inr (1, [.ref (as2.getD 21 0), .int 0, .int 0, .int 0, .int 0, .int 0])), ((as2.getD 21 0), .inl (zac E 0, 15, .inl (fun _ => 0))), ((as2.getD 22 0), .inr (1, [.ref (as2.getD 23 0), .int 0, .int 0, .int 0, .int 0, .int 0])), ((as2.getD 23 0), .inl (zac E 0, 15, .inl (fun _ => 0))), ((as2.getD 24 0), .inr (1, [.ref (as2.getD 25 0), .int 0, .int 0, .int 0, .int 0, .int 0])), ((as2.getD 25 0), .inl (zac E 0, 15, .inl (fun _ => 0))), (q3, .inr (4, [.ref (as4.getD 0 0), .int 0])), ((as4.getD 0 0), .inl (zac E 0, 120, .inl (fun _ => 0))), (q5, .inl (zac E 0, 8, .inl (fun _ => 0))), (q6, .inl (zac E 0, 3, .inl (fun _ => 0)))]) C K_X6 0 2 hin rfl rfl (by decide) lb_f_X6_44 rfl rfl rfl rfl (Nat.le_of_ble_eq_true rfl) rfl dX6_init_60 ?_
  exact fin 63 _ _ [q1, (as2.getD 0 0), (as2.getD 1 0), (as2.getD 2 0), (as2.getD 3 0), (as2.getD 4 0), (as2.getD 5 0), (as2.getD 6 0), (as2.getD 7 0), (as2.getD 8 0), (as2.getD 9 0), (as2.getD 10 0), (as2.getD 11 0), (as2.getD 12 0), (as2.getD 13 0), (as2.getD 14 0), (as2.getD 15 0), (as2.getD 16 0), (as2.getD 17 0), (as2.getD 18 0), (as2.getD 19 0), (as2.getD 20 0), (as2.getD 21 0), (as2.getD 22 0), (as2.getD 23 0), (as2.getD 24 0), (as2.getD 25 0), q3, (as4.getD 0 0), q5, q6] [0, 1, 2, 3, 4, 5, 6, 7, 8, 9, 10, 11, 12, 13, 14, 15, 16, 17, 18, 19, 20, 21, 22, 23, 24, 25, 26, 27, 28, 29, 30, 31] dX6_init_63 rfl (by decide) rfl
def rmI_X7_init : Room := { frames := 4, cells := 44, slots := 3119, locals := 84 }
def wI_X7_init (E : zG) (h0 : Nat) (as : List Nat) : va_W := [(h0, .inr (7, [.ref (as.getD 0 0), .ref (as.getD 2 0), .ref (as.getD 4 0), .ref (as.getD 12 0)])), ((as.getD 0 0), .inr (3, [.ref (as.getD 1 0), .int 0, .int 0])), ((as.getD 1 0), .inl (zac E 0, 2000, .inl (fun _ => 0))), ((as.getD 2 0), .inr (0, [.ref (as.getD 3 0), .int 0, .int 0, .int 0, .int 1, .int 0, .int 0])), ((as.getD 3 0), .inl (zac E 0, 50, .inl (fun _ => 0))), ((as.getD 4 0), .inr (5, [.ref (as.getD 5 0), .ref (as.getD 6 0), .ref (as.getD 7 0), .int 0, .ref (as.getD 8 0), .ref (as.getD 9 0), .ref (as.getD 10 0), .ref (as.getD 11 0)])), ((as.getD 5 0), .inl (zac E 0, 100, .inl (fun _ => 0))), ((as.getD 6 0), .inl (zac E 0, 300, .inl (fun _ => 0))), ((as.getD 7 0), .inl (zac E 0, 100, .inl (fun _ => 0))), ((as.getD 8 0), .inl (zac E 1, 8, .inl (fun _ => 0))), ((as.getD 9 0), .inl (zac E 0, 8, .inl (fun _ => 0))), ((as.getD 10 0), .inl (zac E 0, 8, .inl (fun _ => 0))), ((as.getD 11 0), .inl (zac E 1, 8, .inl (fun _ => 0))), ((as.getD 12 0), .inr (6, [.ref (as.getD 0 0), .ref (as.getD 2 0), .ref (as.getD 4 0), .ref (as.getD 13 0), .ref (as.getD 40 0), .ref (as.getD 42 0), .ref (as.getD 43 0), .int 0, .int 130, .int 0, .int 0, .int 0, .int 0, .int 0, .int 0, .int 0, .int 0])), ((as.getD 13 0), .inr (2, [.ref (as.getD 14 0), .ref (as.getD 15 0), .int 0, .int 0, .int 0])), ((as.getD 14 0), .inl (zac E 2, 12, .inr (.inr (.inr (.inr (va_up (va_up (va_up (va_up (va_up (va_up (va_up (va_up (va_up (va_up (va_up (va_up (fun _ => none) 0 (some (as.getD 16 0))) 1 (some (as.getD 18 0))) 2 (some (as.getD 20 0))) 3 (some (as.getD 22 0))) 4 (some (as.getD 24 0))) 5 (some (as.getD 26 0))) 6 (some (as.getD 28 0))) 7 (some (as.getD 30 0))) 8 (some (as.getD 32 0))) 9 (some (as.getD 34 0))) 10 (some (as.getD 36 0))) 11 (some (as.getD 38 0)))))))), ((as.getD 15 0), .inl (zac E 0, 100, .inl (fun _ => 0))), ((as.getD 16 0), .inr (1, [.ref (as.getD 17 0), .int 0, .int 0, .int 0, .int 0, .int 0])), ((as.getD 17 0), .inl (zac E 0, 15, .inl (fun _ => 0))), ((as.getD 18 0), .inr (1, [.ref (as.getD 19 0), .int 0, .int 0, .int 0, .int 0, .int 0])), ((as.getD 19 0), .inl (zac E 0, 15, .inl (fun _ => 0))), ((as.getD 20 0), .inr (1, [.ref (as.getD 21 0), .int 0, .int 0, .int 0, .int 0, .int 0])), ((as.getD 21 0), .inl (zac E 0, 15, .inl (fun _ => 0))), ((as.getD 22 0), .inr (1, [.ref (as.getD 23 0), .int 0, .int 0, .int 0, .int 0, .int 0])), ((as.getD 23 0), .inl (zac E 0, 15, .inl (fun _ => 0))), ((as.getD 24 0), .inr (1, [.ref (as.getD 25 0), .int 0, .int 0, .int 0, .int 0, .int 0])), ((as.getD 25 0), .inl (zac E 0, 15, .inl (fun _ => 0))), ((as.getD 26 0), .inr (1, [.ref (as.getD 27 0), .int 0, .int 0, .int 0, .int 0, .int 0])), ((as.getD 27 0), .inl (zac E 0, 15, .inl (fun _ => 0))), ((as.getD 28 0), .inr (1, [.ref (as.getD 29 0), .int 0, .int 0, .int 0, .int 0, .int 0])), ((as.getD 29 0), .inl (zac E 0, 15, .inl (fun _ => 0))), ((as.getD 30 0), .inr (1, [.ref (as.getD 31 0), .int 0, .int 0, .int 0, .int 0, .int 0])), ((as.getD 31 0), .inl (zac E 0, 15, .inl (fun _ => 0))), ((as.getD 32 0), .inr (1, [.ref (as.getD 33 0), .int 0, .int 0, .int 0, .int 0, .int 0])), ((as.getD 33 0), .inl (zac E 0, 15, .inl (fun _ => 0))), ((as.getD 34 0), .inr (1, [.ref (as.getD 35 0), .int 0, .int 0, .int 0, .int 0, .int 0])), ((as.getD 35 0), .inl (zac E 0, 15, .inl (fun _ => 0))), ((as.getD 36 0), .inr (1, [.ref (as.getD 37 0), .int 0, .int 0, .int 0, .int 0, .int 0])), ((as.getD 37 0), .inl (zac E 0, 15, .inl (fun _ => 0))), ((as.getD 38 0), .inr (1, [.ref (as.getD 39 0), .int 0, .int 0, .int 0, .int 0, .int 0])), ((as.getD 39 0), .inl (zac E 0, 15, .inl (fun _ => 0))), ((as.getD 40 0), .inr (4, [.ref (as.getD 41 0), .int 0])), ((as.getD 41 0), .inl (zac E 0, 120, .inl (fun _ => 0))), ((as.getD 42 0), .inl (zac E 0, 8, .inl (fun _ => 0))), ((as.getD 43 0), .inl (zac E 0, 3, .inl (fun _ => 0)))]
set_option maxHeartbeats 8000000 in
set_option maxRecDepth 100000 in
theorem i_X7_init {E : zG} (h0 : Nat) : zI E yX7_init cX7_init 1 rmI_X7_init [.ref h0] [(h0, .inr (7, [.null, .null, .null, .null]))] 44 (wI_X7_init E h0) 44 3119 := by
  refine zI_of (nn := 0) (by decide) rfl (Nat.le_of_ble_eq_true rfl) rfl rfl (fun Γ A C hin fin => ?_)
  refine b_aload_n (pc := 0) C dX7_init_0 rfl ?_
  refine b_obj (pc := 1) C dX7_init_1 lb_m_X7_3 lb_oi lb_oc (by decide) (Nat.le_of_ble_eq_true rfl) ?_
  refine b_aload_n (pc := 4) C dX7_init_4 rfl ?_
  refine b_new (pc := 5) (fs := [.null, .int 0, .int 0]) (cx2 := 1) (sx2 := 3) C K_X3 lb_c_X7_9 lb_n_X3 lb_i_X3 (fun j hj => by rcases (show j = 0 ∨ j = 1 ∨ j = 2 by omega) with rfl | rfl | rfl <;> rfl) (by decide) (by decide) rfl rfl dX7_init_5 (fun q1 => ?_)
  refine b_ws (ws' := [(h0, .inr (7, [.null, .null, .null, .null])), (q1, .inr (3, [.null, .int 0, .int 0]))]) rfl ?_
  refine b_dup (pc := 8) C dX7_init_8 rfl ?_
  refine b_callIN (pc := 9) (n := 0) (wr := [(h0, .inr (7, [.null, .null, .null, .null]))]) (cx2 := 2) (sx2 := 2003) C (i_X3_init _) lb_cc_X3_init lb_i_X3 lk_mn_X7_11 lb_im_X3_init rfl (by decide +kernel) rfl ⟨rfl, rfl⟩ (by decide) [1] [0] rfl rfl (by decide) (by decide) (by decide) (Nat.le_of_ble_eq_true rfl) (by decide) rfl rfl dX7_init_9 (fun as2 eas2 => ?_)
  refine b_ws (ws' := [(h0, .inr (7, [.null, .null, .null, .null])), (q1, .inr (3, [.ref (as2.getD 0 0), .int 0, .int 0])), ((as2.getD 0 0), .inl (zac E 0, 2000, .inl (fun _ => 0)))]) rfl ?_
  refine b_putF (pc := 12) (ws' := [(h0, .inr (7, [.ref q1, .null, .null, .null])), (q1, .inr (3, [.ref (as2.getD 0 0), .int 0, .int 0])), ((as2.getD 0 0), .inl (zac E 0, 2000, .inl (fun _ => 0)))]) C K_X7 0 0 hin rfl rfl (by decide) lb_f_X7_12 rfl rfl rfl rfl (Nat.le_of_ble_eq_true rfl) rfl dX7_init_12 ?_
  refine b_aload_n (pc := 15) C dX7_init_15 rfl ?_
  refine b_new (pc := 16) (fs := [.null, .int 0, .int 0, .int 0, .int 0, .int 0, .int 0]) (cx2 := 3) (sx2 := 2010) C K_X0 lb_c_X7_16 lb_n_X0 lb_i_X0 (fun j hj => by rcases (show j = 0 ∨ j = 1 ∨ j = 2 ∨ j = 3 ∨ j = 4 ∨ j = 5 ∨ j = 6 by omega) with rfl | rfl | rfl | rfl | rfl | rfl | rfl <;> rfl) (by decide) (by decide) rfl rfl dX7_init_16 (fun q3 => ?_)
  refine b_ws (ws' := [(h0, .inr (7, [.ref q1, .null, .null, .null])), (q1, .inr (3, [.ref (as2.getD 0 0), .int 0, .int 0])), ((as2.getD 0 0), .inl (zac E 0, 2000, .inl (fun _ => 0))), (q3, .inr (0, [.null, .int 0, .int 0, .int 0, .int 0, .int 0, .int 0]))]) rfl ?_
  refine b_dup (pc := 19) C dX7_init_19 rfl ?_
  refine b_callIN (pc := 20) (n := 0) (wr := [(h0, .inr (7, [.ref q1, .null, .null, .null])), (q1, .inr (3, [.ref (as2.getD 0 0), .int 0, .int 0])), ((as2.getD 0 0), .inl (zac E 0, 2000, .inl (fun _ => 0)))]) (cx2 := 4) (sx2 := 2060) C (i_X0_init _) lb_cc_X0_init lb_i_X0 lk_mn_X7_18 lb_im_X0_init rfl (by decide +kernel) rfl ⟨rfl, rfl⟩ (by decide) [3] [0, 1, 2] rfl rfl (by decide) (by decide) (by decide) (Nat.le_of_ble_eq_true rfl) (by decide) rfl rfl dX7_init_20 (fun as4 eas4 => ?_)
  refine b_ws (ws' := [(h0, .inr (7, [.ref q1, .null, .null, .null])), (q1, .inr (3, [.ref (as2.getD 0 0), .int 0, .int 0])), ((as2.getD 0 0), .inl (zac E 0, 2000, .inl (fun _ => 0))), (q3, .inr (0, [.ref (as4.getD 0 0), .int 0, .int 0, .int 0, .int 1, .int 0, .int 0])), ((as4.getD 0 0), .inl (zac E 0, 50, .inl (fun _ => 0)))]) rfl ?_
  refine b_putF (pc := 23) (ws' := [(h0, .inr (7, [.ref q1, .ref q3, .null, .null])), (q1, .inr (3, [.ref (as2.getD 0 0), .int 0, .int 0])), ((as2.getD 0 0), .inl (zac E 0, 2000, .inl (fun _ => 0))), (q3, .inr (0, [.ref (as4.getD 0 0), .int 0, .int 0, .int 0, .int 1, .int 0, .int 0])), ((as4.getD 0 0), .inl (zac E 0, 50, .inl (fun _ => 0)))]) C K_X7 0 1 hin rfl rfl (by decide) lb_f_X7_19 rfl rfl rfl rfl (Nat.le_of_ble_eq_true rfl) rfl dX7_init_23 ?_
  refine b_aload_n (pc := 26) C dX7_init_26 rfl ?_
  refine b_new (pc := 27) (fs := [.null, .null, .null, .int 0, .null, .null, .null, .null]) (cx2 := 5) (sx2 := 2068) C K_X5 lb_c_X7_23 lb_n_X5 lb_i_X5 (fun j hj => by rcases (show j = 0 ∨ j = 1 ∨ j = 2 ∨ j = 3 ∨ j = 4 ∨ j = 5 ∨ j = 6 ∨ j = 7 by omega) with rfl | rfl | rfl | rfl | rfl | rfl | rfl | rfl <;> rfl) (by decide) (by decide) rfl rfl dX7_init_27 (fun q5 => ?_)
  refine b_ws (ws' := [(h0, .inr (7, [.ref q1, .ref q3, .null, .null])), (q1, .inr (3, [.ref (as2.getD 0 0), .int 0, .int 0])), ((as2.getD 0 0), .inl (zac E 0, 2000, .inl (fun _ => 0))), (q3, .inr (0, [.ref (as4.getD 0 0), .int 0, .int 0, .int 0, .int 1, .int 0, .int 0])), ((as4.getD 0 0), .inl (zac E 0, 50, .inl (fun _ => 0))), (q5, .inr (5, [.null, .null, .null, .int 0, .null, .null, .null, .null]))]) rfl ?_
  refine b_dup (pc := 30) C dX7_init_30 rfl ?_
  refine b_callIN (pc := 31) (n := 0) (wr := [(h0, .inr (7, [.ref q1, .ref q3, .null, .null])), (q1, .inr (3, [.ref (as2.getD 0 0), .int 0, .int 0])), ((as2.getD 0 0), .inl (zac E 0, 2000, .inl (fun _ => 0))), (q3, .inr (0, [.ref (as4.getD 0 0), .int 0, .int 0, .int 0, .int 1, .int 0, .int 0])), ((as4.getD 0 0), .inl (zac E 0, 50, .inl (fun _ => 0)))]) (cx2 := 12) (sx2 := 2600) C (i_X5_init _) lb_cc_X5_init lb_i_X5 lk_mn_X7_25 lb_im_X5_init rfl (by decide +kernel) rfl ⟨rfl, rfl⟩ (by decide) [5] [0, 1, 2, 3, 4] rfl rfl (by decide) (by decide) (by decide) (Nat.le_of_ble_eq_true rfl) (by decide) rfl rfl dX7_init_31 (fun as6 eas6 => ?_)
  refine b_ws (ws' := [(h0, .inr (7, [.ref q1, .ref q3, .null, .null])), (q1, .inr (3, [.ref (as2.getD 0 0), .int 0, .int 0])), ((as2.getD 0 0), .inl (zac E 0, 2000, .inl (fun _ => 0))), (q3, .inr (0, [.ref (as4.getD 0 0), .int 0, .int 0, .int 0, .int 1, .int 0, .int 0])), ((as4.getD 0 0), .inl (zac E 0, 50, .inl (fun _ => 0))), (q5, .inr (5, [.ref (as6.getD 0 0), .ref (as6.getD 1 0), .ref (as6.getD 2 0), .int 0, .ref (as6.getD 3 0), .ref (as6.getD 4 0), .ref (as6.getD 5 0), .ref (as6.getD 6 0)])), ((as6.getD 0 0), .inl (zac E 0, 100, .inl (fun _ => 0))), ((as6.getD 1 0), .inl (zac E 0, 300, .inl (fun _ => 0))), ((as6.getD 2 0), .inl (zac E 0, 100, .inl (fun _ => 0))), ((as6.getD 3 0), .inl (zac E 1, 8, .inl (fun _ => 0))), ((as6.getD 4 0), .inl (zac E 0, 8, .inl (fun _ => 0))), ((as6.getD 5 0), .inl (zac E 0, 8, .inl (fun _ => 0))), ((as6.getD 6 0), .inl (zac E 1, 8, .inl (fun _ => 0)))]) rfl ?_
  refine b_putF (pc := 34) (ws' := [(h0, .inr (7, [.ref q1, .ref q3, .ref q5, .null])), (q1, .inr (3, [.ref (as2.getD 0 0), .int 0, .int 0])), ((as2.getD 0 0), .inl (zac E 0, 2000, .inl (fun _ => 0))), (q3, .inr (0, [.ref (as4.getD 0 0), .int 0, .int 0, .int 0, .int 1, .int 0, .int 0])), ((as4.getD 0 0), .inl (zac E 0, 50, .inl (fun _ => 0))), (q5, .inr (5, [.ref (as6.getD 0 0), .ref (as6.getD 1 0), .ref (as6.getD 2 0), .int 0, .ref (as6.getD 3 0), .ref (as6.getD 4 0), .ref (as6.getD 5 0), .ref (as6.getD 6 0)])), ((as6.getD 0 0), .inl (zac E 0, 100, .inl (fun _ => 0))), ((as6.getD 1 0), .inl (zac E 0, 300, .inl (fun _ => 0))), ((as6.getD 2 0), .inl (zac E 0, 100, .inl (fun _ => 0))), ((as6.getD 3 0), .inl (zac E 1, 8, .inl (fun _ => 0))), ((as6.getD 4 0), .inl (zac E 0, 8, .inl (fun _ => 0))), ((as6.getD 5 0), .inl (zac E 0, 8, .inl (fun _ => 0))), ((as6.getD 6 0), .inl (zac E 1, 8, .inl (fun _ => 0)))]) C K_X7 0 2 hin rfl rfl (by decide) lb_f_X7_26 rfl rfl rfl rfl (Nat.le_of_ble_eq_true rfl) rfl dX7_init_34 ?_
  refine b_aload_n (pc := 37) C dX7_init_37 rfl ?_
  refine b_new (pc := 38) (fs := [.null, .null, .null, .null, .null, .null, .null, .int 0, .int 0, .int 0, .int 0, .int 0, .int 0, .int 0, .int 0, .int 0, .int 0]) (cx2 := 13) (sx2 := 2617) C K_X6 lb_c_X7_30 lb_n_X6 lb_i_X6 (fun j hj => by rcases (show j = 0 ∨ j = 1 ∨ j = 2 ∨ j = 3 ∨ j = 4 ∨ j = 5 ∨ j = 6 ∨ j = 7 ∨ j = 8 ∨ j = 9 ∨ j = 10 ∨ j = 11 ∨ j = 12 ∨ j = 13 ∨ j = 14 ∨ j = 15 ∨ j = 16 by omega) with rfl | rfl | rfl | rfl | rfl | rfl | rfl | rfl | rfl | rfl | rfl | rfl | rfl | rfl | rfl | rfl | rfl <;> rfl) (by decide) (by decide) rfl rfl dX7_init_38 (fun q7 => ?_)
  refine b_ws (ws' := [(h0, .inr (7, [.ref q1, .ref q3, .ref q5, .null])), (q1, .inr (3, [.ref (as2.getD 0 0), .int 0, .int 0])), ((as2.getD 0 0), .inl (zac E 0, 2000, .inl (fun _ => 0))), (q3, .inr (0, [.ref (as4.getD 0 0), .int 0, .int 0, .int 0, .int 1, .int 0, .int 0])), ((as4.getD 0 0), .inl (zac E 0, 50, .inl (fun _ => 0))), (q5, .inr (5, [.ref (as6.getD 0 0), .ref (as6.getD 1 0), .ref (as6.getD 2 0), .int 0, .ref (as6.getD 3 0), .ref (as6.getD 4 0), .ref (as6.getD 5 0), .ref (as6.getD 6 0)])), ((as6.getD 0 0), .inl (zac E 0, 100, .inl (fun _ => 0))), ((as6.getD 1 0), .inl (zac E 0, 300, .inl (fun _ => 0))), ((as6.getD 2 0), .inl (zac E 0, 100, .inl (fun _ => 0))), ((as6.getD 3 0), .inl (zac E 1, 8, .inl (fun _ => 0))), ((as6.getD 4 0), .inl (zac E 0, 8, .inl (fun _ => 0))), ((as6.getD 5 0), .inl (zac E 0, 8, .inl (fun _ => 0))), ((as6.getD 6 0), .inl (zac E 1, 8, .inl (fun _ => 0))), (q7, .inr (6, [.null, .null, .null, .null, .null, .null, .null, .int 0, .int 0, .int 0, .int 0, .int 0, .int 0, .int 0, .int 0, .int 0, .int 0]))]) rfl ?_
  refine b_dup (pc := 41) C dX7_init_41 rfl ?_
  refine b_aload_n (pc := 42) C dX7_init_42 rfl ?_
  refine b_get (pc := 43) C K_X7 0 0 rfl (by decide) lb_f_X7_12 rfl dX7_init_43 ?_
  refine b_aload_n (pc := 46) C dX7_init_46 rfl ?_
  refine b_get (pc := 47) C K_X7 0 1 rfl (by decide) lb_f_X7_19 rfl dX7_init_47 ?_
  refine b_aload_n (pc := 50) C dX7_init_50 rfl ?_
  refine b_get (pc := 51) C K_X7 0 2 rfl (by decide) lb_f_X7_26 rfl dX7_init_51 ?_
  refine b_callI (pc := 54) (n := 3) (wr := [(h0, .inr (7, [.ref q1, .ref q3, .ref q5, .null])), (q1, .inr (3, [.ref (as2.getD 0 0), .int 0, .int 0])), ((as2.getD 0 0), .inl (zac E 0, 2000, .inl (fun _ => 0))), (q3, .inr (0, [.ref (as4.getD 0 0), .int 0, .int 0, .int 0, .int 1, .int 0, .int 0])), ((as4.getD 0 0), .inl (zac E 0, 50, .inl (fun _ => 0))), (q5, .inr (5, [.ref (as6.getD 0 0), .ref (as6.getD 1 0), .ref (as6.getD 2 0), .int 0, .ref (as6.getD 3 0), .ref (as6.getD 4 0), .ref (as6.getD 5 0), .ref (as6.getD 6 0)])), ((as6.getD 0 0), .inl (zac E 0, 100, .inl (fun _ => 0))), ((as6.getD 1 0), .inl (zac E 0, 300, .inl (fun _ => 0))), ((as6.getD 2 0), .inl (zac E 0, 100, .inl (fun _ => 0))), ((as6.getD 3 0), .inl (zac E 1, 8, .inl (fun _ => 0))), ((as6.getD 4 0), .inl (zac E 0, 8, .inl (fun _ => 0))), ((as6.getD 5 0), .inl (zac E 0, 8, .inl (fun _ => 0))), ((as6.getD 6 0), .inl (zac E 1, 8, .inl (fun _ => 0)))]) (cx2 := 44) (sx2 := 3119) C (i_X6_init _ _ _ _) lb_cc_X6_init lb_i_X6 lb_m_X7_32 lb_im_X6_init rfl (by decide +kernel) rfl ⟨rfl, rfl⟩ (by decide) [13] [0, 1, 2, 3, 4, 5, 6, 7, 8, 9, 10, 11, 12] rfl rfl (by decide) (by decide) (by decide) (Nat.le_of_ble_eq_true rfl) (by decide) rfl rfl dX7_init_54 (fun as8 eas8 => ?_)
  refine b_ws (ws' := [(h0, .inr (7, [.ref q1, .ref q3, .ref q5, .null])), (q1, .inr (3, [.ref (as2.getD 0 0), .int 0, .int 0])), ((as2.getD 0 0), .inl (zac E 0, 2000, .inl (fun _ => 0))), (q3, .inr (0, [.ref (as4.getD 0 0), .int 0, .int 0, .int 0, .int 1, .int 0, .int 0])), ((as4.getD 0 0), .inl (zac E 0, 50, .inl (fun _ => 0))), (q5, .inr (5, [.ref (as6.getD 0 0), .ref (as6.getD 1 0), .ref (as6.getD 2 0), .int 0, .ref (as6.getD 3 0), .ref (as6.getD 4 0), .ref (as6.getD 5 0), .ref (as6.getD 6 0)])), ((as6.getD 0 0), .inl (zac E 0, 100, .inl (fun _ => 0))), ((as6.getD 1 0), .inl (zac E 0, 300, .inl (fun _ => 0))), ((as6.getD 2 0), .inl (zac E 0, 100, .inl (fun _ => 0))), ((as6.getD 3 0), .inl (zac E 1, 8, .inl (fun _ => 0))), ((as6.getD 4 0), .inl (zac E 0, 8, .inl (fun _ => 0))), ((as6.getD 5 0), .inl (zac E 0, 8, .inl (fun _ => 0))), ((as6.getD 6 0), .inl (zac E 1, 8, .inl (fun _ => 0))), (q7, .inr (6, [.ref q1, .ref q3, .ref q5, .ref (as8.getD 0 0), .ref (as8.getD 27 0), .ref (as8.getD 29 0), .ref (as8.getD 30 0), .int 0, .int 130, .int 0, .int 0, .int 0, .int 0, .int 0, .int 0, .int 0, .int 0])), ((as8.getD 0 0), .inr (2, [.ref (as8.getD 1 0), .ref (as8.getD 2 0), .int 0, .int 0, .int 0])), ((as8.getD 1 0), .inl (zac E 2, 12, .inr (.inr (.inr (.inr (va_up (va_up (va_up (va_up (va_up (va_up (va_up (va_up (va_up (va_up (va_up (va_up (fun _ => none) 0 (some (as8.getD 3 0))) 1 (some (as8.getD 5 0))) 2 (some (as8.getD 7 0))) 3 (some (as8.getD 9 0))) 4 (some (as8.getD 11 0))) 5 (some (as8.getD 13 0))) 6 (some (as8.getD 15 0))) 7 (some (as8.getD 17 0))) 8 (some (as8.getD 19 0))) 9 (some (as8.getD 21 0))) 10 (some (as8.getD 23 0))) 11 (some (as8.getD 25 0)))))))), ((as8.getD 2 0), .inl (zac E 0, 100, .inl (fun _ => 0))), ((as8.getD 3 0), .inr (1, [.ref (as8.getD 4 0), .int 0, .int 0, .int 0, .int 0, .int 0])), ((as8.getD 4 0), .inl (zac E 0, 15, .inl (fun _ => 0))), ((as8.getD 5 0), .inr (1, [.ref (as8.getD 6 0), .int 0, .int 0, .int 0, .int 0, .int 0])), ((as8.getD 6 0), .inl (zac E 0, 15, .inl (fun _ => 0))), ((as8.getD 7 0), .inr (1, [.ref (as8.getD 8 0), .int 0, .int 0, .int 0, .int 0, .int 0])), ((as8.getD 8 0), .inl (zac E 0, 15, .inl (fun _ => 0))), ((as8.getD 9 0), .inr (1, [.ref (as8.getD 10 0), .int 0, .int 0, .int 0, .int 0, .int 0])), ((as8.getD 10 0), .inl (zac E 0, 15, .inl (fun _ => 0))), ((as8.getD 11 0), .inr (1, [.ref (as8.getD 12 0), .int 0, .int 0, .int 0, .int 0, .int 0])), ((as8.getD 12 0), .inl (zac E 0, 15, .inl (fun _ => 0))), ((as8.getD 13 0), .inr (1, [.ref (as8.getD 14 0), .int 0, .int 0, .int 0, .int 0, .int 0])), ((as8.getD 14 0), .inl (zac E 0, 15, .inl (fun _ => 0))), ((as8.getD 15 0), .inr (1, [.ref (as8.getD 16 0), .int 0, .int 0, .int 0, .int 0, .int 0])), ((as8.getD 16 0), .inl (zac E 0, 15, .inl (fun _ => 0))), ((as8.getD 17 0), .inr (1, [.ref (as8.getD 18 0), .int 0, .int 0, .int 0, .int 0, .int 0])), ((as8.getD 18 0), .inl (zac E 0, 15, .inl (fun _ => 0))), ((as8.getD 19 0), .inr (1, [.ref (as8.getD 20 0), .int 0, .int 0, .int 0, .int 0, .int 0])), ((as8.getD 20 0), .inl (zac E 0, 15, .inl (fun _ => 0))), ((as8.getD 21 0), .inr (1, [.ref (as8.getD 22 0), .int 0, .int 0, .int 0, .int 0, .int 0])), ((as8.getD 22 0), .inl (zac E 0, 15, .inl (fun _ => 0))), ((as8.getD 23 0), .inr (1, [.ref (as8.getD 24 0), .int 0, .int 0, .int 0, .int 0, .int 0])), ((as8.getD 24 0), .inl (zac E 0, 15, .inl (fun _ => 0))), ((as8.getD 25 0), .inr (1, [.ref (as8.getD 26 0), .int 0, .int 0, .int 0, .int 0, .int 0])), ((as8.getD 26 0), .inl (zac E 0, 15, .inl (fun _ => 0))), ((as8.getD 27 0), .inr (4, [.ref (as8.getD 28 0), .int 0])), ((as8.getD 28 0), .inl (zac E 0, 120, .inl (fun _ => 0))), ((as8.getD 29 0), .inl (zac E 0, 8, .inl (fun _ => 0))), ((as8.getD 30 0), .inl (zac E 0, 3, .inl (fun _ => 0)))]) rfl ?_
  refine b_putF (pc := 57) (ws' := [(h0, .inr (7, [.ref q1, .ref q3, .ref q5, .ref q7])), (q1, .inr (3, [.ref (as2.getD 0 0), .int 0, .int 0])), ((as2.getD 0 0), .inl (zac E 0, 2000, .inl (fun _ => 0))), (q3, .inr (0, [.ref (as4.getD 0 0), .int 0, .int 0, .int 0, .int 1, .int 0, .int 0])), ((as4.getD 0 0), .inl (zac E 0, 50, .inl (fun _ => 0))), (q5, .inr (5, [.ref (as6.getD 0 0), .ref (as6.getD 1 0), .ref (as6.getD 2 0), .int 0, .ref (as6.getD 3 0), .ref (as6.getD 4 0), .ref (as6.getD 5 0), .ref (as6.getD 6 0)])), ((as6.getD 0 0), .inl (zac E 0, 100, .inl (fun _ => 0))), ((as6.getD 1 0), .inl (zac E 0, 300, .inl (fun _ => 0))), ((as6.getD 2 0), .inl (zac E 0, 100, .inl (fun _ => 0))), ((as6.getD 3 0), .inl (zac E 1, 8, .inl (fun _ => 0))), ((as6.getD 4 0), .inl (zac E 0, 8, .inl (fun _ => 0))), ((as6.getD 5 0), .inl (zac E 0, 8, .inl (fun _ => 0))), ((as6.getD 6 0), .inl (zac E 1, 8, .inl (fun _ => 0))), (q7, .inr (6, [.ref q1, .ref q3, .ref q5, .ref (as8.getD 0 0), .ref (as8.getD 27 0), .ref (as8.getD 29 0), .ref (as8.getD 30 0), .int 0, .int 130, .int 0, .int 0, .int 0, .int 0, .int 0, .int 0, .int 0, .int 0])), ((as8.getD 0 0), .inr (2, [.ref (as8.getD 1 0), .ref (as8.getD 2 0), .int 0, .int 0, .int 0])), ((as8.getD 1 0), .inl (zac E 2, 12, .inr (.inr (.inr (.inr (va_up (va_up (va_up (va_up (va_up (va_up (va_up (va_up (va_up (va_up (va_up (va_up (fun _ => none) 0 (some (as8.getD 3 0))) 1 (some (as8.getD 5 0))) 2 (some (as8.getD 7 0))) 3 (some (as8.getD 9 0))) 4 (some (as8.getD 11 0))) 5 (some (as8.getD 13 0))) 6 (some (as8.getD 15 0))) 7 (some (as8.getD 17 0))) 8 (some (as8.getD 19 0))) 9 (some (as8.getD 21 0))) 10 (some (as8.getD 23 0))) 11 (some (as8.getD 25 0)))))))), ((as8.getD 2 0), .inl (zac E 0, 100, .inl (fun _ => 0))), ((as8.getD 3 0), .inr (1, [.ref (as8.getD 4 0), .int 0, .int 0, .int 0, .int 0, .int 0])), ((as8.getD 4 0), .inl (zac E 0, 15, .inl (fun _ => 0))), ((as8.getD 5 0), .inr (1, [.ref (as8.getD 6 0), .int 0, .int 0, .int 0, .int 0, .int 0])), ((as8.getD 6 0), .inl (zac E 0, 15, .inl (fun _ => 0))), ((as8.getD 7 0), .inr (1, [.ref (as8.getD 8 0), .int 0, .int 0, .int 0, .int 0, .int 0])), ((as8.getD 8 0), .inl (zac E 0, 15, .inl (fun _ => 0))), ((as8.getD 9 0), .inr (1, [.ref (as8.getD 10 0), .int 0, .int 0, .int 0, .int 0, .int 0])), ((as8.getD 10 0), .inl (zac E 0, 15, .inl (fun _ => 0))), ((as8.getD 11 0), .inr (1, [.ref (as8.getD 12 0), .int 0, .int 0, .int 0, .int 0, .int 0])), ((as8.getD 12 0), .inl (zac E 0, 15, .inl (fun _ => 0))), ((as8.getD 13 0), .inr (1, [.ref (as8.getD 14 0), .int 0, .int 0, .int 0, .int 0, .int 0])), ((as8.getD 14 0), .inl (zac E 0, 15, .inl (fun _ => 0))), ((as8.getD 15 0), .inr (1, [.ref (as8.getD 16 0), .int 0, .int 0, .int 0, .int 0, .int 0])), ((as8.getD 16 0), .inl (zac E 0, 15, .inl (fun _ => 0))), ((as8.getD 17 0), .inr (1, [.ref (as8.getD 18 0), .int 0, .int 0, .int 0, .int 0, .int 0])), ((as8.getD 18 0), .inl (zac E 0, 15, .inl (fun _ => 0))), ((as8.getD 19 0), .inr (1, [.ref (as8.getD 20 0), .int 0, .int 0, .int 0, .int 0, .int 0])), ((as8.getD 20 0), .inl (zac E 0, 15, .inl (fun _ => 0))), ((as8.getD 21 0), .inr (1, [.ref (as8.getD 22 0), .int 0, .int 0, .int 0, .int 0, .int 0])), ((as8.getD 22 0), .inl (zac E 0, 15, .inl (fun _ => 0))), ((as8.getD 23 0), .inr (1, [.ref (as8.getD 24 0), .int 0, .int 0, .int 0, .int 0, .int 0])), ((as8.getD 24 0), .inl (zac E 0, 15, .inl (fun _ => 0))), ((as8.getD 25 0), .inr (1, [.ref (as8.getD 26 0), .int 0, .int 0, .int 0, .int 0, .int 0])), ((as8.getD 26 0), .inl (zac E 0, 15, .inl (fun _ => 0))), ((as8.getD 27 0), .inr (4, [.ref (as8.getD 28 0), .int 0])), ((as8.getD 28 0), .inl (zac E 0, 120, .inl (fun _ => 0))), ((as8.getD 29 0), .inl (zac E 0, 8, .inl (fun _ => 0))), ((as8.getD 30 0), .inl (zac E 0, 3, .inl (fun _ => 0)))]) C K_X7 0 3 hin rfl rfl (by decide) lb_f_X7_35 rfl rfl rfl rfl (Nat.le_of_ble_eq_true rfl) rfl dX7_init_57 ?_
  exact fin 60 _ _ [q1, (as2.getD 0 0), q3, (as4.getD 0 0), q5, (as6.getD 0 0), (as6.getD 1 0), (as6.getD 2 0), (as6.getD 3 0), (as6.getD 4 0), (as6.getD 5 0), (as6.getD 6 0), q7, (as8.getD 0 0), (as8.getD 1 0), (as8.getD 2 0), (as8.getD 3 0), (as8.getD 4 0), (as8.getD 5 0), (as8.getD 6 0), (as8.getD 7 0), (as8.getD 8 0), (as8.getD 9 0), (as8.getD 10 0), (as8.getD 11 0), (as8.getD 12 0), (as8.getD 13 0), (as8.getD 14 0), (as8.getD 15 0), (as8.getD 16 0), (as8.getD 17 0), (as8.getD 18 0), (as8.getD 19 0), (as8.getD 20 0), (as8.getD 21 0), (as8.getD 22 0), (as8.getD 23 0), (as8.getD 24 0), (as8.getD 25 0), (as8.getD 26 0), (as8.getD 27 0), (as8.getD 28 0), (as8.getD 29 0), (as8.getD 30 0)] [0, 1, 2, 3, 4, 5, 6, 7, 8, 9, 10, 11, 12, 13, 14, 15, 16, 17, 18, 19, 20, 21, 22, 23, 24, 25, 26, 27, 28, 29, 30, 31, 32, 33, 34, 35, 36, 37, 38, 39, 40, 41, 42, 43, 44] dX7_init_60 rfl (by decide) rfl
def rmI_X8_init : Room := { frames := 1, cells := 18, slots := 5038, locals := 20 }
def wI_X8_init (E : zG) (h0 : Nat) (as : List Nat) : va_W := [(h0, .inr (8, [.int 0, .ref (as.getD 0 0), .int 0, .int 0, .int 0, .int 130, .int 0, .int 1, .int 0, .int 0, .ref (as.getD 1 0), .int 0, .int 0, .ref (as.getD 2 0), .int 0, .ref (as.getD 3 0), .ref (as.getD 4 0), .ref (as.getD 5 0), .ref (as.getD 6 0), .ref (as.getD 7 0), .ref (as.getD 8 0), .ref (as.getD 9 0), .int 0, .ref (as.getD 10 0), .ref (as.getD 11 0), .ref (as.getD 12 0), .ref (as.getD 13 0), .ref (as.getD 14 0), .ref (as.getD 15 0), .int 0, .ref (as.getD 16 0), .int 0, .ref (as.getD 17 0), .int 0, .int 0, .int 0, .int 0, .int 0, .int 0, .int 0, .int 0])), ((as.getD 0 0), .inl (zac E 0, 2000, .inl (fun _ => 0))), ((as.getD 1 0), .inl (zac E 0, 50, .inl (fun _ => 0))), ((as.getD 2 0), .inl (zac E 0, 2000, .inl (fun _ => 0))), ((as.getD 3 0), .inl (zac E 0, 100, .inl (fun _ => 0))), ((as.getD 4 0), .inl (zac E 0, 300, .inl (fun _ => 0))), ((as.getD 5 0), .inl (zac E 0, 100, .inl (fun _ => 0))), ((as.getD 6 0), .inl (zac E 1, 8, .inl (fun _ => 0))), ((as.getD 7 0), .inl (zac E 0, 8, .inl (fun _ => 0))), ((as.getD 8 0), .inl (zac E 0, 8, .inl (fun _ => 0))), ((as.getD 9 0), .inl (zac E 1, 8, .inl (fun _ => 0))), ((as.getD 10 0), .inl (zac E 0, 12, .inl (fun _ => 0))), ((as.getD 11 0), .inl (zac E 0, 12, .inl (fun _ => 0))), ((as.getD 12 0), .inl (zac E 0, 12, .inl (fun _ => 0))), ((as.getD 13 0), .inl (zac E 0, 12, .inl (fun _ => 0))), ((as.getD 14 0), .inl (zac E 0, 180, .inl (fun _ => 0))), ((as.getD 15 0), .inl (zac E 0, 100, .inl (fun _ => 0))), ((as.getD 16 0), .inl (zac E 0, 120, .inl (fun _ => 0))), ((as.getD 17 0), .inl (zac E 0, 8, .inl (fun _ => 0)))]
set_option maxHeartbeats 8000000 in
set_option maxRecDepth 100000 in
theorem i_X8_init {E : zG} (h0 : Nat) : zI E yX8_init cX8_init 1 rmI_X8_init [.ref h0] [(h0, .inr (8, [.int 0, .null, .int 0, .int 0, .int 0, .int 0, .int 0, .int 0, .int 0, .int 0, .null, .int 0, .int 0, .null, .int 0, .null, .null, .null, .null, .null, .null, .null, .int 0, .null, .null, .null, .null, .null, .null, .int 0, .null, .int 0, .null, .int 0, .int 0, .int 0, .int 0, .int 0, .int 0, .int 0, .int 0]))] 18 (wI_X8_init E h0) 18 5038 := by
  refine zI_of (nn := 0) (by decide) rfl (Nat.le_of_ble_eq_true rfl) rfl rfl (fun Γ A C hin fin => ?_)
  refine b_aload_n (pc := 0) C dX8_init_0 rfl ?_
  refine b_obj (pc := 1) C dX8_init_1 lb_m_X8_1 lb_oi lb_oc (by decide) (Nat.le_of_ble_eq_true rfl) ?_
  refine b_aload_n (pc := 4) C dX8_init_4 rfl ?_
  refine b_sipush (pc := 5) (v := 2000) C dX8_init_5 (by decide) ?_
  refine b_newa (pc := 8) (atype := .int) (tf := .int) (N' := 2000) (t0 := 0) (a0 := (2000, .inl (fun _ => 0))) (cx2 := 1) (sx2 := 2000) C lb_ac_int rfl rfl (fun _ => rfl) (by decide) (by decide) (by decide) (by decide) (by decide) rfl rfl dX8_init_8 (fun q1 => ?_)
  refine b_ws (ws' := [(h0, .inr (8, [.int 0, .null, .int 0, .int 0, .int 0, .int 0, .int 0, .int 0, .int 0, .int 0, .null, .int 0, .int 0, .null, .int 0, .null, .null, .null, .null, .null, .null, .null, .int 0, .null, .null, .null, .null, .null, .null, .int 0, .null, .int 0, .null, .int 0, .int 0, .int 0, .int 0, .int 0, .int 0, .int 0, .int 0])), (q1, .inl (zac E 0, 2000, .inl (fun _ => 0)))]) rfl ?_
  refine b_putF (pc := 10) (ws' := [(h0, .inr (8, [.int 0, .ref q1, .int 0, .int 0, .int 0, .int 0, .int 0, .int 0, .int 0, .int 0, .null, .int 0, .int 0, .null, .int 0, .null, .null, .null, .null, .null, .null, .null, .int 0, .null, .null, .null, .null, .null, .null, .int 0, .null, .int 0, .null, .int 0, .int 0, .int 0, .int 0, .int 0, .int 0, .int 0, .int 0])), (q1, .inl (zac E 0, 2000, .inl (fun _ => 0)))]) C K_X8 0 1 hin rfl rfl (by decide) lb_f_X8_7 rfl rfl rfl rfl (Nat.le_of_ble_eq_true rfl) rfl dX8_init_10 ?_
  refine b_aload_n (pc := 13) C dX8_init_13 rfl ?_
  refine b_sipush (pc := 14) (v := 130) C dX8_init_14 (by decide) ?_
  refine b_put (pc := 17) (ws' := [(h0, .inr (8, [.int 0, .ref q1, .int 0, .int 0, .int 0, .int 130, .int 0, .int 0, .int 0, .int 0, .null, .int 0, .int 0, .null, .int 0, .null, .null, .null, .null, .null, .null, .null, .int 0, .null, .null, .null, .null, .null, .null, .int 0, .null, .int 0, .null, .int 0, .int 0, .int 0, .int 0, .int 0, .int 0, .int 0, .int 0])), (q1, .inl (zac E 0, 2000, .inl (fun _ => 0)))]) C K_X8 0 5 rfl (by decide) lb_f_X8_13 rfl rfl rfl rfl (Nat.le_of_ble_eq_true rfl) rfl dX8_init_17 ?_
  refine b_aload_n (pc := 20) C dX8_init_20 rfl ?_
  refine b_iconst (pc := 21) (v := 1) C dX8_init_21 (by decide) ?_
  refine b_put (pc := 22) (ws' := [(h0, .inr (8, [.int 0, .ref q1, .int 0, .int 0, .int 0, .int 130, .int 0, .int 1, .int 0, .int 0, .null, .int 0, .int 0, .null, .int 0, .null, .null, .null, .null, .null, .null, .null, .int 0, .null, .null, .null, .null, .null, .null, .int 0, .null, .int 0, .null, .int 0, .int 0, .int 0, .int 0, .int 0, .int 0, .int 0, .int 0])), (q1, .inl (zac E 0, 2000, .inl (fun _ => 0)))]) C K_X8 0 7 rfl (by decide) lb_f_X8_17 rfl rfl rfl rfl (Nat.le_of_ble_eq_true rfl) rfl dX8_init_22 ?_
  refine b_aload_n (pc := 25) C dX8_init_25 rfl ?_
  refine b_bipush (pc := 26) (v := 50) C dX8_init_26 (by decide) ?_
  refine b_newa (pc := 28) (atype := .int) (tf := .int) (N' := 50) (t0 := 0) (a0 := (50, .inl (fun _ => 0))) (cx2 := 2) (sx2 := 2050) C lb_ac_int rfl rfl (fun _ => rfl) (by decide) (by decide) (by decide) (by decide) (by decide) rfl rfl dX8_init_28 (fun q2 => ?_)
  refine b_ws (ws' := [(h0, .inr (8, [.int 0, .ref q1, .int 0, .int 0, .int 0, .int 130, .int 0, .int 1, .int 0, .int 0, .null, .int 0, .int 0, .null, .int 0, .null, .null, .null, .null, .null, .null, .null, .int 0, .null, .null, .null, .null, .null, .null, .int 0, .null, .int 0, .null, .int 0, .int 0, .int 0, .int 0, .int 0, .int 0, .int 0, .int 0])), (q1, .inl (zac E 0, 2000, .inl (fun _ => 0))), (q2, .inl (zac E 0, 50, .inl (fun _ => 0)))]) rfl ?_
  refine b_putF (pc := 30) (ws' := [(h0, .inr (8, [.int 0, .ref q1, .int 0, .int 0, .int 0, .int 130, .int 0, .int 1, .int 0, .int 0, .ref q2, .int 0, .int 0, .null, .int 0, .null, .null, .null, .null, .null, .null, .null, .int 0, .null, .null, .null, .null, .null, .null, .int 0, .null, .int 0, .null, .int 0, .int 0, .int 0, .int 0, .int 0, .int 0, .int 0, .int 0])), (q1, .inl (zac E 0, 2000, .inl (fun _ => 0))), (q2, .inl (zac E 0, 50, .inl (fun _ => 0)))]) C K_X8 0 10 hin rfl rfl (by decide) lb_f_X8_20 rfl rfl rfl rfl (Nat.le_of_ble_eq_true rfl) rfl dX8_init_30 ?_
  refine b_aload_n (pc := 33) C dX8_init_33 rfl ?_
  refine b_sipush (pc := 34) (v := 2000) C dX8_init_34 (by decide) ?_
  refine b_newa (pc := 37) (atype := .int) (tf := .int) (N' := 2000) (t0 := 0) (a0 := (2000, .inl (fun _ => 0))) (cx2 := 3) (sx2 := 4050) C lb_ac_int rfl rfl (fun _ => rfl) (by decide) (by decide) (by decide) (by decide) (by decide) rfl rfl dX8_init_37 (fun q3 => ?_)
  refine b_ws (ws' := [(h0, .inr (8, [.int 0, .ref q1, .int 0, .int 0, .int 0, .int 130, .int 0, .int 1, .int 0, .int 0, .ref q2, .int 0, .int 0, .null, .int 0, .null, .null, .null, .null, .null, .null, .null, .int 0, .null, .null, .null, .null, .null, .null, .int 0, .null, .int 0, .null, .int 0, .int 0, .int 0, .int 0, .int 0, .int 0, .int 0, .int 0])), (q1, .inl (zac E 0, 2000, .inl (fun _ => 0))), (q2, .inl (zac E 0, 50, .inl (fun _ => 0))), (q3, .inl (zac E 0, 2000, .inl (fun _ => 0)))]) rfl ?_
  refine b_putF (pc := 39) (ws' := [(h0, .inr (8, [.int 0, .ref q1, .int 0, .int 0, .int 0, .int 130, .int 0, .int 1, .int 0, .int 0, .ref q2, .int 0, .int 0, .ref q3, .int 0, .null, .null, .null, .null, .null, .null, .null, .int 0, .null, .null, .null, .null, .null, .null, .int 0, .null, .int 0, .null, .int 0, .int 0, .int 0, .int 0, .int 0, .int 0, .int 0, .int 0])), (q1, .inl (zac E 0, 2000, .inl (fun _ => 0))), (q2, .inl (zac E 0, 50, .inl (fun _ => 0))), (q3, .inl (zac E 0, 2000, .inl (fun _ => 0)))]) C K_X8 0 13 hin rfl rfl (by decide) lb_f_X8_23 rfl rfl rfl rfl (Nat.le_of_ble_eq_true rfl) rfl dX8_init_39 ?_
  refine b_aload_n (pc := 42) C dX8_init_42 rfl ?_
  refine b_bipush (pc := 43) (v := 100) C dX8_init_43 (by decide) ?_
  refine b_newa (pc := 45) (atype := .int) (tf := .int) (N' := 100) (t0 := 0) (a0 := (100, .inl (fun _ => 0))) (cx2 := 4) (sx2 := 4150) C lb_ac_int rfl rfl (fun _ => rfl) (by decide) (by decide) (by decide) (by decide) (by decide) rfl rfl dX8_init_45 (fun q4 => ?_)
  refine b_ws (ws' := [(h0, .inr (8, [.int 0, .ref q1, .int 0, .int 0, .int 0, .int 130, .int 0, .int 1, .int 0, .int 0, .ref q2, .int 0, .int 0, .ref q3, .int 0, .null, .null, .null, .null, .null, .null, .null, .int 0, .null, .null, .null, .null, .null, .null, .int 0, .null, .int 0, .null, .int 0, .int 0, .int 0, .int 0, .int 0, .int 0, .int 0, .int 0])), (q1, .inl (zac E 0, 2000, .inl (fun _ => 0))), (q2, .inl (zac E 0, 50, .inl (fun _ => 0))), (q3, .inl (zac E 0, 2000, .inl (fun _ => 0))), (q4, .inl (zac E 0, 100, .inl (fun _ => 0)))]) rfl ?_
  refine b_putF (pc := 47) (ws' := [(h0, .inr (8, [.int 0, .ref q1, .int 0, .int 0, .int 0, .int 130, .int 0, .int 1, .int 0, .int 0, .ref q2, .int 0, .int 0, .ref q3, .int 0, .ref q4, .null, .null, .null, .null, .null, .null, .int 0, .null, .null, .null, .null, .null, .null, .int 0, .null, .int 0, .null, .int 0, .int 0, .int 0, .int 0, .int 0, .int 0, .int 0, .int 0])), (q1, .inl (zac E 0, 2000, .inl (fun _ => 0))), (q2, .inl (zac E 0, 50, .inl (fun _ => 0))), (q3, .inl (zac E 0, 2000, .inl (fun _ => 0))), (q4, .inl (zac E 0, 100, .inl (fun _ => 0)))]) C K_X8 0 15 hin rfl rfl (by decide) lb_f_X8_26 rfl rfl rfl rfl (Nat.le_of_ble_eq_true rfl) rfl dX8_init_47 ?_
  refine b_aload_n (pc := 50) C dX8_init_50 rfl ?_
  refine b_sipush (pc := 51) (v := 300) C dX8_init_51 (by decide) ?_
  refine b_newa (pc := 54) (atype := .int) (tf := .int) (N' := 300) (t0 := 0) (a0 := (300, .inl (fun _ => 0))) (cx2 := 5) (sx2 := 4450) C lb_ac_int rfl rfl (fun _ => rfl) (by decide) (by decide) (by decide) (by decide) (by decide) rfl rfl dX8_init_54 (fun q5 => ?_)
  refine b_ws (ws' := [(h0, .inr (8, [.int 0, .ref q1, .int 0, .int 0, .int 0, .int 130, .int 0, .int 1, .int 0, .int 0, .ref q2, .int 0, .int 0, .ref q3, .int 0, .ref q4, .null, .null, .null, .null, .null, .null, .int 0, .null, .null, .null, .null, .null, .null, .int 0, .null, .int 0, .null, .int 0, .int 0, .int 0, .int 0, .int 0, .int 0, .int 0, .int 0])), (q1, .inl (zac E 0, 2000, .inl (fun _ => 0))), (q2, .inl (zac E 0, 50, .inl (fun _ => 0))), (q3, .inl (zac E 0, 2000, .inl (fun _ => 0))), (q4, .inl (zac E 0, 100, .inl (fun _ => 0))), (q5, .inl (zac E 0, 300, .inl (fun _ => 0)))]) rfl ?_
  refine b_putF (pc := 56) (ws' := [(h0, .inr (8, [.int 0, .ref q1, .int 0, .int 0, .int 0, .int 130, .int 0, .int 1, .int 0, .int 0, .ref q2, .int 0, .int 0, .ref q3, .int 0, .ref q4, .ref q5, .null, .null, .null, .null, .null, .int 0, .null, .null, .null, .null, .null, .null, .int 0, .null, .int 0, .null, .int 0, .int 0, .int 0, .int 0, .int 0, .int 0, .int 0, .int 0])), (q1, .inl (zac E 0, 2000, .inl (fun _ => 0))), (q2, .inl (zac E 0, 50, .inl (fun _ => 0))), (q3, .inl (zac E 0, 2000, .inl (fun _ => 0))), (q4, .inl (zac E 0, 100, .inl (fun _ => 0))), (q5, .inl (zac E 0, 300, .inl (fun _ => 0)))]) C K_X8 0 16 hin rfl rfl (by decide) lb_f_X8_29 rfl rfl rfl rfl (Nat.le_of_ble_eq_true rfl) rfl dX8_init_56 ?_
  refine b_aload_n (pc := 59) C dX8_init_59 rfl ?_
  refine b_bipush (pc := 60) (v := 100) C dX8_init_60 (by decide) ?_
  refine b_newa (pc := 62) (atype := .int) (tf := .int) (N' := 100) (t0 := 0) (a0 := (100, .inl (fun _ => 0))) (cx2 := 6) (sx2 := 4550) C lb_ac_int rfl rfl (fun _ => rfl) (by decide) (by decide) (by decide) (by decide) (by decide) rfl rfl dX8_init_62 (fun q6 => ?_)
  refine b_ws (ws' := [(h0, .inr (8, [.int 0, .ref q1, .int 0, .int 0, .int 0, .int 130, .int 0, .int 1, .int 0, .int 0, .ref q2, .int 0, .int 0, .ref q3, .int 0, .ref q4, .ref q5, .null, .null, .null, .null, .null, .int 0, .null, .null, .null, .null, .null, .null, .int 0, .null, .int 0, .null, .int 0, .int 0, .int 0, .int 0, .int 0, .int 0, .int 0, .int 0])), (q1, .inl (zac E 0, 2000, .inl (fun _ => 0))), (q2, .inl (zac E 0, 50, .inl (fun _ => 0))), (q3, .inl (zac E 0, 2000, .inl (fun _ => 0))), (q4, .inl (zac E 0, 100, .inl (fun _ => 0))), (q5, .inl (zac E 0, 300, .inl (fun _ => 0))), (q6, .inl (zac E 0, 100, .inl (fun _ => 0)))]) rfl ?_
  refine b_putF (pc := 64) (ws' := [(h0, .inr (8, [.int 0, .ref q1, .int 0, .int 0, .int 0, .int 130, .int 0, .int 1, .int 0, .int 0, .ref q2, .int 0, .int 0, .ref q3, .int 0, .ref q4, .ref q5, .ref q6, .null, .null, .null, .null, .int 0, .null, .null, .null, .null, .null, .null, .int 0, .null, .int 0, .null, .int 0, .int 0, .int 0, .int 0, .int 0, .int 0, .int 0, .int 0])), (q1, .inl (zac E 0, 2000, .inl (fun _ => 0))), (q2, .inl (zac E 0, 50, .inl (fun _ => 0))), (q3, .inl (zac E 0, 2000, .inl (fun _ => 0))), (q4, .inl (zac E 0, 100, .inl (fun _ => 0))), (q5, .inl (zac E 0, 300, .inl (fun _ => 0))), (q6, .inl (zac E 0, 100, .inl (fun _ => 0)))]) C K_X8 0 17 hin rfl rfl (by decide) lb_f_X8_32 rfl rfl rfl rfl (Nat.le_of_ble_eq_true rfl) rfl dX8_init_64 ?_
  refine b_aload_n (pc := 67) C dX8_init_67 rfl ?_
  refine b_bipush (pc := 68) (v := 8) C dX8_init_68 (by decide) ?_
  refine b_newa (pc := 70) (atype := .boolean) (tf := .boolean) (N' := 8) (t0 := 1) (a0 := (8, .inl (fun _ => 0))) (cx2 := 7) (sx2 := 4558) C lb_ac_boolean rfl rfl (fun _ => rfl) (by decide) (by decide) (by decide) (by decide) (by decide) rfl rfl dX8_init_70 (fun q7 => ?_)
  refine b_ws (ws' := [(h0, .inr (8, [.int 0, .ref q1, .int 0, .int 0, .int 0, .int 130, .int 0, .int 1, .int 0, .int 0, .ref q2, .int 0, .int 0, .ref q3, .int 0, .ref q4, .ref q5, .ref q6, .null, .null, .null, .null, .int 0, .null, .null, .null, .null, .null, .null, .int 0, .null, .int 0, .null, .int 0, .int 0, .int 0, .int 0, .int 0, .int 0, .int 0, .int 0])), (q1, .inl (zac E 0, 2000, .inl (fun _ => 0))), (q2, .inl (zac E 0, 50, .inl (fun _ => 0))), (q3, .inl (zac E 0, 2000, .inl (fun _ => 0))), (q4, .inl (zac E 0, 100, .inl (fun _ => 0))), (q5, .inl (zac E 0, 300, .inl (fun _ => 0))), (q6, .inl (zac E 0, 100, .inl (fun _ => 0))), (q7, .inl (zac E 1, 8, .inl (fun _ => 0)))]) rfl ?_
  refine b_putF (pc := 72) (ws' := [(h0, .inr (8, [.int 0, .ref q1, .int 0, .int 0, .int 0, .int 130, .int 0, .int 1, .int 0, .int 0, .ref q2, .int 0, .int 0, .ref q3, .int 0, .ref q4, .ref q5, .ref q6, .ref q7, .null, .null, .null, .int 0, .null, .null, .null, .null, .null, .null, .int 0, .null, .int 0, .null, .int 0, .int 0, .int 0, .int 0, .int 0, .int 0, .int 0, .int 0])), (q1, .inl (zac E 0, 2000, .inl (fun _ => 0))), (q2, .inl (zac E 0, 50, .inl (fun _ => 0))), (q3, .inl (zac E 0, 2000, .inl (fun _ => 0))), (q4, .inl (zac E 0, 100, .inl (fun _ => 0))), (q5, .inl (zac E 0, 300, .inl (fun _ => 0))), (q6, .inl (zac E 0, 100, .inl (fun _ => 0))), (q7, .inl (zac E 1, 8, .inl (fun _ => 0)))]) C K_X8 0 18 hin rfl rfl (by decide) lb_f_X8_35 rfl rfl rfl rfl (Nat.le_of_ble_eq_true rfl) rfl dX8_init_72 ?_
  refine b_aload_n (pc := 75) C dX8_init_75 rfl ?_
  refine b_bipush (pc := 76) (v := 8) C dX8_init_76 (by decide) ?_
  refine b_newa (pc := 78) (atype := .int) (tf := .int) (N' := 8) (t0 := 0) (a0 := (8, .inl (fun _ => 0))) (cx2 := 8) (sx2 := 4566) C lb_ac_int rfl rfl (fun _ => rfl) (by decide) (by decide) (by decide) (by decide) (by decide) rfl rfl dX8_init_78 (fun q8 => ?_)
  refine b_ws (ws' := [(h0, .inr (8, [.int 0, .ref q1, .int 0, .int 0, .int 0, .int 130, .int 0, .int 1, .int 0, .int 0, .ref q2, .int 0, .int 0, .ref q3, .int 0, .ref q4, .ref q5, .ref q6, .ref q7, .null, .null, .null, .int 0, .null, .null, .null, .null, .null, .null, .int 0, .null, .int 0, .null, .int 0, .int 0, .int 0, .int 0, .int 0, .int 0, .int 0, .int 0])), (q1, .inl (zac E 0, 2000, .inl (fun _ => 0))), (q2, .inl (zac E 0, 50, .inl (fun _ => 0))), (q3, .inl (zac E 0, 2000, .inl (fun _ => 0))), (q4, .inl (zac E 0, 100, .inl (fun _ => 0))), (q5, .inl (zac E 0, 300, .inl (fun _ => 0))), (q6, .inl (zac E 0, 100, .inl (fun _ => 0))), (q7, .inl (zac E 1, 8, .inl (fun _ => 0))), (q8, .inl (zac E 0, 8, .inl (fun _ => 0)))]) rfl ?_
  refine b_putF (pc := 80) (ws' := [(h0, .inr (8, [.int 0, .ref q1, .int 0, .int 0, .int 0, .int 130, .int 0, .int 1, .int 0, .int 0, .ref q2, .int 0, .int 0, .ref q3, .int 0, .ref q4, .ref q5, .ref q6, .ref q7, .ref q8, .null, .null, .int 0, .null, .null, .null, .null, .null, .null, .int 0, .null, .int 0, .null, .int 0, .int 0, .int 0, .int 0, .int 0, .int 0, .int 0, .int 0])), (q1, .inl (zac E 0, 2000, .inl (fun _ => 0))), (q2, .inl (zac E 0, 50, .inl (fun _ => 0))), (q3, .inl (zac E 0, 2000, .inl (fun _ => 0))), (q4, .inl (zac E 0, 100, .inl (fun _ => 0))), (q5, .inl (zac E 0, 300, .inl (fun _ => 0))), (q6, .inl (zac E 0, 100, .inl (fun _ => 0))), (q7, .inl (zac E 1, 8, .inl (fun _ => 0))), (q8, .inl (zac E 0, 8, .inl (fun _ => 0)))]) C K_X8 0 19 hin rfl rfl (by decide) lb_f_X8_39 rfl rfl rfl rfl (Nat.le_of_ble_eq_true rfl) rfl dX8_init_80 ?_
  refine b_aload_n (pc := 83) C dX8_init_83 rfl ?_
  refine b_bipush (pc := 84) (v := 8) C dX8_init_84 (by decide) ?_
  refine b_newa (pc := 86) (atype := .int) (tf := .int) (N' := 8) (t0 := 0) (a0 := (8, .inl (fun _ => 0))) (cx2 := 9) (sx2 := 4574) C lb_ac_int rfl rfl (fun _ => rfl) (by decide) (by decide) (by decide) (by decide) (by decide) rfl rfl dX8_init_86 (fun q9 => ?_)
  refine b_ws (ws' := [(h0, .inr (8, [.int 0, .ref q1, .int 0, .int 0, .int 0, .int 130, .int 0, .int 1, .int 0, .int 0, .ref q2, .int 0, .int 0, .ref q3, .int 0, .ref q4, .ref q5, .ref q6, .ref q7, .ref q8, .null, .null, .int 0, .null, .null, .null, .null, .null, .null, .int 0, .null, .int 0, .null, .int 0, .int 0, .int 0, .int 0, .int 0, .int 0, .int 0, .int 0])), (q1, .inl (zac E 0, 2000, .inl (fun _ => 0))), (q2, .inl (zac E 0, 50, .inl (fun _ => 0))), (q3, .inl (zac E 0, 2000, .inl (fun _ => 0))), (q4, .inl (zac E 0, 100, .inl (fun _ => 0))), (q5, .inl (zac E 0, 300, .inl (fun _ => 0))), (q6, .inl (zac E 0, 100, .inl (fun _ => 0))), (q7, .inl (zac E 1, 8, .inl (fun _ => 0))), (q8, .inl (zac E 0, 8, .inl (fun _ => 0))), (q9, .inl (zac E 0, 8, .inl (fun _ => 0)))]) rfl ?_
  refine b_putF (pc := 88) (ws' := [(h0, .inr (8, [.int 0, .ref q1, .int 0, .int 0, .int 0, .int 130, .int 0, .int 1, .int 0, .int 0, .ref q2, .int 0, .int 0, .ref q3, .int 0, .ref q4, .ref q5, .ref q6, .ref q7, .ref q8, .ref q9, .null, .int 0, .null, .null, .null, .null, .null, .null, .int 0, .null, .int 0, .null, .int 0, .int 0, .int 0, .int 0, .int 0, .int 0, .int 0, .int 0])), (q1, .inl (zac E 0, 2000, .inl (fun _ => 0))), (q2, .inl (zac E 0, 50, .inl (fun _ => 0))), (q3, .inl (zac E 0, 2000, .inl (fun _ => 0))), (q4, .inl (zac E 0, 100, .inl (fun _ => 0))), (q5, .inl (zac E 0, 300, .inl (fun _ => 0))), (q6, .inl (zac E 0, 100, .inl (fun _ => 0))), (q7, .inl (zac E 1, 8, .inl (fun _ => 0))), (q8, .inl (zac E 0, 8, .inl (fun _ => 0))), (q9, .inl (zac E 0, 8, .inl (fun _ => 0)))]) C K_X8 0 20 hin rfl rfl (by decide) lb_f_X8_42 rfl rfl rfl rfl (Nat.le_of_ble_eq_true rfl) rfl dX8_init_88 ?_
  refine b_aload_n (pc := 91) C dX8_init_91 rfl ?_
  refine b_bipush (pc := 92) (v := 8) C dX8_init_92 (by decide) ?_
  refine b_newa (pc := 94) (atype := .boolean) (tf := .boolean) (N' := 8) (t0 := 1) (a0 := (8, .inl (fun _ => 0))) (cx2 := 10) (sx2 := 4582) C lb_ac_boolean rfl rfl (fun _ => rfl) (by decide) (by decide) (by decide) (by decide) (by decide) rfl rfl dX8_init_94 (fun q10 => ?_)
  refine b_ws (ws' := [(h0, .inr (8, [.int 0, .ref q1, .int 0, .int 0, .int 0, .int 130, .int 0, .int 1, .int 0, .int 0, .ref q2, .int 0, .int 0, .ref q3, .int 0, .ref q4, .ref q5, .ref q6, .ref q7, .ref q8, .ref q9, .null, .int 0, .null, .null, .null, .null, .null, .null, .int 0, .null, .int 0, .null, .int 0, .int 0, .int 0, .int 0, .int 0, .int 0, .int 0, .int 0])), (q1, .inl (zac E 0, 2000, .inl (fun _ => 0))), (q2, .inl (zac E 0, 50, .inl (fun _ => 0))), (q3, .inl (zac E 0, 2000, .inl (fun _ => 0))), (q4, .inl (zac E 0, 100, .inl (fun _ => 0))), (q5, .inl (zac E 0, 300, .inl (fun _ => 0))), (q6, .inl (zac E 0, 100, .inl (fun _ => 0))), (q7, .inl (zac E 1, 8, .inl (fun _ => 0))), (q8, .inl (zac E 0, 8, .inl (fun _ => 0))), (q9, .inl (zac E 0, 8, .inl (fun _ => 0))), (q10, .inl (zac E 1, 8, .inl (fun _ => 0)))]) rfl ?_
  refine b_putF (pc := 96) (ws' := [(h0, .inr (8, [.int 0, .ref q1, .int 0, .int 0, .int 0, .int 130, .int 0, .int 1, .int 0, .int 0, .ref q2, .int 0, .int 0, .ref q3, .int 0, .ref q4, .ref q5, .ref q6, .ref q7, .ref q8, .ref q9, .ref q10, .int 0, .null, .null, .null, .null, .null, .null, .int 0, .null, .int 0, .null, .int 0, .int 0, .int 0, .int 0, .int 0, .int 0, .int 0, .int 0])), (q1, .inl (zac E 0, 2000, .inl (fun _ => 0))), (q2, .inl (zac E 0, 50, .inl (fun _ => 0))), (q3, .inl (zac E 0, 2000, .inl (fun _ => 0))), (q4, .inl (zac E 0, 100, .inl (fun _ => 0))), (q5, .inl (zac E 0, 300, .inl (fun _ => 0))), (q6, .inl (zac E 0, 100, .inl (fun _ => 0))), (q7, .inl (zac E 1, 8, .inl (fun _ => 0))), (q8, .inl (zac E 0, 8, .inl (fun _ => 0))), (q9, .inl (zac E 0, 8, .inl (fun _ => 0))), (q10, .inl (zac E 1, 8, .inl (fun _ => 0)))]) C K_X8 0 21 hin rfl rfl (by decide) lb_f_X8_45 rfl rfl rfl rfl (Nat.le_of_ble_eq_true rfl) rfl dX8_init_96 ?_
  refine b_aload_n (pc := 99) C dX8_init_99 rfl ?_
  refine b_bipush (pc := 100) (v := 12) C dX8_init_100 (by decide) ?_
  refine b_newa (pc := 102) (atype := .int) (tf := .int) (N' := 12) (t0 := 0) (a0 := (12, .inl (fun _ => 0))) (cx2 := 11) (sx2 := 4594) C lb_ac_int rfl rfl (fun _ => rfl) (by decide) (by decide) (by decide) (by decide) (by decide) rfl rfl dX8_init_102 (fun q11 => ?_)
  refine b_ws (ws' := [(h0, .inr (8, [.int 0, .ref q1, .int 0, .int 0, .int 0, .int 130, .int 0, .int 1, .int 0, .int 0, .ref q2, .int 0, .int 0, .ref q3, .int 0, .ref q4, .ref q5, .ref q6, .ref q7, .ref q8, .ref q9, .ref q10, .int 0, .null, .null, .null, .null, .null, .null, .int 0, .null, .int 0, .null, .int 0, .int 0, .int 0, .int 0, .int 0, .int 0, .int 0, .int 0])), (q1, .inl (zac E 0, 2000, .inl (fun _ => 0))), (q2, .inl (zac E 0, 50, .inl (fun _ => 0))), (q3, .inl (zac E 0, 2000, .inl (fun _ => 0))), (q4, .inl (zac E 0, 100, .inl (fun _ => 0))), (q5, .inl (zac E 0, 300, .inl (fun _ => 0))), (q6, .inl (zac E 0, 100, .inl (fun _ => 0))), (q7, .inl (zac E 1, 8, .inl (fun _ => 0))), (q8, .inl (zac E 0, 8, .inl (fun _ => 0))), (q9, .inl (zac E 0, 8, .inl (fun _ => 0))), (q10, .inl (zac E 1, 8, .inl (fun _ => 0))), (q11, .inl (zac E 0, 12, .inl (fun _ => 0)))]) rfl ?_
  refine b_putF (pc := 104) (ws' := [(h0, .inr (8, [.int 0, .ref q1, .int 0, .int 0, .int 0, .int 130, .int 0, .int 1, .int 0, .int 0, .ref q2, .int 0, .int 0, .ref q3, .int 0, .ref q4, .ref q5, .ref q6, .ref q7, .ref q8, .ref q9, .ref q10, .int 0, .ref q11, .null, .null, .null, .null, .null, .int 0, .null, .int 0, .null, .int 0, .int 0, .int 0, .int 0, .int 0, .int 0, .int 0, .int 0])), (q1, .inl (zac E 0, 2000, .inl (fun _ => 0))), (q2, .inl (zac E 0, 50, .inl (fun _ => 0))), (q3, .inl (zac E 0, 2000, .inl (fun _ => 0))), (q4, .inl (zac E 0, 100, .inl (fun _ => 0))), (q5, .inl (zac E 0, 300, .inl (fun _ => 0))), (q6, .inl (zac E 0, 100, .inl (fun _ => 0))), (q7, .inl (zac E 1, 8, .inl (fun _ => 0))), (q8, .inl (zac E 0, 8, .inl (fun _ => 0))), (q9, .inl (zac E 0, 8, .inl (fun _ => 0))), (q10, .inl (zac E 1, 8, .inl (fun _ => 0))), (q11, .inl (zac E 0, 12, .inl (fun _ => 0)))]) C K_X8 0 23 hin rfl rfl (by decide) lb_f_X8_48 rfl rfl rfl rfl (Nat.le_of_ble_eq_true rfl) rfl dX8_init_104 ?_
  refine b_aload_n (pc := 107) C dX8_init_107 rfl ?_
  refine b_bipush (pc := 108) (v := 12) C dX8_init_108 (by decide) ?_
  refine b_newa (pc := 110) (atype := .int) (tf := .int) (N' := 12) (t0 := 0) (a0 := (12, .inl (fun _ => 0))) (cx2 := 12) (sx2 := 4606) C lb_ac_int rfl rfl (fun _ => rfl) (by decide) (by decide) (by decide) (by decide) (by decide) rfl rfl dX8_init_110 (fun q12 => ?_)
  refine b_ws (ws' := [(h0, .inr (8, [.int 0, .ref q1, .int 0, .int 0, .int 0, .int 130, .int 0, .int 1, .int 0, .int 0, .ref q2, .int 0, .int 0, .ref q3, .int 0, .ref q4, .ref q5, .ref q6, .ref q7, .ref q8, .ref q9, .ref q10, .int 0, .ref q11, .null, .null, .null, .null, .null, .int 0, .null, .int 0, .null, .int 0, .int 0, .int 0, .int 0, .int 0, .int 0, .int 0, .int 0])), (q1, .inl (zac E 0, 2000, .inl (fun _ => 0))), (q2, .inl (zac E 0, 50, .inl (fun _ => 0))), (q3, .inl (zac E 0, 2000, .inl (fun _ => 0))), (q4, .inl (zac E 0, 100, .inl (fun _ => 0))), (q5, .inl (zac E 0, 300, .inl (fun _ => 0))), (q6, .inl (zac E 0, 100, .inl (fun _ => 0))), (q7, .inl (zac E 1, 8, .inl (fun _ => 0))), (q8, .inl (zac E 0, 8, .inl (fun _ => 0))), (q9, .inl (zac E 0, 8, .inl (fun _ => 0))), (q10, .inl (zac E 1, 8, .inl (fun _ => 0))), (q11, .inl (zac E 0, 12, .inl (fun _ => 0))), (q12, .inl (zac E 0, 12, .inl (fun _ => 0)))]) rfl ?_
  refine b_putF (pc := 112) (ws' := [(h0, .inr (8, [.int 0, .ref q1, .int 0, .int 0, .int 0, .int 130, .int 0, .int 1, .int 0, .int 0, .ref q2, .int 0, .int 0, .ref q3, .int 0, .ref q4, .ref q5, .ref q6, .ref q7, .ref q8, .ref q9, .ref q10, .int 0, .ref q11, .ref q12, .null, .null, .null, .null, .int 0, .null, .int 0, .null, .int 0, .int 0, .int 0, .int 0, .int 0, .int 0, .int 0, .int 0])), (q1, .inl (zac E 0, 2000, .inl (fun _ => 0))), (q2, .inl (zac E 0, 50, .inl (fun _ => 0))), (q3, .inl (zac E 0, 2000, .inl (fun _ => 0))), (q4, .inl (zac E 0, 100, .inl (fun _ => 0))), (q5, .inl (zac E 0, 300, .inl (fun _ => 0))), (q6, .inl (zac E 0, 100, .inl (fun _ => 0))), (q7, .inl (zac E 1, 8, .inl (fun _ => 0))), (q8, .inl (zac E 0, 8, .inl (fun _ => 0))), (q9, .inl (zac E 0, 8, .inl (fun _ => 0))), (q10, .inl (zac E 1, 8, .inl (fun _ => 0))), (q11, .inl (zac E 0, 12, .inl (fun _ => 0))), (q12, .inl (zac E 0, 12, .inl (fun _ => 0)))]) C K_X8 0 24 hin rfl rfl (by decide) lb_f_X8_51 rfl rfl rfl rfl (Nat.le_of_ble_eq_true rfl) rfl dX8_init_112 ?_
  refine b_aload_n (pc := 115) C dX8_init_115 rfl ?_
  refine b_bipush (pc := 116) (v := 12) C dX8_init_116 (by decide) ?_
  refine b_newa (pc := 118) (atype := .int) (tf := .int) (N' := 12) (t0 := 0) (a0 := (12, .inl (fun _ => 0))) (cx2 := 13) (sx2 := 4618) C lb_ac_int rfl rfl (fun _ => rfl) (by decide) (by decide) (by decide) (by decide) (by decide) rfl rfl dX8_init_118 (fun q13 => ?_)
  refine b_ws (ws' := [(h0, .inr (8, [.int 0, .ref q1, .int 0, .int 0, .int 0, .int 130, .int 0, .int 1, .int 0, .int 0, .ref q2, .int 0, .int 0, .ref q3, .int 0, .ref q4, .ref q5, .ref q6, .ref q7, .ref q8, .ref q9, .ref q10, .int 0, .ref q11, .ref q12, .null, .null, .null, .null, .int 0, .null, .int 0, .null, .int 0, .int 0, .int 0, .int 0, .int 0, .int 0, .int 0, .int 0])), (q1, .inl (zac E 0, 2000, .inl (fun _ => 0))), (q2, .inl (zac E 0, 50, .inl (fun _ => 0))), (q3, .inl (zac E 0, 2000, .inl (fun _ => 0))), (q4, .inl (zac E 0, 100, .inl (fun _ => 0))), (q5, .inl (zac E 0, 300, .inl (fun _ => 0))), (q6, .inl (zac E 0, 100, .inl (fun _ => 0))), (q7, .inl (zac E 1, 8, .inl (fun _ => 0))), (q8, .inl (zac E 0, 8, .inl (fun _ => 0))), (q9, .inl (zac E 0, 8, .inl (fun _ => 0))), (q10, .inl (zac E 1, 8, .inl (fun _ => 0))), (q11, .inl (zac E 0, 12, .inl (fun _ => 0))), (q12, .inl (zac E 0, 12, .inl (fun _ => 0))), (q13, .inl (zac E 0, 12, .inl (fun _ => 0)))]) rfl ?_
  refine b_putF (pc := 120) (ws' := [(h0, .inr (8, [.int 0, .ref q1, .int 0, .int 0, .int 0, .int 130, .int 0, .int 1, .int 0, .int 0, .ref q2, .int 0, .int 0, .ref q3, .int 0, .ref q4, .ref q5, .ref q6, .ref q7, .ref q8, .ref q9, .ref q10, .int 0, .ref q11, .ref q12, .ref q13, .null, .null, .null, .int 0, .null, .int 0, .null, .int 0, .int 0, .int 0, .int 0, .int 0, .int 0, .int 0, .int 0])), (q1, .inl (zac E 0, 2000, .inl (fun _ => 0))), (q2, .inl (zac E 0, 50, .inl (fun _ => 0))), (q3, .inl (zac E 0, 2000, .inl (fun _ => 0))), (q4, .inl (zac E 0, 100, .inl (fun _ => 0))), (q5, .inl (zac E 0, 300, .inl (fun _ => 0))), (q6, .inl (zac E 0, 100, .inl (fun _ => 0))), (q7, .inl (zac E 1, 8, .inl (fun _ => 0))), (q8, .inl (zac E 0, 8, .inl (fun _ => 0))), (q9, .inl (zac E 0, 8, .inl (fun _ => 0))), (q10, .inl (zac E 1, 8, .inl (fun _ => 0))), (q11, .inl (zac E 0, 12, .inl (fun _ => 0))), (q12, .inl (zac E 0, 12, .inl (fun _ => 0))), (q13, .inl (zac E 0, 12, .inl (fun _ => 0)))]) C K_X8 0 25 hin rfl rfl (by decide) lb_f_X8_54 rfl rfl rfl rfl (Nat.le_of_ble_eq_true rfl) rfl dX8_init_120 ?_
  refine b_aload_n (pc := 123) C dX8_init_123 rfl ?_
  refine b_bipush (pc := 124) (v := 12) C dX8_init_124 (by decide) ?_
  refine b_newa (pc := 126) (atype := .int) (tf := .int) (N' := 12) (t0 := 0) (a0 := (12, .inl (fun _ => 0))) (cx2 := 14) (sx2 := 4630) C lb_ac_int rfl rfl (fun _ => rfl) (by decide) (by decide) (by decide) (by decide) (by decide) rfl rfl dX8_init_126 (fun q14 => ?_)
  refine b_ws (ws' := [(h0, .inr (8, [.int 0, .ref q1, .int 0, .int 0, .int 0, .int 130, .int 0, .int 1, .int 0, .int 0, .ref q2, .int 0, .int 0, .ref q3, .int 0, .ref q4, .ref q5, .ref q6, .ref q7, .ref q8, .ref q9, .ref q10, .int 0, .ref q11, .ref q12, .ref q13, .null, .null, .null, .int 0, .null, .int 0, .null, .int 0, .int 0, .int 0, .int 0, .int 0, .int 0, .int 0, .int 0])), (q1, .inl (zac E 0, 2000, .inl (fun _ => 0))), (q2, .inl (zac E 0, 50, .inl (fun _ => 0))), (q3, .inl (zac E 0, 2000, .inl (fun _ => 0))), (q4, .inl (zac E 0, 100, .inl (fun _ => 0))), (q5, .inl (zac E 0, 300, .inl (fun _ => 0))), (q6, .inl (zac E 0, 100, .inl (fun _ => 0))), (q7, .inl (zac E 1, 8, .inl (fun _ => 0))), (q8, .inl (zac E 0, 8, .inl (fun _ => 0))), (q9, .inl (zac E 0, 8, .inl (fun _ => 0))), (q10, .inl (zac E 1, 8, .inl (fun _ => 0))), (q11, .inl (zac E 0, 12, .inl (fun _ => 0))), (q12, .inl (zac E 0, 12, .inl (fun _ => 0))), (q13, .inl (zac E 0, 12, .inl (fun _ => 0))), (q14, .inl (zac E 0, 12, .inl (fun _ => 0)))]) rfl ?_
  refine b_putF (pc := 128) (ws' := [(h0, .inr (8, [.int 0, .ref q1, .int 0, .int 0, .int 0, .int 130, .int 0, .int 1, .int 0, .int 0, .ref q2, .int 0, .int 0, .ref q3, .int 0, .ref q4, .ref q5, .ref q6, .ref q7, .ref q8, .ref q9, .ref q10, .int 0, .ref q11, .ref q12, .ref q13, .ref q14, .null, .null, .int 0, .null, .int 0, .null, .int 0, .int 0, .int 0, .int 0, .int 0, .int 0, .int 0, .int 0])), (q1, .inl (zac E 0, 2000, .inl (fun _ => 0))), (q2, .inl (zac E 0, 50, .inl (fun _ => 0))), (q3, .inl (zac E 0, 2000, .inl (fun _ => 0))), (q4, .inl (zac E 0, 100, .inl (fun _ => 0))), (q5, .inl (zac E 0, 300, .inl (fun _ => 0))), (q6, .inl (zac E 0, 100, .inl (fun _ => 0))), (q7, .inl (zac E 1, 8, .inl (fun _ => 0))), (q8, .inl (zac E 0, 8, .inl (fun _ => 0))), (q9, .inl (zac E 0, 8, .inl (fun _ => 0))), (q10, .inl (zac E 1, 8, .inl (fun _ => 0))), (q11, .inl (zac E 0, 12, .inl (fun _ => 0))), (q12, .inl (zac E 0, 12, .inl (fun _ => 0))), (q13, .inl (zac E 0, 12, .inl (fun _ => 0))), (q14, .inl (zac E 0, 12, .inl (fun _ => 0)))]) C K_X8 0 26 hin rfl rfl (by decide) lb_f_X8_57 rfl rfl rfl rfl (Nat.le_of_ble_eq_true rfl) rfl dX8_init_128 ?_
  refine b_aload_n (pc := 131) C dX8_init_131 rfl ?_
  refine b_sipush (pc := 132) (v := 180) C dX8_init_132 (by decide) ?_
  refine b_newa (pc := 135) (atype := .int) (tf := .int) (N' := 180) (t0 := 0) (a0 := (180, .inl (fun _ => 0))) (cx2 := 15) (sx2 := 4810) C lb_ac_int rfl rfl (fun _ => rfl) (by decide) (by decide) (by decide) (by decide) (by decide) rfl rfl dX8_init_135 (fun q15 => ?_)
  refine b_ws (ws' := [(h0, .inr (8, [.int 0, .ref q1, .int 0, .int 0, .int 0, .int 130, .int 0, .int 1, .int 0, .int 0, .ref q2, .int 0, .int 0, .ref q3, .int 0, .ref q4, .ref q5, .ref q6, .ref q7, .ref q8, .ref q9, .ref q10, .int 0, .ref q11, .ref q12, .ref q13, .ref q14, .null, .null, .int 0, .null, .int 0, .null, .int 0, .int 0, .int 0, .int 0, .int 0, .int 0, .int 0, .int 0])), (q1, .inl (zac E 0, 2000, .inl (fun _ => 0))), (q2, .inl (zac E 0, 50, .inl (fun _ => 0))), (q3, .inl (zac E 0, 2000, .inl (fun _ => 0))), (q4, .inl (zac E 0, 100, .inl (fun _ => 0))), (q5, .inl (zac E 0, 300, .inl (fun _ => 0))), (q6, .inl (zac E 0, 100, .inl (fun _ => 0))), (q7, .inl (zac E 1, 8, .inl (fun _ => 0))), (q8, .inl (zac E 0, 8, .inl (fun _ => 0))), (q9, .inl (zac E 0, 8, .inl (fun _ => 0))), (q10, .inl (zac E 1, 8, .inl (fun _ => 0))), (q11, .inl (zac E 0, 12, .inl (fun _ => 0))), (q12, .inl (zac E 0, 12, .inl (fun _ => 0))), (q13, .inl (zac E 0, 12, .inl (fun _ => 0))), (q14, .inl (zac E 0, 12, .inl (fun _ => 0))), (q15, .inl (zac E 0, 180, .inl (fun _ => 0)))]) rfl ?_
  refine b_putF (pc := 137) (ws' := [(h0, .inr (8, [.int 0, .ref q1, .int 0, .int 0, .int 0, .int 130, .int 0, .int 1, .int 0, .int 0, .ref q2, .int 0, .int 0, .ref q3, .int 0, .ref q4, .ref q5, .ref q6, .ref q7, .ref q8, .ref q9, .ref q10, .int 0, .ref q11, .ref q12, .ref q13, .ref q14, .ref q15, .null, .int 0, .null, .int 0, .null, .int 0, .int 0, .int 0, .int 0, .int 0, .int 0, .int 0, .int 0])), (q1, .inl (zac E 0, 2000, .inl (fun _ => 0))), (q2, .inl (zac E 0, 50, .inl (fun _ => 0))), (q3, .inl (zac E 0, 2000, .inl (fun _ => 0))), (q4, .inl (zac E 0, 100, .inl (fun _ => 0))), (q5, .inl (zac E 0, 300, .inl (fun _ => 0))), (q6, .inl (zac E 0, 100, .inl (fun _ => 0))), (q7, .inl (zac E 1, 8, .inl (fun _ => 0))), (q8, .inl (zac E 0, 8, .inl (fun _ => 0))), (q9, .inl (zac E 0, 8, .inl (fun _ => 0))), (q10, .inl (zac E 1, 8, .inl (fun _ => 0))), (q11, .inl (zac E 0, 12, .inl (fun _ => 0))), (q12, .inl (zac E 0, 12, .inl (fun _ => 0))), (q13, .inl (zac E 0, 12, .inl (fun _ => 0))), (q14, .inl (zac E 0, 12, .inl (fun _ => 0))), (q15, .inl (zac E 0, 180, .inl (fun _ => 0)))]) C K_X8 0 27 hin rfl rfl (by decide) lb_f_X8_60 rfl rfl rfl rfl (Nat.le_of_ble_eq_true rfl) rfl dX8_init_137 ?_
  refine b_aload_n (pc := 140) C dX8_init_140 rfl ?_
  refine b_bipush (pc := 141) (v := 100) C dX8_init_141 (by decide) ?_
  refine b_newa (pc := 143) (atype := .int) (tf := .int) (N' := 100) (t0 := 0) (a0 := (100, .inl (fun _ => 0))) (cx2 := 16) (sx2 := 4910) C lb_ac_int rfl rfl (fun _ => rfl) (by decide) (by decide) (by decide) (by decide) (by decide) rfl rfl dX8_init_143 (fun q16 => ?_)
  refine b_ws (ws' := [(h0, .inr (8, [.int 0, .ref q1, .int 0, .int 0, .int 0, .int 130, .int 0, .int 1, .int 0, .int 0, .ref q2, .int 0, .int 0, .ref q3, .int 0, .ref q4, .ref q5, .ref q6, .ref q7, .ref q8, .ref q9, .ref q10, .int 0, .ref q11, .ref q12, .ref q13, .ref q14, .ref q15, .null, .int 0, .null, .int 0, .null, .int 0, .int 0, .int 0, .int 0, .int 0, .int 0, .int 0, .int 0])), (q1, .inl (zac E 0, 2000, .inl (fun _ => 0))), (q2, .inl (zac E 0, 50, .inl (fun _ => 0))), (q3, .inl (zac E 0, 2000, .inl (fun _ => 0))), (q4, .inl (zac E 0, 100, .inl (fun _ => 0))), (q5, .inl (zac E 0, 300, .inl (fun _ => 0))), (q6, .inl (zac E 0, 100, .inl (fun _ => 0))), (q7, .inl (zac E 1, 8, .inl (fun _ => 0))), (q8, .inl (zac E 0, 8, .inl (fun _ => 0))), (q9, .inl (zac E 0, 8, .inl (fun _ => 0))), (q10, .inl (zac E 1, 8, .inl (fun _ => 0))), (q11, .inl (zac E 0, 12, .inl (fun _ => 0))), (q12, .inl (zac E 0, 12, .inl (fun _ => 0))), (q13, .inl (zac E 0, 12, .inl (fun _ => 0))), (q14, .inl (zac E 0, 12, .inl (fun _ => 0))), (q15, .inl (zac E 0, 180, .inl (fun _ => 0))), (q16, .inl (zac E 0, 100, .inl (fun _ => 0)))]) rfl ?_
  refine b_putF (pc := 145) (ws' := [(h0, .inr (8, [.int 0, .ref q1, .int 0, .int 0, .int 0, .int 130, .int 0, .int 1, .int 0, .int 0, .ref q2, .int 0, .int 0, .ref q3, .int 0, .ref q4, .ref q5, .ref q6, .ref q7, .ref q8, .ref q9, .ref q10, .int 0, .ref q11, .ref q12, .ref q13, .ref q14, .ref q15, .ref q16, .int 0, .null, .int 0, .null, .int 0, .int 0, .int 0, .int 0, .int 0, .int 0, .int 0, .int 0])), (q1, .inl (zac E 0, 2000, .inl (fun _ => 0))), (q2, .inl (zac E 0, 50, .inl (fun _ => 0))), (q3, .inl (zac E 0, 2000, .inl (fun _ => 0))), (q4, .inl (zac E 0, 100, .inl (fun _ => 0))), (q5, .inl (zac E 0, 300, .inl (fun _ => 0))), (q6, .inl (zac E 0, 100, .inl (fun _ => 0))), (q7, .inl (zac E 1, 8, .inl (fun _ => 0))), (q8, .inl (zac E 0, 8, .inl (fun _ => 0))), (q9, .inl (zac E 0, 8, .inl (fun _ => 0))), (q10, .inl (zac E 1, 8, .inl (fun _ => 0))), (q11, .inl (zac E 0, 12, .inl (fun _ => 0))), (q12, .inl (zac E 0, 12, .inl (fun _ => 0))), (q13, .inl (zac E 0, 12, .inl (fun _ => 0))), (q14, .inl (zac E 0, 12, .inl (fun _ => 0))), (q15, .inl (zac E 0, 180, .inl (fun _ => 0))), (q16, .inl (zac E 0, 100, .inl (fun _ => 0)))]) C K_X8 0 28 hin rfl rfl (by decide) lb_f_X8_63 rfl rfl rfl rfl (Nat.le_of_ble_eq_true rfl) rfl dX8_init_145 ?_
  refine b_aload_n (pc := 148) C dX8_init_148 rfl ?_
  refine b_bipush (pc := 149) (v := 120) C dX8_init_149 (by decide) ?_
  refine b_newa (pc := 151) (atype := .int) (tf := .int) (N' := 120) (t0 := 0) (a0 := (120, .inl (fun _ => 0))) (cx2 := 17) (sx2 := 5030) C lb_ac_int rfl rfl (fun _ => rfl) (by decide) (by decide) (by decide) (by decide) (by decide) rfl rfl dX8_init_151 (fun q17 => ?_)
  refine b_ws (ws' := [(h0, .inr (8, [.int 0, .ref q1, .int 0, .int 0, .int 0, .int 130, .int 0, .int 1, .int 0, .int 0, .ref q2, .int 0, .int 0, .ref q3, .int 0, .ref q4, .ref q5, .ref q6, .ref q7, .ref q8, .ref q9, .ref q10, .int 0, .ref q11, .ref q12, .ref q13, .ref q14, .ref q15, .ref q16, .int 0, .null, .int 0, .null, .int 0, .int 0, .int 0, .int 0, .int 0, .int 0, .int 0, .int 0])), (q1, .inl (zac E 0, 2000, .inl (fun _ => 0))), (q2, .inl (zac E 0, 50, .inl (fun _ => 0))), (q3, .inl (zac E 0, 2000, .inl (fun _ => 0))), (q4, .inl (zac E 0, 100, .inl (fun _ => 0))), (q5, .inl (zac E 0, 300, .inl (fun _ => 0))), (q6, .inl (zac E 0, 100, .inl (fun _ => 0))), (q7, .inl (zac E 1, 8, .inl (fun _ => 0))), (q8, .inl (zac E 0, 8, .inl (fun _ => 0))), (q9, .inl (zac E 0, 8, .inl (fun _ => 0))), (q10, .inl (zac E 1, 8, .inl (fun _ => 0))), (q11, .inl (zac E 0, 12, .inl (fun _ => 0))), (q12, .inl (zac E 0, 12, .inl (fun _ => 0))), (q13, .inl (zac E 0, 12, .inl (fun _ => 0))), (q14, .inl (zac E 0, 12, .inl (fun _ => 0))), (q15, .inl (zac E 0, 180, .inl (fun _ => 0))), (q16, .inl (zac E 0, 100, .inl (fun _ => 0))), (q17, .inl (zac E 0, 120, .inl (fun _ => 0)))]) rfl ?_
  refine b_putF (pc := 153) (ws' := [(h0, .inr (8, [.int 0, .ref q1, .int 0, .int 0, .int 0, .int 130, .int 0, .int 1, .int 0, .int 0, .ref q2, .int 0, .int 0, .ref q3, .int 0, .ref q4, .ref q5, .ref q6, .ref q7, .ref q8, .ref q9, .ref q10, .int 0, .ref q11, .ref q12, .ref q13, .ref q14, .ref q15, .ref q16, .int 0, .ref q17, .int 0, .null, .int 0, .int 0, .int 0, .int 0, .int 0, .int 0, .int 0, .int 0])), (q1, .inl (zac E 0, 2000, .inl (fun _ => 0))), (q2, .inl (zac E 0, 50, .inl (fun _ => 0))), (q3, .inl (zac E 0, 2000, .inl (fun _ => 0))), (q4, .inl (zac E 0, 100, .inl (fun _ => 0))), (q5, .inl (zac E 0, 300, .inl (fun _ => 0))), (q6, .inl (zac E 0, 100, .inl (fun _ => 0))), (q7, .inl (zac E 1, 8, .inl (fun _ => 0))), (q8, .inl (zac E 0, 8, .inl (fun _ => 0))), (q9, .inl (zac E 0, 8, .inl (fun _ => 0))), (q10, .inl (zac E 1, 8, .inl (fun _ => 0))), (q11, .inl (zac E 0, 12, .inl (fun _ => 0))), (q12, .inl (zac E 0, 12, .inl (fun _ => 0))), (q13, .inl (zac E 0, 12, .inl (fun _ => 0))), (q14, .inl (zac E 0, 12, .inl (fun _ => 0))), (q15, .inl (zac E 0, 180, .inl (fun _ => 0))), (q16, .inl (zac E 0, 100, .inl (fun _ => 0))), (q17, .inl (zac E 0, 120, .inl (fun _ => 0)))]) C K_X8 0 30 hin rfl rfl (by decide) lb_f_X8_66 rfl rfl rfl rfl (Nat.le_of_ble_eq_true rfl) rfl dX8_init_153 ?_
  refine b_aload_n (pc := 156) C dX8_init_156 rfl ?_
  refine b_bipush (pc := 157) (v := 8) C dX8_init_157 (by decide) ?_
  refine b_newa (pc := 159) (atype := .int) (tf := .int) (N' := 8) (t0 := 0) (a0 := (8, .inl (fun _ => 0))) (cx2 := 18) (sx2 := 5038) C lb_ac_int rfl rfl (fun _ => rfl) (by decide) (by decide) (by decide) (by decide) (by decide) rfl rfl dX8_init_159 (fun q18 => ?_)
  refine b_ws (ws' := [(h0, .inr (8, [.int 0, .ref q1, .int 0, .int 0, .int 0, .int 130, .int 0, .int 1, .int 0, .int 0, .ref q2, .int 0, .int 0, .ref q3, .int 0, .ref q4, .ref q5, .ref q6, .ref q7, .ref q8, .ref q9, .ref q10, .int 0, .ref q11, .ref q12, .ref q13, .ref q14, .ref q15, .ref q16, .int 0, .ref q17, .int 0, .null, .int 0, .int 0, .int 0, .int 0, .int 0, .int 0, .int 0, .int 0])), (q1, .inl (zac E 0, 2000, .inl (fun _ => 0))), (q2, .inl (zac E 0, 50, .inl (fun _ => 0))), (q3, .inl (zac E 0, 2000, .inl (fun _ => 0))), (q4, .inl (zac E 0, 100, .inl (fun _ => 0))), (q5, .inl (zac E 0, 300, .inl (fun _ => 0))), (q6, .inl (zac E 0, 100, .inl (fun _ => 0))), (q7, .inl (zac E 1, 8, .inl (fun _ => 0))), (q8, .inl (zac E 0, 8, .inl (fun _ => 0))), (q9, .inl (zac E 0, 8, .inl (fun _ => 0))), (q10, .inl (zac E 1, 8, .inl (fun _ => 0))), (q11, .inl (zac E 0, 12, .inl (fun _ => 0))), (q12, .inl (zac E 0, 12, .inl (fun _ => 0))), (q13, .inl (zac E 0, 12, .inl (fun _ => 0))), (q14, .inl (zac E 0, 12, .inl (fun _ => 0))), (q15, .inl (zac E 0, 180, .inl (fun _ => 0))), (q16, .inl (zac E 0, 100, .inl (fun _ => 0))), (q17, .inl (zac E 0, 120, .inl (fun _ => 0))), (q18, .inl (zac E 0, 8, .inl (fun _ => 0)))]) rfl ?_
  refine b_putF (pc := 161) (ws' := [(h0, .inr (8, [.int 0, .ref q1, .int 0, .int 0, .int 0, .int 130, .int 0, .int 1, .int 0, .int 0, .ref q2, .int 0, .int 0, .ref q3, .int 0, .ref q4, .ref q5, .ref q6, .ref q7, .ref q8, .ref q9, .ref q10, .int 0, .ref q11, .ref q12, .ref q13, .ref q14, .ref q15, .ref q16, .int 0, .ref q17, .int 0, .ref q18, .int 0, .int 0, .int 0, .int 0, .int 0, .int 0, .int 0, .int 0])), (q1, .inl (zac E 0, 2000, .inl (fun _ => 0))), (q2, .inl (zac E 0, 50, .inl (fun _ => 0))), (q3, .inl (zac E 0, 2000, .inl (fun _ => 0))), (q4, .inl (zac E 0, 100, .inl (fun _ => 0))), (q5, .inl (zac E 0, 300, .inl (fun _ => 0))), (q6, .inl (zac E 0, 100, .inl (fun _ => 0))), (q7, .inl (zac E 1, 8, .inl (fun _ => 0))), (q8, .inl (zac E 0, 8, .inl (fun _ => 0))), (q9, .inl (zac E 0, 8, .inl (fun _ => 0))), (q10, .inl (zac E 1, 8, .inl (fun _ => 0))), (q11, .inl (zac E 0, 12, .inl (fun _ => 0))), (q12, .inl (zac E 0, 12, .inl (fun _ => 0))), (q13, .inl (zac E 0, 12, .inl (fun _ => 0))), (q14, .inl (zac E 0, 12, .inl (fun _ => 0))), (q15, .inl (zac E 0, 180, .inl (fun _ => 0))), (q16, .inl (zac E 0, 100, .inl (fun _ => 0))), (q17, .inl (zac E 0, 120, .inl (fun _ => 0))), (q18, .inl (zac E 0, 8, .inl (fun _ => 0)))]) C K_X8 0 32 hin rfl rfl (by decide) lb_f_X8_69 rfl rfl rfl rfl (Nat.le_of_ble_eq_true rfl) rfl dX8_init_161 ?_
  exact fin 164 _ _ [q1, q2, q3, q4, q5, q6, q7, q8, q9, q10, q11, q12, q13, q14, q15, q16, q17, q18] [0, 1, 2, 3, 4, 5, 6, 7, 8, 9, 10, 11, 12, 13, 14, 15, 16, 17, 18] dX8_init_164 rfl (by decide) rfl
end
