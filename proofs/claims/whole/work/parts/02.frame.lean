/-! contracts over a heap that is a parameter; outcome returned or threw -/
section MXA
/-- y, called with the values 'as' in the heap H (tables warmer than s0's), ends as Q says; it writes old cells that F names alone -/
def Mx (l : Launch) (s0 : State) (y : MethodName) (cw : Cond) (rm : Room) (as : List Value) (H : Heap) (F : Nat → Prop) (Q : Outcome → Heap → Prop) : Prop :=
  MetFree l y (headSpec [cw] rm) (fun a U => a = as.toArray ∧ U.heap = H ∧ s0.WarmedH U.vm) (fun _ _ _ _ _ => True)
    (fun _ st o t => Q o t.heap ∧ st.WarmedH t.vm ∧ ∃ L, st.sameButNew ({ t with vm := st.vm } : State) L rm.cells rm.slots ∧ ∀ q ∈ L, F q.base)
/-- what a body owes at its end -/
def MQx (below : List Frame) (Q : Outcome → Heap → Prop) (s : State) (mc ms : Nat) (F : Nat → Prop) : State → Prop := fun t =>
  ∃ o, t.status = .running ∧ Ended t below o ∧ Q o t.heap ∧ s.WarmedH t.vm ∧ ∃ L, s.sameButNew ({ t with vm := s.vm } : State) L mc ms ∧ ∀ q ∈ L, F q.base
/-- what a body knows of its machine -/
def Bx (p : Program) (s0 s : State) (m : MethodId) (meth : Method) (c : Code) (cc : ByteArray) (maxL : Nat) (ret : Option FieldType) (own : String) : Prop :=
  p.tables.exec = Jvm.exec ∧ c.code = cc ∧ c.maxLocals = maxL ∧ meth.sig.returnType = ret ∧ s.vm.findClass own = some m.cls ∧ s0.WarmedH s.vm ∧ meth.locks = false
theorem mx_hh {s s1 : State} {fs : List Frame} (h : s1 = s.setFrames fs) : s1.heap = s.heap := by rw [h]; rfl
variable {l : Launch} {s0 : State} {y : MethodName} {rm : Room} {as : List Value} {H : Heap} {F : Nat → Prop} {Q : Outcome → Heap → Prop}
theorem Mx.ofW {cc : ByteArray} {maxL : Nat} {ret : Option FieldType} {own : String} (hy : plainName y.cls = true) (ho : y.cls = own)
    (body : ∀ p e s m below meth c, Bx p s0 s m meth c cc maxL ret own → (meth.name = y.name) → c.exceptionTable.toList = [] → s.heap = H →
      W p l e rm s m as.toArray below meth c H [] 0 0 (MQx below Q s rm.cells rm.slots F) (entryFrame m as.toArray maxL)) : Mx l s0 y (.code y cc maxL ret) rm as H F Q := by
  refine MetFree.of_bodyS (code := cc) (maxLocals := maxL) (ret := ret) hy ?_ ?_
  · intro args s m h hn
    obtain ⟨meth, c, h1, h2, h3, h4, h5, h6, -, -⟩ := Cond.code_spec hn (atoms_spec (ws := [.code y cc maxL ret]) h _ List.mem_cons_self)
    exact ⟨meth, c, h1, h2, h3, h4, h5, h6⟩
  · intro p e s m args below meth c s₁ B hml hP _
    obtain ⟨rfl, hH, hW⟩ := hP
    have hh0 : s₁.heap = s.heap := by rw [B.state]; rfl
    have hcd := atoms_spec (ws := [.code y cc maxL ret]) B.pre _ List.mem_cons_self
    obtain ⟨meth', c', hm', hc', -, -, -, -, he', -⟩ := Cond.code_spec B.named hcd
    cases B.method.symm.trans hm'
    cases (Stand.of_body B).code.symm.trans hc'
    have het : c.exceptionTable.toList = [] := by rw [Array.isEmpty_iff.mp he']
    have hown : s.vm.findClass own = some m.cls := by rw [← ho]; exact findClass_of_methodNamed B.named
    obtain ⟨t, a1, o, b1, b2, b3⟩ := body p e s m below meth c ⟨B.exec, B.bytes, hml, B.returns, hown, hW, B.notSynchronized⟩ ((name_of_methodNamed B.named B.method).1) het hH s₁ (hh0.trans hH) (Stand.of_body B)
    exact ⟨t, o, a1, b1, b2, b3⟩
theorem Mx.ofWH {cc : ByteArray} {maxL : Nat} {ret : Option FieldType} {own : String} {hh : List (Nat × Nat × Nat × Nat)} (hy : plainName y.cls = true) (ho : y.cls = own)
    (body : ∀ p e s m below meth c, Bx p s0 s m meth c cc maxL ret own → c.exceptionTable.toList = tableOf hh → s.heap = H →
      W p l e rm s m as.toArray below meth c H [] 0 0 (MQx below Q s rm.cells rm.slots F) (entryFrame m as.toArray maxL)) : Mx l s0 y (.codeWith y cc maxL ret hh) rm as H F Q := by
  refine MetFree.of_bodyS (code := cc) (maxLocals := maxL) (ret := ret) hy ?_ ?_
  · intro args s m h hn
    obtain ⟨m9, meth, c, hn9, h1, h2, h3, h4, -, h5, h6, -⟩ := Cond.codeWith_spec (atoms_spec (ws := [.codeWith y cc maxL ret hh]) h _ List.mem_cons_self)
    cases Option.some.inj (hn9.symm.trans hn)
    exact ⟨meth, c, h1, h2, h3, h4, h5, h6⟩
  · intro p e s m args below meth c s₁ B hml hP _
    obtain ⟨rfl, hH, hW⟩ := hP
    have hh0 : s₁.heap = s.heap := by rw [B.state]; rfl
    have hcd := atoms_spec (ws := [.codeWith y cc maxL ret hh]) B.pre _ List.mem_cons_self
    obtain ⟨m9, meth9, c9, hn9, h1, h2, -, -, h6, -⟩ := Cond.codeWith_spec hcd
    cases Option.some.inj (hn9.symm.trans B.named)
    cases Option.some.inj (h1.symm.trans B.method)
    cases Option.some.inj (h2.symm.trans (Stand.of_body B).code)
    have het : c.exceptionTable.toList = tableOf hh := by rw [← h6, table_eq]
    have hown : s.vm.findClass own = some m.cls := by rw [← ho]; exact findClass_of_methodNamed B.named
    obtain ⟨t, a1, o, b1, b2, b3⟩ := body p e s m below meth c ⟨B.exec, B.bytes, hml, B.returns, hown, hW, B.notSynchronized⟩ het hH s₁ (hh0.trans hH) (Stand.of_body B)
    exact ⟨t, o, a1, b1, b2, b3⟩
end MXA
section MXB
variable {p : Program} {l : Launch} {e : Env} {R : Room} {s : State} {m : MethodId} {args : Array Value} {below : List Frame} {meth : Method} {c : Code} {H : Heap} {locs : List Loc} {cells slots : Nat} {s0 : State}
/-- a cell that isn't written stays -/
theorem mx_frame {L : List Loc} {U : State} {k n : Nat} (h : s.sameButNew ({ U with vm := s.vm } : State) L k n) : s.heap.size ≤ U.heap.size ∧ ∀ q : Nat, q < s.heap.size → (∀ z ∈ L, z.base ≠ q) → U.heap[q]? = s.heap[q]? := by
  obtain ⟨-, h2, -, -, -, h6⟩ := h
  refine ⟨h2, fun q hq hz => ?_⟩
  obtain ⟨c9, e1, e2, e3, e4⟩ := h6 q _ (Array.getElem?_eq_getElem hq)
  have hs : c9.slots = (s.heap[q]).slots := Array.ext_getElem? fun i => e4 i fun hm => hz _ hm rfl
  have h9 : c9 = s.heap[q] := by
    rw [hs] at e2
    exact e2
  have e5 : U.heap[q]? = some c9 := e1
  rw [e5, h9, Array.getElem?_eq_getElem hq]
/-- where a call lands -/
def mx_land (g : JFrame) (len : Nat) (U : State) : Outcome → State
  | .returned v => U.setTop { g with pc := g.pc + len, stack := v.toList ++ g.stack }
  | .threw q => (U.setTop g).pushFrame (.throwing q)
/-- an invoking instruction comes to the invocation of y with the values 'as', g: the frame with these popped -/
def mx_Inv (p : Program) (l : Launch) (e : Env) (R : Room) (s : State) (m : MethodId) (args : Array Value) (below : List Frame) (meth : Method) (c : Code) (T : State) (locs : List Loc) (cells slots : Nat) (g0 g : JFrame) (y : MethodName) (as : List Value) : Prop :=
  ∃ (vm₁ : Vm) (mk : MethodId), Stand p l e R s m args below meth c (T.setVm vm₁) locs cells slots ∧ (T.setVm vm₁).methodNamed? y = some mk ∧
    ∀ target, (∀ acts, Steps p.tables e below (doInvoke e ((T.setVm vm₁).setTop g) acts mk as.toArray).1 target) → Steps p.tables e below (T.setTop g0) target
/-- the callee comes back, or throws -/
theorem mx_back {T : State} {g : JFrame} {ig : Instr} {len W9 maxL : Nat} {y : MethodName} {cw : Cond} {rm : Room} {as : List Value} {F : Nat → Prop} {Q : Outcome → Heap → Prop} {mk : MethodId}
    (hM : Mx l s0 y cw rm as H F Q) (hT : T.heap = H) (X : Stand p l e R s m args below meth c T locs cells slots) (hW0 : s0.WarmedH s.vm) (hg : g.method = m) (hsize : g.locals.size = c.maxLocals) (hdg : decode c.code g.pc = .ok (ig, len))
    (hcw : cw.before as.toArray T = true) (hcd : ∀ mY, T.methodNamed? y = some mY → ∃ methY cY, T.vm.method? mY = some methY ∧ methY.code = some cY ∧ cY.maxLocals = maxL) (hini : (Cond.initialized y.cls).before as.toArray T = true)
    (hframes : rm.frames + 1 ≤ R.frames) (hlocals : W9 + (maxL + 11) + rm.locals ≤ R.locals) (hc : cells + rm.cells ≤ R.cells) (hs : slots + rm.slots ≤ R.slots)
    (hW : 2 * g.monitorRoom + (g.stack.map fun v => v.category).sum ≤ W9) (hn : T.methodNamed? y = some mk) :
    ∃ (o : Outcome) (U : State) (L : List Loc), Stand p l e R s m args below meth c U (locs ++ L) (cells + rm.cells) (slots + rm.slots) ∧ Q o U.heap ∧ (∀ q ∈ L, F q.base) ∧ H.size ≤ U.heap.size ∧ (∀ q : Nat, q < H.size → ¬ F q → U.heap[q]? = H[q]?) ∧
      Steps p.tables e below (doInvoke e (T.setTop g) [] mk as.toArray).1 (mx_land g len U o) := by
  have h1 : (headSpec [cw] rm).pre.before as.toArray T = true := atoms_intro fun w hw => by rw [List.mem_singleton.mp hw]; exact hcw
  obtain ⟨methY, cY, hmY, hcY, hlY⟩ := hcd mk hn
  obtain ⟨kY, hkY, -⟩ := className_of_methodNamed hn
  have hinitY : kY.init = .initialized := Cond.initialized_spec (findClass_of_methodNamed hn) hkY hini
  have h : At T g.method c below := by rw [hg]; exact X.here
  have happ : (headSpec [cw] rm).appliesLoose y e.platform (T.calling g mk as.toArray) = true :=
    Spec.appliesLoose_calling (g := g) h hdg hn hkY hinitY
      (X.room_calling (g := g) (R' := (headSpec [cw] rm).room) hsize hmY hcY hframes (by rw [hlY]; show _ + rm.locals ≤ _; omega) hc hs) h1
  obtain ⟨mid, hmid⟩ := h.above
  have hfr : (T.setTop g).frames = (.java g :: mid) ++ below := by rw [State.frames_setTop' g h.top, hmid]; rfl
  obtain ⟨o, s₂, hsteps, -, hend, hq, hW₂, L, hsm, hL⟩ := Steps.callFree hM p X.admits X.cas X.clock (acts := []) hfr happ ⟨rfl, hT, State.WarmedH.trans hW0 X.warmed⟩ trivial
  rw [State.frames_setTop' g h.top] at hend
  obtain ⟨g₀, hg0⟩ := Option.isSome_iff_exists.mp h.top
  obtain ⟨r, hr⟩ := State.topJava?_eq_some.mp hg0
  have hr' : (({ T with heap := s₂.heap, slotsUsed := s₂.slotsUsed } : State).setVm s₂.vm).frames = .java g₀ :: r := hr
  have hW' : T.WarmedH s₂.vm := hW₂
  have hfrm := mx_frame (s := T.calling g mk as.toArray) (U := s₂) hsm
  have hTH : (T.calling g mk as.toArray).heap = H := hT
  rw [hTH] at hfrm
  obtain ⟨e2, q2, q3, q4, q5, q6⟩ := hsm
  have e3 : s₂ = ({ (T.calling g mk as.toArray).setFrames s₂.frames with heap := s₂.heap, slotsUsed := s₂.slotsUsed } : State).setVm s₂.vm := by
    have : s₂ = ({ s₂ with vm := (T.calling g mk as.toArray).vm } : State).setVm s₂.vm := rfl
    have e2' : ({ s₂ with vm := (T.calling g mk as.toArray).vm } : State) = { (T.calling g mk as.toArray).setFrames s₂.frames with heap := s₂.heap, slotsUsed := s₂.slotsUsed } := e2
    rw [e2'] at this
    exact this
  have hsame : T.sameButNew ({ T with heap := s₂.heap, slotsUsed := s₂.slotsUsed } : State) L rm.cells rm.slots := by
    refine ⟨?_, q2, q3, q4, q5, q6⟩
    obtain ⟨t, ht, -⟩ := State.frames_cons hr
    show ({ T with heap := s₂.heap, slotsUsed := s₂.slotsUsed } : State) = { T.setFrames T.frames with heap := s₂.heap, slotsUsed := s₂.slotsUsed }
    rw [State.setFrames_self ht]
  subst hg
  refine ⟨o, (({ T with heap := s₂.heap, slotsUsed := s₂.slotsUsed } : State).setVm s₂.vm), L,
    ⟨X.admits, X.cas, X.clock, X.frames, X.room, X.hears, X.method, X.code, (X.here.setHeapUsed s₂.heap s₂.slotsUsed).setVm hW'.alike, X.tail, State.WarmedH.trans X.warmed hW', X.limits, X.bytes, X.same.trans (hsame.setVm s.vm)⟩, hq, hL, hfrm.1, fun q hq1 hq2 => hfrm.2 q hq1 (fun z hz hzq => hq2 (hzq ▸ hL z hz)), ?_⟩
  cases o with
  | returned v =>
    obtain ⟨c₂, i₂, len₂, hc₂, hd₂, hf₂⟩ := hend
    have hcc : c₂ = c := by
      have h1 : s₂.code? g.method = T.code? g.method := by
        rw [State.code?_eq, State.code?_eq, hW'.alike.method?]
      exact Option.some.inj (hc₂.symm.trans (h1.trans h.code))
    subst hcc
    have hlen : len₂ = len := by rw [hdg] at hd₂; cases hd₂; rfl
    subst hlen
    have hs₂ : s₂ = (({ T with heap := s₂.heap, slotsUsed := s₂.slotsUsed } : State).setVm s₂.vm).setTop { g with pc := g.pc + len₂, stack := v.toList ++ g.stack } := by
      refine e3.trans ?_
      rw [hf₂, State.calling_eq h.top, State.setFrames_setFrames, State.setTop_of_frames _ hr', hr]
      rfl
    show Steps p.tables e below _ ((({ T with heap := s₂.heap, slotsUsed := s₂.slotsUsed } : State).setVm s₂.vm).setTop { g with pc := g.pc + len₂, stack := v.toList ++ g.stack })
    rw [← hs₂]
    exact hsteps
  | threw q =>
    have hf₂ : s₂.frames = .throwing q :: .java g :: T.frames.tail := hend
    have hs₂ : s₂ = ((({ T with heap := s₂.heap, slotsUsed := s₂.slotsUsed } : State).setVm s₂.vm).setTop g).pushFrame (.throwing q) := by
      refine e3.trans ?_
      rw [hf₂, State.calling_eq h.top, State.setFrames_setFrames, State.pushFrame, State.frames_setTop _ hr', State.setTop_of_frames _ hr', State.setFrames_setFrames, hr]
      rfl
    show Steps p.tables e below _ (((({ T with heap := s₂.heap, slotsUsed := s₂.slotsUsed } : State).setVm s₂.vm).setTop g).pushFrame (.throwing q))
    rw [← hs₂]
    exact hsteps
/-- an exception q is on its way at the frame g -/
def Wt (p : Program) (l : Launch) (e : Env) (R : Room) (s : State) (m : MethodId) (args : Array Value) (below : List Frame) (meth : Method) (c : Code) (H : Heap) (locs : List Loc) (cells slots : Nat) (Z : State → Prop) (g : JFrame) (q : Addr) : Prop :=
  ∀ T : State, T.heap = H → Stand p l e R s m args below meth c T locs cells slots → ∃ t, Steps p.tables e below ((T.setTop g).pushFrame (.throwing q)) t ∧ Z t
end MXB
