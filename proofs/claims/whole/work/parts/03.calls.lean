section MXC
variable {p : Program} {l : Launch} {e : Env} {R : Room} {s : State} {m : MethodId} {args : Array Value} {below : List Frame} {meth : Method} {c : Code} {H : Heap} {locs : List Loc} {cells slots : Nat} {s0 : State} {T : State}
/-- the callee's descriptor has n parameters; it is no method handle's -/
def mx_N (y : MethodName) (n : Nat) : Prop := (y.cls ≠ "java/lang/invoke/MethodHandle" ∧ y.cls ≠ "java/lang/invoke/VarHandle") ∧ (parseMethodDescriptor y.desc).map (fun d => d.parameters.length) = some n
theorem mx_N.len {y : MethodName} {n : Nat} (h : mx_N y n) {sig : MethodDescriptor} (hs : parseMethodDescriptor y.desc = some sig) : n = sig.parameters.length := by
  have h2 := h.2
  rw [hs] at h2
  exact (Option.some.inj h2).symm
theorem mx_invS (X : Stand p l e R s m args below meth c T locs cells slots) (hexec : p.tables.exec = Jvm.exec) {own : String} {index n : Nat} {y : MethodName} {bytes : ByteArray} {maxL : Nat} {ret : Option FieldType}
    (hown : s.vm.findClass own = some m.cls) (hlink : (Cond.methodLink own index y).before args s = true) (hstat : (Cond.static y).before args s = true) (hinit : (Cond.initialized y.cls).before args s = true)
    (hcode : (Cond.code y bytes maxL ret).before args s = true) (hy : mx_N y n)
    {g : JFrame} (hg : g.method = m) {as rest : List Value} (hn : as.length = n)
    (hstack : g.stack = as.reverse ++ rest) (hdg : decode c.code g.pc = .ok (.invokestatic index, 3)) : mx_Inv p l e R s m args below meth c T locs cells slots g { g with stack := rest } y as := by
  obtain ⟨mk, hnamed⟩ := Cond.code_named hcode
  obtain ⟨methM, cM, hmethM, -, -, -, -, -, -, hsigM⟩ := Cond.code_spec hnamed hcode
  have hstatic : methM.isStatic = true := Cond.static_spec hnamed hmethM hstat
  obtain ⟨kP, hkP, -⟩ := className_of_methodNamed hnamed
  have hinitP : kP.init = .initialized := Cond.initialized_spec (findClass_of_methodNamed hnamed) hkP hinit
  obtain ⟨vm₁, X₁, hstep₁⟩ := X.invokestatic hexec hown hlink hnamed hmethM hstatic hkP hinitP hy.1 (g := g) hg (argsL := as) (rest := rest) (hn.trans (hy.len hsigM)) hstack hdg
  exact ⟨vm₁, mk, X₁, X₁.named hnamed, hstep₁⟩
theorem mx_invSW (X : Stand p l e R s m args below meth c T locs cells slots) (hexec : p.tables.exec = Jvm.exec) {own : String} {index n : Nat} {y : MethodName} {bytes : ByteArray} {maxL : Nat} {ret : Option FieldType} {hh : List (Nat × Nat × Nat × Nat)}
    (hown : s.vm.findClass own = some m.cls) (hlink : (Cond.methodLink own index y).before args s = true) (hstat : (Cond.static y).before args s = true) (hinit : (Cond.initialized y.cls).before args s = true)
    (hcode : (Cond.codeWith y bytes maxL ret hh).before args s = true) (hy : mx_N y n)
    {g : JFrame} (hg : g.method = m) {as rest : List Value} (hn : as.length = n)
    (hstack : g.stack = as.reverse ++ rest) (hdg : decode c.code g.pc = .ok (.invokestatic index, 3)) : mx_Inv p l e R s m args below meth c T locs cells slots g { g with stack := rest } y as := by
  obtain ⟨mk, methM, cM, hnamed, hmethM, -, -, -, -, -, -, hsigM⟩ := Cond.codeWith_spec hcode
  have hstatic : methM.isStatic = true := Cond.static_spec hnamed hmethM hstat
  obtain ⟨kP, hkP, -⟩ := className_of_methodNamed hnamed
  have hinitP : kP.init = .initialized := Cond.initialized_spec (findClass_of_methodNamed hnamed) hkP hinit
  obtain ⟨vm₁, X₁, hstep₁⟩ := X.invokestatic hexec hown hlink hnamed hmethM hstatic hkP hinitP hy.1 (g := g) hg (argsL := as) (rest := rest) (hn.trans (hy.len hsigM)) hstack hdg
  exact ⟨vm₁, mk, X₁, X₁.named hnamed, hstep₁⟩
theorem mx_invSN (X : Stand p l e R s m args below meth c T locs cells slots) (hexec : p.tables.exec = Jvm.exec) {own host : String} {index n : Nat} {y : MethodName} {bytes : ByteArray} {maxL : Nat} {ret : Option FieldType}
    (hown : s.vm.findClass own = some m.cls) (hlink : (Cond.methodLinkNest own index y host).before args s = true) (hstat : (Cond.static y).before args s = true) (hinit : (Cond.initialized y.cls).before args s = true)
    (hcode : (Cond.code y bytes maxL ret).before args s = true) (hy : mx_N y n)
    {g : JFrame} (hg : g.method = m) {as rest : List Value} (hn : as.length = n)
    (hstack : g.stack = as.reverse ++ rest) (hdg : decode c.code g.pc = .ok (.invokestatic index, 3)) : mx_Inv p l e R s m args below meth c T locs cells slots g { g with stack := rest } y as := by
  obtain ⟨mk, hnamed⟩ := Cond.code_named hcode
  obtain ⟨methM, cM, hmethM, -, -, -, -, -, -, hsigM⟩ := Cond.code_spec hnamed hcode
  have hstatic : methM.isStatic = true := Cond.static_spec hnamed hmethM hstat
  obtain ⟨kP, hkP, -⟩ := className_of_methodNamed hnamed
  have hinitP : kP.init = .initialized := Cond.initialized_spec (findClass_of_methodNamed hnamed) hkP hinit
  obtain ⟨vm₁, X₁, hstep₁⟩ := X.invokestaticNest hexec hown hlink hnamed hmethM hstatic hkP hinitP hy.1 (g := g) hg (argsL := as) (rest := rest) (hn.trans (hy.len hsigM)) hstack hdg
  exact ⟨vm₁, mk, X₁, X₁.named hnamed, hstep₁⟩
/-- an object of the class C lies at b -/
def mx_Ob (s : State) (H : Heap) (C : String) (b : Addr) : Prop := ∃ cell : Cell, H[b]? = some cell ∧ cell.vm.isStatics = false ∧ s.vm.findClass C = some cell.cls
theorem mx_invV (X : Stand p l e R s m args below meth c T locs cells slots) (hT : T.heap = H) (hexec : p.tables.exec = Jvm.exec) {own C : String} {index n : Nat} {y : MethodName} {bytes : ByteArray} {maxL : Nat} {ret : Option FieldType}
    (hown : s.vm.findClass own = some m.cls) (hlink : (Cond.methodLink own index y).before args s = true) (hinst : (Cond.instanceMethod y).before args s = true) (hsel : (Cond.selects C y y).before args s = true)
    (hcode : (Cond.code y bytes maxL ret).before args s = true) (hy : mx_N y n) {b : Addr} (hb : mx_Ob s H C b)
    {g : JFrame} (hg : g.method = m) {as rest : List Value} (hn : as.length = n)
    (hstack : g.stack = as.reverse ++ .ref b :: rest) (hdg : decode c.code g.pc = .ok (.invokevirtual index, 3)) : mx_Inv p l e R s m args below meth c T locs cells slots g { g with stack := rest } y (.ref b :: as) := by
  subst hT
  obtain ⟨cellB, hcell, hobj, hcls⟩ := hb
  obtain ⟨mk, methM, hnamed, hmethM, hstM, habM⟩ := Cond.instanceMethod_spec hinst
  obtain ⟨methM', cM, hmethM', -, -, -, -, -, -, hsigM⟩ := Cond.code_spec hnamed hcode
  cases hmethM.symm.trans hmethM'
  obtain ⟨c2, r2, m2, q1, q2, q3, q4, kP, hkP, hkPi⟩ := Cond.selects_spec hsel
  cases hcls.symm.trans q1
  cases (State.methodFound?_of_named hnamed hy.1).symm.trans q2
  cases hnamed.symm.trans q3
  have hselP : selectMethod e.platform s.vm cellB.cls mk = .method mk := by rw [Launch.admits_selectMethod X.admits]; exact q4
  obtain ⟨vm₁, X₁, hstep₁⟩ := X.invokevirtual hexec hown hlink hnamed hmethM hstM hkP hkPi hy.1 (a := b) (cell := cellB) hcell
    (fun z h => by rw [h] at hobj; cases hobj) hselP hmethM habM hkP hkPi (g := g) hg (argsL := as) (rest := rest) (hn.trans (hy.len hsigM)) hstack hdg
  exact ⟨vm₁, mk, X₁, X₁.named hnamed, hstep₁⟩
theorem mx_invU (X : Stand p l e R s m args below meth c T locs cells slots) (hT : T.heap = H) (hexec : p.tables.exec = Jvm.exec) {own C owner : String} {index n : Nat} {x y : MethodName}
    (hown : s.vm.findClass own = some m.cls) (hlink : (Cond.methodLink own index x).before args s = true) (hsame : (Cond.sameMethod x.cls owner x.name x.desc).before args s = true)
    (hd0 : va_Decl s ⟨owner, x.name, x.desc⟩) (howner : owner ≠ "java/lang/invoke/MethodHandle" ∧ owner ≠ "java/lang/invoke/VarHandle")
    (hsel : (Cond.selects C x y).before args s = true) (hinst : (Cond.instanceMethod y).before args s = true) (hy : mx_N x n) {b : Addr} (hb : mx_Ob s H C b)
    {g : JFrame} (hg : g.method = m) {as rest : List Value} (hn : as.length = n)
    (hstack : g.stack = as.reverse ++ .ref b :: rest) (hdg : decode c.code g.pc = .ok (.invokevirtual index, 3)) : mx_Inv p l e R s m args below meth c T locs cells slots g { g with stack := rest } y (.ref b :: as) := by
  subst hT
  obtain ⟨cellB, hcell, hobj, hcls⟩ := hb
  obtain ⟨r0, r, hnm, hrm, hstR, hsigR⟩ := hd0
  obtain ⟨cn, ck, r1, hcn, hck, hni, hf, hn1⟩ := Cond.sameMethod_found hsame
  cases hnm.symm.trans hn1
  obtain ⟨mk, methM, hnamed, hmethM, -, habM⟩ := Cond.instanceMethod_spec hinst
  obtain ⟨c2, r2, m2, q1, q2, q3, q4, kP, hkP, hkPi⟩ := Cond.selects_spec hsel
  cases hcls.symm.trans q1
  cases hf.symm.trans q2
  cases hnamed.symm.trans q3
  have hselP : selectMethod e.platform s.vm cellB.cls r0 = .method mk := by rw [Launch.admits_selectMethod X.admits]; exact q4
  obtain ⟨vm₁, X₁, hstep₁⟩ := X.invokevirtualUp hexec hown hlink hsame howner hnm hrm hstR (a := b) (cell := cellB) hcell
    (fun z h => by rw [h] at hobj; cases hobj) hselP hmethM habM hkP hkPi (g := g) hg (argsL := as) (rest := rest) (hn.trans (hy.len hsigR)) hstack hdg
  exact ⟨vm₁, mk, X₁, X₁.named hnamed, hstep₁⟩
theorem mx_invI (X : Stand p l e R s m args below meth c T locs cells slots) (hexec : p.tables.exec = Jvm.exec) {own : String} {index n : Nat} {y : MethodName} {bytes : ByteArray} {maxL : Nat}
    (hown : s.vm.findClass own = some m.cls) (hy1 : y.name = "<init>") (hlink : (Cond.methodLink own index y).before args s = true) (hinst : (Cond.instanceMethod y).before args s = true)
    (hcode : (Cond.code y bytes maxL none).before args s = true) (hy : mx_N y n)
    {g : JFrame} (hg : g.method = m) {a : Addr} {as rest : List Value} (hn : as.length = n)
    (hstack : g.stack = as.reverse ++ .ref a :: rest) (hdg : decode c.code g.pc = .ok (.invokespecial index, 3)) : mx_Inv p l e R s m args below meth c T locs cells slots g { g with stack := rest } y (.ref a :: as) := by
  subst hg
  have hpl : e.platform.magicAccessors = ({} : Platform).magicAccessors := by rw [X.admits.platform]
  obtain ⟨mk, methM, cM, kP, vm₁, hnamed, hmethM, hcodeM, -, hlocalsM, -, hkP, -, hW₁, hstep₁⟩ := Steps.initColdArgs (e := e) X.here hexec X.warmed hpl hown hy1 hy.1 hlink hinst hcode (f := g) rfl (fun sig h => hn.trans (hy.len h)) hstack hdg
  have X₁ := X.noted hW₁
  exact ⟨vm₁, mk, X₁, X₁.named hnamed, hstep₁⟩
theorem mx_invIN (X : Stand p l e R s m args below meth c T locs cells slots) (hexec : p.tables.exec = Jvm.exec) {own host : String} {index n : Nat} {y : MethodName} {bytes : ByteArray} {maxL : Nat}
    (hown : s.vm.findClass own = some m.cls) (hy1 : y.name = "<init>") (hlink : (Cond.methodLinkNest own index y host).before args s = true) (hinst : (Cond.instanceMethod y).before args s = true)
    (hcode : (Cond.code y bytes maxL none).before args s = true) (hy : mx_N y n)
    {g : JFrame} (hg : g.method = m) {a : Addr} {as rest : List Value} (hn : as.length = n)
    (hstack : g.stack = as.reverse ++ .ref a :: rest) (hdg : decode c.code g.pc = .ok (.invokespecial index, 3)) : mx_Inv p l e R s m args below meth c T locs cells slots g { g with stack := rest } y (.ref a :: as) := by
  subst hg
  have hpl : e.platform.magicAccessors = ({} : Platform).magicAccessors := by rw [X.admits.platform]
  obtain ⟨mk, methM, cM, kP, vm₁, hnamed, hmethM, hcodeM, -, hlocalsM, -, hkP, -, hW₁, hstep₁⟩ := Steps.initColdArgsNest (e := e) X.here hexec X.warmed hpl hown hy1 hy.1 hlink hinst hcode (f := g) rfl (fun sig h => hn.trans (hy.len h)) hstack hdg
  have X₁ := X.noted hW₁
  exact ⟨vm₁, mk, X₁, X₁.named hnamed, hstep₁⟩
/-- the words of the callee's own: its code, its class -/
def mx_Cd (s : State) (y : MethodName) (cw : Cond) (maxL : Nat) : Prop :=
  (∀ (a : Array Value) (U : State), s.WarmedH U.vm → cw.before a U = true ∧ (Cond.initialized y.cls).before a U = true ∧ ∀ mY, U.methodNamed? y = some mY → ∃ methY cY, U.vm.method? mY = some methY ∧ methY.code = some cY ∧ cY.maxLocals = maxL)
/-- A CALL: what comes back, or flies on -/
theorem mx_call {Z : State → Prop} {pc : Nat} {ls : Array Slot} {st0 rest as : List Value} {ig : Instr} {maxL nL : Nat} {y : MethodName} {cw : Cond} {rm : Room} {F : Nat → Prop} {Q : Outcome → Heap → Prop}
    (hM : Mx l s0 y cw rm as H F Q) (hW0 : s0.WarmedH s.vm) (hI : ∀ T, T.heap = H → Stand p l e R s m args below meth c T locs cells slots → mx_Inv p l e R s m args below meth c T locs cells slots (F0 m pc ls st0) (F0 m pc ls rest) y as)
    (hml : c.maxLocals = nL) (hsz : ls.size = nL) (hdg : decode c.code pc = .ok (ig, 3)) (hCd : mx_Cd s y cw maxL)
    (hR : rm.frames + 1 ≤ R.frames ∧ 8 + (maxL + 11) + rm.locals ≤ R.locals) (hc : cells + rm.cells ≤ R.cells) (hs : slots + rm.slots ≤ R.slots) (hw : (rest.map fun v => v.category).sum ≤ 8)
    (kr : ∀ v H1 L, Q (.returned v) H1 → H.size ≤ H1.size → (∀ q : Nat, q < H.size → ¬ F q → H1[q]? = H[q]?) → (∀ q ∈ L, F q.base) → W p l e R s m args below meth c H1 (locs ++ L) (cells + rm.cells) (slots + rm.slots) Z (F0 m (pc + 3) ls (v.toList ++ rest)))
    (kt : ∀ q H1 L, Q (.threw q) H1 → H.size ≤ H1.size → (∀ q : Nat, q < H.size → ¬ F q → H1[q]? = H[q]?) → (∀ q ∈ L, F q.base) → Wt p l e R s m args below meth c H1 (locs ++ L) (cells + rm.cells) (slots + rm.slots) Z (F0 m pc ls rest) q) :
    W p l e R s m args below meth c H locs cells slots Z (F0 m pc ls st0) := by
  intro T hT X
  obtain ⟨vm₁, mk, X₁, hn, hst⟩ := hI T hT X
  obtain ⟨w1, w2, w3⟩ := hCd as.toArray (T.setVm vm₁) X₁.warmed
  obtain ⟨o, U, L, XU, hq, hL, hz, hk, hsteps⟩ := mx_back (W9 := 8) hM (T := T.setVm vm₁) hT X₁ hW0 (g := F0 m pc ls rest) rfl (hsz.trans hml.symm) hdg w1 w3 w2 hR.1 hR.2 hc hs (lv_room hw) hn
  cases o with
  | returned v =>
    obtain ⟨t, a1, b1⟩ := kr v U.heap L hq hz hk hL U rfl XU
    exact ⟨t, hst t (fun acts => by rw [doInvoke_state]; exact hsteps.trans a1), b1⟩
  | threw q =>
    obtain ⟨t, a1, b1⟩ := kt q U.heap L hq hz hk hL U rfl XU
    exact ⟨t, hst t (fun acts => by rw [doInvoke_state]; exact hsteps.trans a1), b1⟩
/-- the ends of what a method gives: a value, the heap as it was -/
def Rd (H : Heap) (v : Value) : Outcome → Heap → Prop := fun o H1 => o = .returned (some v) ∧ H1 = H
/-- a value, a new heap -/
def Rw (v : Value) (P : Heap → Prop) : Outcome → Heap → Prop := fun o H1 => o = .returned (some v) ∧ P H1
/-- nothing, a new heap -/
def Rn (P : Heap → Prop) : Outcome → Heap → Prop := fun o H1 => o = .returned none ∧ P H1
/-- a call that reads alone -/
theorem mx_callR {Z : State → Prop} {pc : Nat} {ls : Array Slot} {st0 rest as : List Value} {ig : Instr} {maxL nL : Nat} {y : MethodName} {cw : Cond} {rm : Room} {r : Value}
    (hM : Mx l s0 y cw rm as H (fun _ => False) (Rd H r)) (hW0 : s0.WarmedH s.vm) (hI : ∀ T, T.heap = H → Stand p l e R s m args below meth c T locs cells slots → mx_Inv p l e R s m args below meth c T locs cells slots (F0 m pc ls st0) (F0 m pc ls rest) y as)
    (hml : c.maxLocals = nL) (hsz : ls.size = nL) (hdg : decode c.code pc = .ok (ig, 3)) (hCd : mx_Cd s y cw maxL)
    (hR : rm.frames + 1 ≤ R.frames ∧ 8 + (maxL + 11) + rm.locals ≤ R.locals) (h0 : rm.cells = 0) (h1 : rm.slots = 0) (hc : cells ≤ R.cells) (hs : slots ≤ R.slots) (hw : (rest.map fun v => v.category).sum ≤ 8)
    (kk : W p l e R s m args below meth c H locs cells slots Z (F0 m (pc + 3) ls (r :: rest))) : W p l e R s m args below meth c H locs cells slots Z (F0 m pc ls st0) := by
  refine mx_call hM hW0 hI hml hsz hdg hCd hR (by rw [h0]; exact hc) (by rw [h1]; exact hs) hw (fun v H1 L hq _ _ hL => ?_) (fun q H1 L hq _ _ _ => by cases hq.1)
  obtain ⟨hv, rfl⟩ := hq
  cases hv
  rw [h0, h1]
  intro T hT X
  exact kk T hT (Stand.forget X (fun q h => (hL q h).elim))
/-- a call that writes: a value comes -/
theorem mx_callW {Z : State → Prop} {pc : Nat} {ls : Array Slot} {st0 rest as : List Value} {ig : Instr} {maxL nL : Nat} {y : MethodName} {cw : Cond} {rm : Room} {r : Value} {F A : Nat → Prop} {P : Heap → Prop} {H0 : Heap}
    (hM : Mx l s0 y cw rm as H F (Rw r P)) (hW0 : s0.WarmedH s.vm) (hI : ∀ T, T.heap = H → Stand p l e R s m args below meth c T locs cells slots → mx_Inv p l e R s m args below meth c T locs cells slots (F0 m pc ls st0) (F0 m pc ls rest) y as)
    (hml : c.maxLocals = nL) (hsz : ls.size = nL) (hdg : decode c.code pc = .ok (ig, 3)) (hCd : mx_Cd s y cw maxL)
    (hR : rm.frames + 1 ≤ R.frames ∧ 8 + (maxL + 11) + rm.locals ≤ R.locals) (hc : cells + rm.cells ≤ R.cells) (hs : slots + rm.slots ≤ R.slots) (hw : (rest.map fun v => v.category).sum ≤ 8)
    (hS : va_S A H0 H locs) (hF : ∀ q, F q → A q)
    (kk : ∀ H1 locs1, P H1 → H.size ≤ H1.size → (∀ q : Nat, q < H.size → ¬ F q → H1[q]? = H[q]?) → va_S A H0 H1 locs1 → W p l e R s m args below meth c H1 locs1 (cells + rm.cells) (slots + rm.slots) Z (F0 m (pc + 3) ls (r :: rest))) : W p l e R s m args below meth c H locs cells slots Z (F0 m pc ls st0) := by
  refine mx_call hM hW0 hI hml hsz hdg hCd hR hc hs hw (fun v H1 L hq hz hk hL => ?_) (fun q H1 L hq _ _ _ => by cases hq.1)
  obtain ⟨hv, hp⟩ := hq
  cases hv
  refine kk H1 _ hp hz hk ⟨Nat.le_trans hS.1 hz, fun q h1 h2 => (hk q (Nat.lt_of_lt_of_le h1 hS.1) (fun z => h2 (hF q z))).trans (hS.2.1 q h1 h2), fun q hq => ?_⟩
  rcases List.mem_append.mp hq with h | h
  · exact hS.2.2 q h
  · exact hF _ (hL q h)
theorem mx_callN {Z : State → Prop} {pc : Nat} {ls : Array Slot} {st0 rest as : List Value} {ig : Instr} {maxL nL : Nat} {y : MethodName} {cw : Cond} {rm : Room} {F A : Nat → Prop} {P : Heap → Prop} {H0 : Heap}
    (hM : Mx l s0 y cw rm as H F (Rn P)) (hW0 : s0.WarmedH s.vm) (hI : ∀ T, T.heap = H → Stand p l e R s m args below meth c T locs cells slots → mx_Inv p l e R s m args below meth c T locs cells slots (F0 m pc ls st0) (F0 m pc ls rest) y as)
    (hml : c.maxLocals = nL) (hsz : ls.size = nL) (hdg : decode c.code pc = .ok (ig, 3)) (hCd : mx_Cd s y cw maxL)
    (hR : rm.frames + 1 ≤ R.frames ∧ 8 + (maxL + 11) + rm.locals ≤ R.locals) (hc : cells + rm.cells ≤ R.cells) (hs : slots + rm.slots ≤ R.slots) (hw : (rest.map fun v => v.category).sum ≤ 8)
    (hS : va_S A H0 H locs) (hF : ∀ q, F q → A q)
    (kk : ∀ H1 locs1, P H1 → H.size ≤ H1.size → (∀ q : Nat, q < H.size → ¬ F q → H1[q]? = H[q]?) → va_S A H0 H1 locs1 → W p l e R s m args below meth c H1 locs1 (cells + rm.cells) (slots + rm.slots) Z (F0 m (pc + 3) ls rest)) : W p l e R s m args below meth c H locs cells slots Z (F0 m pc ls st0) := by
  refine mx_call hM hW0 hI hml hsz hdg hCd hR hc hs hw (fun v H1 L hq hz hk hL => ?_) (fun q H1 L hq _ _ _ => by cases hq.1)
  obtain ⟨hv, hp⟩ := hq
  cases hv
  refine kk H1 _ hp hz hk ⟨Nat.le_trans hS.1 hz, fun q h1 h2 => (hk q (Nat.lt_of_lt_of_le h1 hS.1) (fun z => h2 (hF q z))).trans (hS.2.1 q h1 h2), fun q hq => ?_⟩
  rcases List.mem_append.mp hq with h | h
  · exact hS.2.2 q h
  · exact hF _ (hL q h)
/-- the ends -/
theorem mx_mq {Z : Outcome → Heap → Prop} {g : JFrame} {F : Nat → Prop} {k n : Nat} (h1 : cells ≤ k) (h2 : slots ≤ n) (h : W p l e R s m args below meth c H locs k n (MQ below (fun _ _ o t => Z o t.heap) args s k n F) g) : W p l e R s m args below meth c H locs cells slots (MQx below Z s k n F) g := by
  intro T hT X
  obtain ⟨t, a1, o, b1, b2, b3, L, ⟨-, hW, hfr⟩, b5⟩ := h T hT (stand_widen X h1 h2)
  exact ⟨t, a1, o, b1, b2, b3, hW, L, hfr, b5⟩
variable {Z : Outcome → Heap → Prop} {F : Nat → Prop} {k n pc : Nat} {cc : ByteArray} {ls : Array Slot}
theorem mx_iret {v : Int32} (hx : p.tables.exec = Jvm.exec) (hb : c.code = cc) (hr : meth.sig.returnType = some .int) (hlocks : meth.locks = false) (hdg : decode cc pc = .ok (.ireturn, 1)) (h1 : cells ≤ k) (h2 : slots ≤ n) (hf : ∀ q ∈ locs, F q.base) (hq : Z (.returned (some (.int v))) H) : W p l e R s m args below meth c H locs cells slots (MQx below Z s k n F) (F0 m pc ls [.int v]) :=
  mx_mq h1 h2 (W.iret hx hb hr (fun t ht _ => by rw [ht]; exact hq) hf hdg hlocks)
theorem mx_zret {v : Int32} (hx : p.tables.exec = Jvm.exec) (hb : c.code = cc) (hr : meth.sig.returnType = some .boolean) (hlocks : meth.locks = false) (hdg : decode cc pc = .ok (.ireturn, 1)) (h1 : cells ≤ k) (h2 : slots ≤ n) (hf : ∀ q ∈ locs, F q.base) (hn : narrow .boolean (.int v) = .int v) (hq : Z (.returned (some (.int v))) H) : W p l e R s m args below meth c H locs cells slots (MQx below Z s k n F) (F0 m pc ls [.int v]) :=
  mx_mq h1 h2 (W.zret hx hb hr hn (fun t ht _ => by rw [ht]; exact hq) hf hdg hlocks)
theorem mx_lret {v : Int64} (hx : p.tables.exec = Jvm.exec) (hb : c.code = cc) (hr : meth.sig.returnType = some .long) (hlocks : meth.locks = false) (hdg : decode cc pc = .ok (.lreturn, 1)) (h1 : cells ≤ k) (h2 : slots ≤ n) (hf : ∀ q ∈ locs, F q.base) (hq : Z (.returned (some (.long v))) H) : W p l e R s m args below meth c H locs cells slots (MQx below Z s k n F) (F0 m pc ls [.long v]) :=
  mx_mq h1 h2 (W.lret hx hb hr (fun t ht _ => by rw [ht]; exact hq) hf hdg hlocks)
theorem mx_vret (hx : p.tables.exec = Jvm.exec) (hb : c.code = cc) (hr : meth.sig.returnType = none) (hlocks : meth.locks = false) (hdg : decode cc pc = .ok (.return_, 1)) (h1 : cells ≤ k) (h2 : slots ≤ n) (hf : ∀ q ∈ locs, F q.base) (hq : Z (.returned none) H) : W p l e R s m args below meth c H locs cells slots (MQx below Z s k n F) (F0 m pc ls []) :=
  mx_mq h1 h2 (W.vret hx hb hr (fun t ht _ => by rw [ht]; exact hq) hf hdg hlocks)
theorem mx_aret {v : Value} {rt : FieldType} (hx : p.tables.exec = Jvm.exec) (hb : c.code = cc) (hr : meth.sig.returnType = some rt) (hrt : (∃ n, rt = .object n) ∨ ∃ t, rt = .array t) (hlocks : meth.locks = false) (hdg : decode cc pc = .ok (.areturn, 1)) (h1 : cells ≤ k) (h2 : slots ≤ n) (hf : ∀ q ∈ locs, F q.base) (hv : v = .null ∨ ∃ a, v = .ref a) (hq : Z (.returned (some v)) H) : W p l e R s m args below meth c H locs cells slots (MQx below Z s k n F) (F0 m pc ls [v]) :=
  mx_mq h1 h2 (W.aret hx hb hr hrt hv (fun t ht _ => by rw [ht]; exact hq) hf hdg hlocks)
/-- an exception that nobody here catches -/
theorem mx_out {rest : List Value} {q : Addr} (het : c.exceptionTable.toList = []) (hlocks : meth.locks = false) (h1 : cells ≤ k) (h2 : slots ≤ n) (hf : ∀ q ∈ locs, F q.base) (hq : Z (.threw q) H) :
    Wt p l e R s m args below meth c H locs cells slots (MQx below Z s k n F) (F0 m pc ls rest) q := by
  intro T hT X
  obtain ⟨st1, hrun, hend, hW, hsm⟩ := X.leaveThrown q (g := F0 m pc ls rest) rfl rfl rfl (fun x hx => by rw [het] at hx; cases hx) hlocks
  exact ⟨_, st1, .threw q, hrun, hend, by show Z _ T.heap; rw [hT]; exact hq, hW, locs, hsm.mono h1 h2, hf⟩
end MXC
