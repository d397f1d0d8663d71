section
-- ===== PART A: goes FIRST, ahead of the names: the tables' words, and 'selects' of the private methods out of them =====
/-- a private method of a class that the tables say can be made, by its rows of tables_1 -/
def lw_okq (q : MethodName × Nat) : Prop := (q.1.cls ≠ "java/lang/invoke/MethodHandle" ∧ q.1.cls ≠ "java/lang/invoke/VarHandle") ∧ Cond.instantiable q.1.cls q.2 ∈ tables_1 ∧ Cond.privateMethod q.1 ∈ tables_1 ∧ Cond.instanceMethod q.1 ∈ tables_1
theorem lw_p0 : lw_okq (⟨"java/lang/Throwable", "fillInStackTrace", "(I)Ljava/lang/Throwable;"⟩, 6) := ⟨⟨by decide +kernel, by decide +kernel⟩, List.mem_of_getElem? (i := 104) (by decide +kernel), List.mem_of_getElem? (i := 102) (by decide +kernel), List.mem_of_getElem? (i := 103) (by decide +kernel)⟩
theorem lw_p1 : lw_okq (⟨"FewBits", "filterFor", "(II)LFewBits$Filter;"⟩, 2) := ⟨⟨by decide +kernel, by decide +kernel⟩, List.mem_of_getElem? (i := 19) (by decide +kernel), List.mem_of_getElem? (i := 153) (by decide +kernel), List.mem_of_getElem? (i := 154) (by decide +kernel)⟩
theorem lw_p2 : lw_okq (⟨"FewBits", "filterAt", "(I)LFewBits$Filter;"⟩, 2) := ⟨⟨by decide +kernel, by decide +kernel⟩, List.mem_of_getElem? (i := 19) (by decide +kernel), List.mem_of_getElem? (i := 272) (by decide +kernel), List.mem_of_getElem? (i := 273) (by decide +kernel)⟩
theorem lw_p3 : lw_okq (⟨"FewBitsModel", "empty", "(I)V"⟩, 12) := ⟨⟨by decide +kernel, by decide +kernel⟩, List.mem_of_getElem? (i := 648) (by decide +kernel), List.mem_of_getElem? (i := 712) (by decide +kernel), List.mem_of_getElem? (i := 713) (by decide +kernel)⟩
theorem lw_p4 : lw_okq (⟨"FewBitsModel", "wrong", "(I)I"⟩, 12) := ⟨⟨by decide +kernel, by decide +kernel⟩, List.mem_of_getElem? (i := 648) (by decide +kernel), List.mem_of_getElem? (i := 720) (by decide +kernel), List.mem_of_getElem? (i := 721) (by decide +kernel)⟩
theorem lw_p5 : lw_okq (⟨"FewBitsModel", "addOne", "(IJ)Z"⟩, 12) := ⟨⟨by decide +kernel, by decide +kernel⟩, List.mem_of_getElem? (i := 648) (by decide +kernel), List.mem_of_getElem? (i := 724) (by decide +kernel), List.mem_of_getElem? (i := 725) (by decide +kernel)⟩
theorem lw_p6 : lw_okq (⟨"FewBitsModel", "addCounted", "(IJI)Z"⟩, 12) := ⟨⟨by decide +kernel, by decide +kernel⟩, List.mem_of_getElem? (i := 648) (by decide +kernel), List.mem_of_getElem? (i := 728) (by decide +kernel), List.mem_of_getElem? (i := 729) (by decide +kernel)⟩
theorem lw_p7 : lw_okq (⟨"FewBitsModel", "findPlaces", "(IJ[I)V"⟩, 12) := ⟨⟨by decide +kernel, by decide +kernel⟩, List.mem_of_getElem? (i := 648) (by decide +kernel), List.mem_of_getElem? (i := 732) (by decide +kernel), List.mem_of_getElem? (i := 733) (by decide +kernel)⟩
theorem lw_p8 : lw_okq (⟨"FewBitsModel", "addPrint", "(IJ)Z"⟩, 12) := ⟨⟨by decide +kernel, by decide +kernel⟩, List.mem_of_getElem? (i := 648) (by decide +kernel), List.mem_of_getElem? (i := 742) (by decide +kernel), List.mem_of_getElem? (i := 743) (by decide +kernel)⟩
theorem lw_p9 : lw_okq (⟨"FewBitsModel", "fingerprint", "(IJ)I"⟩, 12) := ⟨⟨by decide +kernel, by decide +kernel⟩, List.mem_of_getElem? (i := 648) (by decide +kernel), List.mem_of_getElem? (i := 746) (by decide +kernel), List.mem_of_getElem? (i := 747) (by decide +kernel)⟩
theorem lw_p10 : lw_okq (⟨"FewBitsModel", "firstBucket", "(IJ)I"⟩, 12) := ⟨⟨by decide +kernel, by decide +kernel⟩, List.mem_of_getElem? (i := 648) (by decide +kernel), List.mem_of_getElem? (i := 750) (by decide +kernel), List.mem_of_getElem? (i := 751) (by decide +kernel)⟩
theorem lw_p11 : lw_okq (⟨"FewBitsModel", "slotWith", "([IIII)I"⟩, 12) := ⟨⟨by decide +kernel, by decide +kernel⟩, List.mem_of_getElem? (i := 648) (by decide +kernel), List.mem_of_getElem? (i := 754) (by decide +kernel), List.mem_of_getElem? (i := 755) (by decide +kernel)⟩
theorem lw_p12 : lw_okq (⟨"FewBitsModel", "otherBucket", "(III)I"⟩, 12) := ⟨⟨by decide +kernel, by decide +kernel⟩, List.mem_of_getElem? (i := 648) (by decide +kernel), List.mem_of_getElem? (i := 758) (by decide +kernel), List.mem_of_getElem? (i := 759) (by decide +kernel)⟩
theorem lw_p13 : lw_okq (⟨"FewBitsModel", "addPair", "(IJ)Z"⟩, 12) := ⟨⟨by decide +kernel, by decide +kernel⟩, List.mem_of_getElem? (i := 648) (by decide +kernel), List.mem_of_getElem? (i := 763) (by decide +kernel), List.mem_of_getElem? (i := 764) (by decide +kernel)⟩
theorem lw_p14 : lw_okq (⟨"FewBitsModel", "pair", "(IJ)I"⟩, 12) := ⟨⟨by decide +kernel, by decide +kernel⟩, List.mem_of_getElem? (i := 648) (by decide +kernel), List.mem_of_getElem? (i := 767) (by decide +kernel), List.mem_of_getElem? (i := 768) (by decide +kernel)⟩
theorem lw_p15 : lw_okq (⟨"FewBitsModel", "insertPair", "(III)V"⟩, 12) := ⟨⟨by decide +kernel, by decide +kernel⟩, List.mem_of_getElem? (i := 648) (by decide +kernel), List.mem_of_getElem? (i := 771) (by decide +kernel), List.mem_of_getElem? (i := 772) (by decide +kernel)⟩
def lw_privs_1 : List (MethodName × Nat) := [(⟨"java/lang/Throwable", "fillInStackTrace", "(I)Ljava/lang/Throwable;"⟩, 6), (⟨"FewBits", "filterFor", "(II)LFewBits$Filter;"⟩, 2), (⟨"FewBits", "filterAt", "(I)LFewBits$Filter;"⟩, 2), (⟨"FewBitsModel", "empty", "(I)V"⟩, 12), (⟨"FewBitsModel", "wrong", "(I)I"⟩, 12), (⟨"FewBitsModel", "addOne", "(IJ)Z"⟩, 12), (⟨"FewBitsModel", "addCounted", "(IJI)Z"⟩, 12), (⟨"FewBitsModel", "findPlaces", "(IJ[I)V"⟩, 12), (⟨"FewBitsModel", "addPrint", "(IJ)Z"⟩, 12), (⟨"FewBitsModel", "fingerprint", "(IJ)I"⟩, 12), (⟨"FewBitsModel", "firstBucket", "(IJ)I"⟩, 12), (⟨"FewBitsModel", "slotWith", "([IIII)I"⟩, 12), (⟨"FewBitsModel", "otherBucket", "(III)I"⟩, 12), (⟨"FewBitsModel", "addPair", "(IJ)Z"⟩, 12), (⟨"FewBitsModel", "pair", "(IJ)I"⟩, 12), (⟨"FewBitsModel", "insertPair", "(III)V"⟩, 12)]
theorem lw_r1 : ∀ q ∈ lw_privs_1, lw_okq q := List.forall_mem_cons.mpr ⟨lw_p0, List.forall_mem_cons.mpr ⟨lw_p1, List.forall_mem_cons.mpr ⟨lw_p2, List.forall_mem_cons.mpr ⟨lw_p3, List.forall_mem_cons.mpr ⟨lw_p4, List.forall_mem_cons.mpr ⟨lw_p5, List.forall_mem_cons.mpr ⟨lw_p6, List.forall_mem_cons.mpr ⟨lw_p7, List.forall_mem_cons.mpr ⟨lw_p8, List.forall_mem_cons.mpr ⟨lw_p9, List.forall_mem_cons.mpr ⟨lw_p10, List.forall_mem_cons.mpr ⟨lw_p11, List.forall_mem_cons.mpr ⟨lw_p12, List.forall_mem_cons.mpr ⟨lw_p13, List.forall_mem_cons.mpr ⟨lw_p14, List.forall_mem_cons.mpr ⟨lw_p15, fun _ h => absurd h List.not_mem_nil⟩⟩⟩⟩⟩⟩⟩⟩⟩⟩⟩⟩⟩⟩⟩⟩
theorem lw_p16 : lw_okq (⟨"FewBitsModel", "findPair", "(II)I"⟩, 12) := ⟨⟨by decide +kernel, by decide +kernel⟩, List.mem_of_getElem? (i := 648) (by decide +kernel), List.mem_of_getElem? (i := 783) (by decide +kernel), List.mem_of_getElem? (i := 784) (by decide +kernel)⟩
theorem lw_p17 : lw_okq (⟨"FewBitsModel", "isThere", "(IJ)Z"⟩, 12) := ⟨⟨by decide +kernel, by decide +kernel⟩, List.mem_of_getElem? (i := 648) (by decide +kernel), List.mem_of_getElem? (i := 791) (by decide +kernel), List.mem_of_getElem? (i := 792) (by decide +kernel)⟩
theorem lw_p18 : lw_okq (⟨"FewBitsModel", "longestRow", "(I)I"⟩, 12) := ⟨⟨by decide +kernel, by decide +kernel⟩, List.mem_of_getElem? (i := 648) (by decide +kernel), List.mem_of_getElem? (i := 807) (by decide +kernel), List.mem_of_getElem? (i := 808) (by decide +kernel)⟩
theorem lw_p19 : lw_okq (⟨"FewBitsModel", "layOut", "(I)V"⟩, 12) := ⟨⟨by decide +kernel, by decide +kernel⟩, List.mem_of_getElem? (i := 648) (by decide +kernel), List.mem_of_getElem? (i := 811) (by decide +kernel), List.mem_of_getElem? (i := 812) (by decide +kernel)⟩
theorem lw_p20 : lw_okq (⟨"FewBitsModel", "runCell", "(II)I"⟩, 12) := ⟨⟨by decide +kernel, by decide +kernel⟩, List.mem_of_getElem? (i := 648) (by decide +kernel), List.mem_of_getElem? (i := 819) (by decide +kernel), List.mem_of_getElem? (i := 820) (by decide +kernel)⟩
def lw_privs_2 : List (MethodName × Nat) := [(⟨"FewBitsModel", "findPair", "(II)I"⟩, 12), (⟨"FewBitsModel", "isThere", "(IJ)Z"⟩, 12), (⟨"FewBitsModel", "longestRow", "(I)I"⟩, 12), (⟨"FewBitsModel", "layOut", "(I)V"⟩, 12), (⟨"FewBitsModel", "runCell", "(II)I"⟩, 12)]
theorem lw_r2 : ∀ q ∈ lw_privs_2, lw_okq q := List.forall_mem_cons.mpr ⟨lw_p16, List.forall_mem_cons.mpr ⟨lw_p17, List.forall_mem_cons.mpr ⟨lw_p18, List.forall_mem_cons.mpr ⟨lw_p19, List.forall_mem_cons.mpr ⟨lw_p20, fun _ h => absurd h List.not_mem_nil⟩⟩⟩⟩⟩
def lw_privs : List (MethodName × Nat) := lw_privs_1 ++ (lw_privs_2)
def lw_tbl : List Cond := k2_sels lw_privs ++ tables_1
theorem lw_privs_ok : ∀ q ∈ lw_privs, lw_okq q := by
  show ∀ q ∈ lw_privs_1 ++ (lw_privs_2), lw_okq q
  exact List.forall_mem_append.mpr ⟨lw_r1, lw_r2⟩
-- ===== end of PART A; then your names; then what follows =====
end
section
/-! contracts over a heap that is a parameter; outcome returned or threw -/
section MXA
/-- y, called with the values 'as' in the heap H (tables warmer than s0's), ends as Q says; it writes old cells that F names alone -/
def Mx (l : Launch) (s0 : State) (y : MethodName) (cw : Cond) (rm : Room) (as : List Value) (H : Heap) (F : Nat → Prop) (Q : Outcome → Heap → Prop) : Prop :=
  MetFree l y (headSpec [cw] rm) (fun a U => a = as.toArray ∧ U.heap = H ∧ s0.WarmedH U.vm) (fun _ _ _ _ _ => True)
    (fun _ st o t => Q o t.heap ∧ st.WarmedH t.vm ∧ ∃ L, st.sameButNew ({ t with vm := st.vm } : State) L rm.cells rm.slots ∧ ∀ q ∈ L, F q.base)
/-- what a body owes at its end -/
def MQx (below : List Frame) (Q : Outcome → Heap → Prop) (s : State) (mc ms : Nat) (F : Nat → Prop) : State → Prop := fun t =>
  ∃ o, t.status = .running ∧ Ended t below o ∧ Q o t.heap ∧ s.WarmedH t.vm ∧ ∃ L, s.sameButNew ({ t with vm := s.vm } : State) L mc ms ∧ ∀ q ∈ L, F q.base
/-- what a body knows of its machine -/
def Bx (p : Program) (s0 s : State) (m : MethodId) (meth : Method) (c : Code) (cc : ByteArray) (maxL : Nat) (ret : Option FieldType) (own : String) : Prop :=
  p.tables.exec = Jvm.exec ∧ c.code = cc ∧ c.maxLocals = maxL ∧ meth.sig.returnType = ret ∧ s.vm.findClass own = some m.cls ∧ s0.WarmedH s.vm ∧ meth.locks = false
theorem mx_hh {s s1 : State} {fs : List Frame} (h : s1 = s.setFrames fs) : s1.heap = s.heap := by rw [h]; rfl
variable {l : Launch} {s0 : State} {y : MethodName} {rm : Room} {as : List Value} {H : Heap} {F : Nat → Prop} {Q : Outcome → Heap → Prop}
theorem Mx.ofW {cc : ByteArray} {maxL : Nat} {ret : Option FieldType} {own : String} (hy : plainName y.cls = true) (ho : y.cls = own)
    (body : ∀ p e s m below meth c, Bx p s0 s m meth c cc maxL ret own → (meth.name = y.name) → c.exceptionTable.toList = [] → s.heap = H →
      W p l e rm s m as.toArray below meth c H [] 0 0 (MQx below Q s rm.cells rm.slots F) (entryFrame m as.toArray maxL)) : Mx l s0 y (.code y cc maxL ret) rm as H F Q := by
  refine MetFree.of_bodyS (code := cc) (maxLocals := maxL) (ret := ret) hy ?_ ?_
  · intro args s m h hn
    obtain ⟨meth, c, h1, h2, h3, h4, h5, h6, -, -⟩ := Cond.code_spec hn (atoms_spec (ws := [.code y cc maxL ret]) h _ List.mem_cons_self)
    exact ⟨meth, c, h1, h2, h3, h4, h5, h6⟩
  · intro p e s m args below meth c s₁ B hml hP _
    obtain ⟨rfl, hH, hW⟩ := hP
    have hh0 : s₁.heap = s.heap := by rw [B.state]; rfl
    have hcd := atoms_spec (ws := [.code y cc maxL ret]) B.pre _ List.mem_cons_self
    obtain ⟨meth', c', hm', hc', -, -, -, -, he', -⟩ := Cond.code_spec B.named hcd
    cases B.method.symm.trans hm'
    cases (Stand.of_body B).code.symm.trans hc'
    have het : c.exceptionTable.toList = [] := by rw [Array.isEmpty_iff.mp he']
    have hown : s.vm.findClass own = some m.cls := by rw [← ho]; exact findClass_of_methodNamed B.named
    obtain ⟨t, a1, o, b1, b2, b3⟩ := body p e s m below meth c ⟨B.exec, B.bytes, hml, B.returns, hown, hW, B.notSynchronized⟩ ((name_of_methodNamed B.named B.method).1) het hH s₁ (hh0.trans hH) (Stand.of_body B)
    exact ⟨t, o, a1, b1, b2, b3⟩
theorem Mx.ofWH {cc : ByteArray} {maxL : Nat} {ret : Option FieldType} {own : String} {hh : List (Nat × Nat × Nat × Nat)} (hy : plainName y.cls = true) (ho : y.cls = own)
    (body : ∀ p e s m below meth c, Bx p s0 s m meth c cc maxL ret own → c.exceptionTable.toList = tableOf hh → s.heap = H →
      W p l e rm s m as.toArray below meth c H [] 0 0 (MQx below Q s rm.cells rm.slots F) (entryFrame m as.toArray maxL)) : Mx l s0 y (.codeWith y cc maxL ret hh) rm as H F Q := by
  refine MetFree.of_bodyS (code := cc) (maxLocals := maxL) (ret := ret) hy ?_ ?_
  · intro args s m h hn
    obtain ⟨m9, meth, c, hn9, h1, h2, h3, h4, -, h5, h6, -⟩ := Cond.codeWith_spec (atoms_spec (ws := [.codeWith y cc maxL ret hh]) h _ List.mem_cons_self)
    cases Option.some.inj (hn9.symm.trans hn)
    exact ⟨meth, c, h1, h2, h3, h4, h5, h6⟩
  · intro p e s m args below meth c s₁ B hml hP _
    obtain ⟨rfl, hH, hW⟩ := hP
    have hh0 : s₁.heap = s.heap := by rw [B.state]; rfl
    have hcd := atoms_spec (ws := [.codeWith y cc maxL ret hh]) B.pre _ List.mem_cons_self
    obtain ⟨m9, meth9, c9, hn9, h1, h2, -, -, h6, -⟩ := Cond.codeWith_spec hcd
    cases Option.some.inj (hn9.symm.trans B.named)
    cases Option.some.inj (h1.symm.trans B.method)
    cases Option.some.inj (h2.symm.trans (Stand.of_body B).code)
    have het : c.exceptionTable.toList = tableOf hh := by rw [← h6, table_eq]
    have hown : s.vm.findClass own = some m.cls := by rw [← ho]; exact findClass_of_methodNamed B.named
    obtain ⟨t, a1, o, b1, b2, b3⟩ := body p e s m below meth c ⟨B.exec, B.bytes, hml, B.returns, hown, hW, B.notSynchronized⟩ het hH s₁ (hh0.trans hH) (Stand.of_body B)
    exact ⟨t, o, a1, b1, b2, b3⟩
end MXA
section MXB
variable {p : Program} {l : Launch} {e : Env} {R : Room} {s : State} {m : MethodId} {args : Array Value} {below : List Frame} {meth : Method} {c : Code} {H : Heap} {locs : List Loc} {cells slots : Nat} {s0 : State}
/-- a cell that isn't written stays -/
theorem mx_frame {L : List Loc} {U : State} {k n : Nat} (h : s.sameButNew ({ U with vm := s.vm } : State) L k n) : s.heap.size ≤ U.heap.size ∧ ∀ q : Nat, q < s.heap.size → (∀ z ∈ L, z.base ≠ q) → U.heap[q]? = s.heap[q]? := by
  obtain ⟨-, h2, -, -, -, h6⟩ := h
  refine ⟨h2, fun q hq hz => ?_⟩
  obtain ⟨c9, e1, e2, e3, e4⟩ := h6 q _ (Array.getElem?_eq_getElem hq)
  have hs : c9.slots = (s.heap[q]).slots := Array.ext_getElem? fun i => e4 i fun hm => hz _ hm rfl
  have h9 : c9 = s.heap[q] := by
    rw [hs] at e2
    exact e2
  have e5 : U.heap[q]? = some c9 := e1
  rw [e5, h9, Array.getElem?_eq_getElem hq]
/-- where a call lands -/
def mx_land (g : JFrame) (len : Nat) (U : State) : Outcome → State
  | .returned v => U.setTop { g with pc := g.pc + len, stack := v.toList ++ g.stack }
  | .threw q => (U.setTop g).pushFrame (.throwing q)
/-- an invoking instruction comes to the invocation of y with the values 'as', g: the frame with these popped -/
def mx_Inv (p : Program) (l : Launch) (e : Env) (R : Room) (s : State) (m : MethodId) (args : Array Value) (below : List Frame) (meth : Method) (c : Code) (T : State) (locs : List Loc) (cells slots : Nat) (g0 g : JFrame) (y : MethodName) (as : List Value) : Prop :=
  ∃ (vm₁ : Vm) (mk : MethodId), Stand p l e R s m args below meth c (T.setVm vm₁) locs cells slots ∧ (T.setVm vm₁).methodNamed? y = some mk ∧
    ∀ target, (∀ acts, Steps p.tables e below (doInvoke e ((T.setVm vm₁).setTop g) acts mk as.toArray).1 target) → Steps p.tables e below (T.setTop g0) target
/-- the callee comes back, or throws -/
theorem mx_back {T : State} {g : JFrame} {ig : Instr} {len W9 maxL : Nat} {y : MethodName} {cw : Cond} {rm : Room} {as : List Value} {F : Nat → Prop} {Q : Outcome → Heap → Prop} {mk : MethodId}
    (hM : Mx l s0 y cw rm as H F Q) (hT : T.heap = H) (X : Stand p l e R s m args below meth c T locs cells slots) (hW0 : s0.WarmedH s.vm) (hg : g.method = m) (hsize : g.locals.size = c.maxLocals) (hdg : decode c.code g.pc = .ok (ig, len))
    (hcw : cw.before as.toArray T = true) (hcd : ∀ mY, T.methodNamed? y = some mY → ∃ methY cY, T.vm.method? mY = some methY ∧ methY.code = some cY ∧ cY.maxLocals = maxL) (hini : (Cond.initialized y.cls).before as.toArray T = true)
    (hframes : rm.frames + 1 ≤ R.frames) (hlocals : W9 + (maxL + 11) + rm.locals ≤ R.locals) (hc : cells + rm.cells ≤ R.cells) (hs : slots + rm.slots ≤ R.slots)
    (hW : 2 * g.monitorRoom + (g.stack.map fun v => v.category).sum ≤ W9) (hn : T.methodNamed? y = some mk) :
    ∃ (o : Outcome) (U : State) (L : List Loc), Stand p l e R s m args below meth c U (locs ++ L) (cells + rm.cells) (slots + rm.slots) ∧ Q o U.heap ∧ (∀ q ∈ L, F q.base) ∧ H.size ≤ U.heap.size ∧ (∀ q : Nat, q < H.size → ¬ F q → U.heap[q]? = H[q]?) ∧
      Steps p.tables e below (doInvoke e (T.setTop g) [] mk as.toArray).1 (mx_land g len U o) := by
  have h1 : (headSpec [cw] rm).pre.before as.toArray T = true := atoms_intro fun w hw => by rw [List.mem_singleton.mp hw]; exact hcw
  obtain ⟨methY, cY, hmY, hcY, hlY⟩ := hcd mk hn
  obtain ⟨kY, hkY, -⟩ := className_of_methodNamed hn
  have hinitY : kY.init = .initialized := Cond.initialized_spec (findClass_of_methodNamed hn) hkY hini
  have h : At T g.method c below := by rw [hg]; exact X.here
  have happ : (headSpec [cw] rm).appliesLoose y e.platform (T.calling g mk as.toArray) = true :=
    Spec.appliesLoose_calling (g := g) h hdg hn hkY hinitY
      (X.room_calling (g := g) (R' := (headSpec [cw] rm).room) hsize hmY hcY hframes (by rw [hlY]; show _ + rm.locals ≤ _; omega) hc hs) h1
  obtain ⟨mid, hmid⟩ := h.above
  have hfr : (T.setTop g).frames = (.java g :: mid) ++ below := by rw [State.frames_setTop' g h.top, hmid]; rfl
  obtain ⟨o, s₂, hsteps, -, hend, hq, hW₂, L, hsm, hL⟩ := Steps.callFree hM p X.admits X.cas X.clock (acts := []) hfr happ ⟨rfl, hT, State.WarmedH.trans hW0 X.warmed⟩ trivial
  rw [State.frames_setTop' g h.top] at hend
  obtain ⟨g₀, hg0⟩ := Option.isSome_iff_exists.mp h.top
  obtain ⟨r, hr⟩ := State.topJava?_eq_some.mp hg0
  have hr' : (({ T with heap := s₂.heap, slotsUsed := s₂.slotsUsed } : State).setVm s₂.vm).frames = .java g₀ :: r := hr
  have hW' : T.WarmedH s₂.vm := hW₂
  have hfrm := mx_frame (s := T.calling g mk as.toArray) (U := s₂) hsm
  have hTH : (T.calling g mk as.toArray).heap = H := hT
  rw [hTH] at hfrm
  obtain ⟨e2, q2, q3, q4, q5, q6⟩ := hsm
  have e3 : s₂ = ({ (T.calling g mk as.toArray).setFrames s₂.frames with heap := s₂.heap, slotsUsed := s₂.slotsUsed } : State).setVm s₂.vm := by
    have : s₂ = ({ s₂ with vm := (T.calling g mk as.toArray).vm } : State).setVm s₂.vm := rfl
    have e2' : ({ s₂ with vm := (T.calling g mk as.toArray).vm } : State) = { (T.calling g mk as.toArray).setFrames s₂.frames with heap := s₂.heap, slotsUsed := s₂.slotsUsed } := e2
    rw [e2'] at this
    exact this
  have hsame : T.sameButNew ({ T with heap := s₂.heap, slotsUsed := s₂.slotsUsed } : State) L rm.cells rm.slots := by
    refine ⟨?_, q2, q3, q4, q5, q6⟩
    obtain ⟨t, ht, -⟩ := State.frames_cons hr
    show ({ T with heap := s₂.heap, slotsUsed := s₂.slotsUsed } : State) = { T.setFrames T.frames with heap := s₂.heap, slotsUsed := s₂.slotsUsed }
    rw [State.setFrames_self ht]
  subst hg
  refine ⟨o, (({ T with heap := s₂.heap, slotsUsed := s₂.slotsUsed } : State).setVm s₂.vm), L,
    ⟨X.admits, X.cas, X.clock, X.frames, X.room, X.hears, X.method, X.code, (X.here.setHeapUsed s₂.heap s₂.slotsUsed).setVm hW'.alike, X.tail, State.WarmedH.trans X.warmed hW', X.limits, X.bytes, X.same.trans (hsame.setVm s.vm)⟩, hq, hL, hfrm.1, fun q hq1 hq2 => hfrm.2 q hq1 (fun z hz hzq => hq2 (hzq ▸ hL z hz)), ?_⟩
  cases o with
  | returned v =>
    obtain ⟨c₂, i₂, len₂, hc₂, hd₂, hf₂⟩ := hend
    have hcc : c₂ = c := by
      have h1 : s₂.code? g.method = T.code? g.method := by
        rw [State.code?_eq, State.code?_eq, hW'.alike.method?]
      exact Option.some.inj (hc₂.symm.trans (h1.trans h.code))
    subst hcc
    have hlen : len₂ = len := by rw [hdg] at hd₂; cases hd₂; rfl
    subst hlen
    have hs₂ : s₂ = (({ T with heap := s₂.heap, slotsUsed := s₂.slotsUsed } : State).setVm s₂.vm).setTop { g with pc := g.pc + len₂, stack := v.toList ++ g.stack } := by
      refine e3.trans ?_
      rw [hf₂, State.calling_eq h.top, State.setFrames_setFrames, State.setTop_of_frames _ hr', hr]
      rfl
    show Steps p.tables e below _ ((({ T with heap := s₂.heap, slotsUsed := s₂.slotsUsed } : State).setVm s₂.vm).setTop { g with pc := g.pc + len₂, stack := v.toList ++ g.stack })
    rw [← hs₂]
    exact hsteps
  | threw q =>
    have hf₂ : s₂.frames = .throwing q :: .java g :: T.frames.tail := hend
    have hs₂ : s₂ = ((({ T with heap := s₂.heap, slotsUsed := s₂.slotsUsed } : State).setVm s₂.vm).setTop g).pushFrame (.throwing q) := by
      refine e3.trans ?_
      rw [hf₂, State.calling_eq h.top, State.setFrames_setFrames, State.pushFrame, State.frames_setTop _ hr', State.setTop_of_frames _ hr', State.setFrames_setFrames, hr]
      rfl
    show Steps p.tables e below _ (((({ T with heap := s₂.heap, slotsUsed := s₂.slotsUsed } : State).setVm s₂.vm).setTop g).pushFrame (.throwing q))
    rw [← hs₂]
    exact hsteps
/-- an exception q is on its way at the frame g -/
def Wt (p : Program) (l : Launch) (e : Env) (R : Room) (s : State) (m : MethodId) (args : Array Value) (below : List Frame) (meth : Method) (c : Code) (H : Heap) (locs : List Loc) (cells slots : Nat) (Z : State → Prop) (g : JFrame) (q : Addr) : Prop :=
  ∀ T : State, T.heap = H → Stand p l e R s m args below meth c T locs cells slots → ∃ t, Steps p.tables e below ((T.setTop g).pushFrame (.throwing q)) t ∧ Z t
end MXB
end
section
section MXC
variable {p : Program} {l : Launch} {e : Env} {R : Room} {s : State} {m : MethodId} {args : Array Value} {below : List Frame} {meth : Method} {c : Code} {H : Heap} {locs : List Loc} {cells slots : Nat} {s0 : State} {T : State}
/-- the callee's descriptor has n parameters; it is no method handle's -/
def mx_N (y : MethodName) (n : Nat) : Prop := (y.cls ≠ "java/lang/invoke/MethodHandle" ∧ y.cls ≠ "java/lang/invoke/VarHandle") ∧ (parseMethodDescriptor y.desc).map (fun d => d.parameters.length) = some n
theorem mx_N.len {y : MethodName} {n : Nat} (h : mx_N y n) {sig : MethodDescriptor} (hs : parseMethodDescriptor y.desc = some sig) : n = sig.parameters.length := by
  have h2 := h.2
  rw [hs] at h2
  exact (Option.some.inj h2).symm
theorem mx_invS (X : Stand p l e R s m args below meth c T locs cells slots) (hexec : p.tables.exec = Jvm.exec) {own : String} {index n : Nat} {y : MethodName} {bytes : ByteArray} {maxL : Nat} {ret : Option FieldType}
    (hown : s.vm.findClass own = some m.cls) (hlink : (Cond.methodLink own index y).before args s = true) (hstat : (Cond.static y).before args s = true) (hinit : (Cond.initialized y.cls).before args s = true)
    (hcode : (Cond.code y bytes maxL ret).before args s = true) (hy : mx_N y n)
    {g : JFrame} (hg : g.method = m) {as rest : List Value} (hn : as.length = n)
    (hstack : g.stack = as.reverse ++ rest) (hdg : decode c.code g.pc = .ok (.invokestatic index, 3)) : mx_Inv p l e R s m args below meth c T locs cells slots g { g with stack := rest } y as := by
  obtain ⟨mk, hnamed⟩ := Cond.code_named hcode
  obtain ⟨methM, cM, hmethM, -, -, -, -, -, -, hsigM⟩ := Cond.code_spec hnamed hcode
  have hstatic : methM.isStatic = true := Cond.static_spec hnamed hmethM hstat
  obtain ⟨kP, hkP, -⟩ := className_of_methodNamed hnamed
  have hinitP : kP.init = .initialized := Cond.initialized_spec (findClass_of_methodNamed hnamed) hkP hinit
  obtain ⟨vm₁, X₁, hstep₁⟩ := X.invokestatic hexec hown hlink hnamed hmethM hstatic hkP hinitP hy.1 (g := g) hg (argsL := as) (rest := rest) (hn.trans (hy.len hsigM)) hstack hdg
  exact ⟨vm₁, mk, X₁, X₁.named hnamed, hstep₁⟩
theorem mx_invSW (X : Stand p l e R s m args below meth c T locs cells slots) (hexec : p.tables.exec = Jvm.exec) {own : String} {index n : Nat} {y : MethodName} {bytes : ByteArray} {maxL : Nat} {ret : Option FieldType} {hh : List (Nat × Nat × Nat × Nat)}
    (hown : s.vm.findClass own = some m.cls) (hlink : (Cond.methodLink own index y).before args s = true) (hstat : (Cond.static y).before args s = true) (hinit : (Cond.initialized y.cls).before args s = true)
    (hcode : (Cond.codeWith y bytes maxL ret hh).before args s = true) (hy : mx_N y n)
    {g : JFrame} (hg : g.method = m) {as rest : List Value} (hn : as.length = n)
    (hstack : g.stack = as.reverse ++ rest) (hdg : decode c.code g.pc = .ok (.invokestatic index, 3)) : mx_Inv p l e R s m args below meth c T locs cells slots g { g with stack := rest } y as := by
  obtain ⟨mk, methM, cM, hnamed, hmethM, -, -, -, -, -, -, hsigM⟩ := Cond.codeWith_spec hcode
  have hstatic : methM.isStatic = true := Cond.static_spec hnamed hmethM hstat
  obtain ⟨kP, hkP, -⟩ := className_of_methodNamed hnamed
  have hinitP : kP.init = .initialized := Cond.initialized_spec (findClass_of_methodNamed hnamed) hkP hinit
  obtain ⟨vm₁, X₁, hstep₁⟩ := X.invokestatic hexec hown hlink hnamed hmethM hstatic hkP hinitP hy.1 (g := g) hg (argsL := as) (rest := rest) (hn.trans (hy.len hsigM)) hstack hdg
  exact ⟨vm₁, mk, X₁, X₁.named hnamed, hstep₁⟩
theorem mx_invSN (X : Stand p l e R s m args below meth c T locs cells slots) (hexec : p.tables.exec = Jvm.exec) {own host : String} {index n : Nat} {y : MethodName} {bytes : ByteArray} {maxL : Nat} {ret : Option FieldType}
    (hown : s.vm.findClass own = some m.cls) (hlink : (Cond.methodLinkNest own index y host).before args s = true) (hstat : (Cond.static y).before args s = true) (hinit : (Cond.initialized y.cls).before args s = true)
    (hcode : (Cond.code y bytes maxL ret).before args s = true) (hy : mx_N y n)
    {g : JFrame} (hg : g.method = m) {as rest : List Value} (hn : as.length = n)
    (hstack : g.stack = as.reverse ++ rest) (hdg : decode c.code g.pc = .ok (.invokestatic index, 3)) : mx_Inv p l e R s m args below meth c T locs cells slots g { g with stack := rest } y as := by
  obtain ⟨mk, hnamed⟩ := Cond.code_named hcode
  obtain ⟨methM, cM, hmethM, -, -, -, -, -, -, hsigM⟩ := Cond.code_spec hnamed hcode
  have hstatic : methM.isStatic = true := Cond.static_spec hnamed hmethM hstat
  obtain ⟨kP, hkP, -⟩ := className_of_methodNamed hnamed
  have hinitP : kP.init = .initialized := Cond.initialized_spec (findClass_of_methodNamed hnamed) hkP hinit
  obtain ⟨vm₁, X₁, hstep₁⟩ := X.invokestaticNest hexec hown hlink hnamed hmethM hstatic hkP hinitP hy.1 (g := g) hg (argsL := as) (rest := rest) (hn.trans (hy.len hsigM)) hstack hdg
  exact ⟨vm₁, mk, X₁, X₁.named hnamed, hstep₁⟩
/-- an object of the class C lies at b -/
def mx_Ob (s : State) (H : Heap) (C : String) (b : Addr) : Prop := ∃ cell : Cell, H[b]? = some cell ∧ cell.vm.isStatics = false ∧ s.vm.findClass C = some cell.cls
theorem mx_invV (X : Stand p l e R s m args below meth c T locs cells slots) (hT : T.heap = H) (hexec : p.tables.exec = Jvm.exec) {own C : String} {index n : Nat} {y : MethodName} {bytes : ByteArray} {maxL : Nat} {ret : Option FieldType}
    (hown : s.vm.findClass own = some m.cls) (hlink : (Cond.methodLink own index y).before args s = true) (hinst : (Cond.instanceMethod y).before args s = true) (hsel : (Cond.selects C y y).before args s = true)
    (hcode : (Cond.code y bytes maxL ret).before args s = true) (hy : mx_N y n) {b : Addr} (hb : mx_Ob s H C b)
    {g : JFrame} (hg : g.method = m) {as rest : List Value} (hn : as.length = n)
    (hstack : g.stack = as.reverse ++ .ref b :: rest) (hdg : decode c.code g.pc = .ok (.invokevirtual index, 3)) : mx_Inv p l e R s m args below meth c T locs cells slots g { g with stack := rest } y (.ref b :: as) := by
  subst hT
  obtain ⟨cellB, hcell, hobj, hcls⟩ := hb
  obtain ⟨mk, methM, hnamed, hmethM, hstM, habM⟩ := Cond.instanceMethod_spec hinst
  obtain ⟨methM', cM, hmethM', -, -, -, -, -, -, hsigM⟩ := Cond.code_spec hnamed hcode
  cases hmethM.symm.trans hmethM'
  obtain ⟨c2, r2, m2, q1, q2, q3, q4, kP, hkP, hkPi⟩ := Cond.selects_spec hsel
  cases hcls.symm.trans q1
  cases (State.methodFound?_of_named hnamed hy.1).symm.trans q2
  cases hnamed.symm.trans q3
  have hselP : selectMethod e.platform s.vm cellB.cls mk = .method mk := by rw [Launch.admits_selectMethod X.admits]; exact q4
  obtain ⟨vm₁, X₁, hstep₁⟩ := X.invokevirtual hexec hown hlink hnamed hmethM hstM hkP hkPi hy.1 (a := b) (cell := cellB) hcell
    (fun z h => by rw [h] at hobj; cases hobj) hselP hmethM habM hkP hkPi (g := g) hg (argsL := as) (rest := rest) (hn.trans (hy.len hsigM)) hstack hdg
  exact ⟨vm₁, mk, X₁, X₁.named hnamed, hstep₁⟩
theorem mx_invU (X : Stand p l e R s m args below meth c T locs cells slots) (hT : T.heap = H) (hexec : p.tables.exec = Jvm.exec) {own C owner : String} {index n : Nat} {x y : MethodName}
    (hown : s.vm.findClass own = some m.cls) (hlink : (Cond.methodLink own index x).before args s = true) (hsame : (Cond.sameMethod x.cls owner x.name x.desc).before args s = true)
    (hd0 : va_Decl s ⟨owner, x.name, x.desc⟩) (howner : owner ≠ "java/lang/invoke/MethodHandle" ∧ owner ≠ "java/lang/invoke/VarHandle")
    (hsel : (Cond.selects C x y).before args s = true) (hinst : (Cond.instanceMethod y).before args s = true) (hy : mx_N x n) {b : Addr} (hb : mx_Ob s H C b)
    {g : JFrame} (hg : g.method = m) {as rest : List Value} (hn : as.length = n)
    (hstack : g.stack = as.reverse ++ .ref b :: rest) (hdg : decode c.code g.pc = .ok (.invokevirtual index, 3)) : mx_Inv p l e R s m args below meth c T locs cells slots g { g with stack := rest } y (.ref b :: as) := by
  subst hT
  obtain ⟨cellB, hcell, hobj, hcls⟩ := hb
  obtain ⟨r0, r, hnm, hrm, hstR, hsigR⟩ := hd0
  obtain ⟨cn, ck, r1, hcn, hck, hni, hf, hn1⟩ := Cond.sameMethod_found hsame
  cases hnm.symm.trans hn1
  obtain ⟨mk, methM, hnamed, hmethM, -, habM⟩ := Cond.instanceMethod_spec hinst
  obtain ⟨c2, r2, m2, q1, q2, q3, q4, kP, hkP, hkPi⟩ := Cond.selects_spec hsel
  cases hcls.symm.trans q1
  cases hf.symm.trans q2
  cases hnamed.symm.trans q3
  have hselP : selectMethod e.platform s.vm cellB.cls r0 = .method mk := by rw [Launch.admits_selectMethod X.admits]; exact q4
  obtain ⟨vm₁, X₁, hstep₁⟩ := X.invokevirtualUp hexec hown hlink hsame howner hnm hrm hstR (a := b) (cell := cellB) hcell
    (fun z h => by rw [h] at hobj; cases hobj) hselP hmethM habM hkP hkPi (g := g) hg (argsL := as) (rest := rest) (hn.trans (hy.len hsigR)) hstack hdg
  exact ⟨vm₁, mk, X₁, X₁.named hnamed, hstep₁⟩
theorem mx_invI (X : Stand p l e R s m args below meth c T locs cells slots) (hexec : p.tables.exec = Jvm.exec) {own : String} {index n : Nat} {y : MethodName} {bytes : ByteArray} {maxL : Nat}
    (hown : s.vm.findClass own = some m.cls) (hy1 : y.name = "<init>") (hlink : (Cond.methodLink own index y).before args s = true) (hinst : (Cond.instanceMethod y).before args s = true)
    (hcode : (Cond.code y bytes maxL none).before args s = true) (hy : mx_N y n)
    {g : JFrame} (hg : g.method = m) {a : Addr} {as rest : List Value} (hn : as.length = n)
    (hstack : g.stack = as.reverse ++ .ref a :: rest) (hdg : decode c.code g.pc = .ok (.invokespecial index, 3)) : mx_Inv p l e R s m args below meth c T locs cells slots g { g with stack := rest } y (.ref a :: as) := by
  subst hg
  have hpl : e.platform.magicAccessors = ({} : Platform).magicAccessors := by rw [X.admits.platform]
  obtain ⟨mk, methM, cM, kP, vm₁, hnamed, hmethM, hcodeM, -, hlocalsM, -, hkP, -, hW₁, hstep₁⟩ := Steps.initColdArgs (e := e) X.here hexec X.warmed hpl hown hy1 hy.1 hlink hinst hcode (f := g) rfl (fun sig h => hn.trans (hy.len h)) hstack hdg
  have X₁ := X.noted hW₁
  exact ⟨vm₁, mk, X₁, X₁.named hnamed, hstep₁⟩
theorem mx_invIN (X : Stand p l e R s m args below meth c T locs cells slots) (hexec : p.tables.exec = Jvm.exec) {own host : String} {index n : Nat} {y : MethodName} {bytes : ByteArray} {maxL : Nat}
    (hown : s.vm.findClass own = some m.cls) (hy1 : y.name = "<init>") (hlink : (Cond.methodLinkNest own index y host).before args s = true) (hinst : (Cond.instanceMethod y).before args s = true)
    (hcode : (Cond.code y bytes maxL none).before args s = true) (hy : mx_N y n)
    {g : JFrame} (hg : g.method = m) {a : Addr} {as rest : List Value} (hn : as.length = n)
    (hstack : g.stack = as.reverse ++ .ref a :: rest) (hdg : decode c.code g.pc = .ok (.invokespecial index, 3)) : mx_Inv p l e R s m args below meth c T locs cells slots g { g with stack := rest } y (.ref a :: as) := by
  subst hg
  have hpl : e.platform.magicAccessors = ({} : Platform).magicAccessors := by rw [X.admits.platform]
  obtain ⟨mk, methM, cM, kP, vm₁, hnamed, hmethM, hcodeM, -, hlocalsM, -, hkP, -, hW₁, hstep₁⟩ := Steps.initColdArgsNest (e := e) X.here hexec X.warmed hpl hown hy1 hy.1 hlink hinst hcode (f := g) rfl (fun sig h => hn.trans (hy.len h)) hstack hdg
  have X₁ := X.noted hW₁
  exact ⟨vm₁, mk, X₁, X₁.named hnamed, hstep₁⟩
/-- the words of the callee's own: its code, its class -/
def mx_Cd (s : State) (y : MethodName) (cw : Cond) (maxL : Nat) : Prop :=
  (∀ (a : Array Value) (U : State), s.WarmedH U.vm → cw.before a U = true ∧ (Cond.initialized y.cls).before a U = true ∧ ∀ mY, U.methodNamed? y = some mY → ∃ methY cY, U.vm.method? mY = some methY ∧ methY.code = some cY ∧ cY.maxLocals = maxL)
/-- A CALL: what comes back, or flies on -/
theorem mx_call {Z : State → Prop} {pc : Nat} {ls : Array Slot} {st0 rest as : List Value} {ig : Instr} {maxL nL : Nat} {y : MethodName} {cw : Cond} {rm : Room} {F : Nat → Prop} {Q : Outcome → Heap → Prop}
    (hM : Mx l s0 y cw rm as H F Q) (hW0 : s0.WarmedH s.vm) (hI : ∀ T, T.heap = H → Stand p l e R s m args below meth c T locs cells slots → mx_Inv p l e R s m args below meth c T locs cells slots (F0 m pc ls st0) (F0 m pc ls rest) y as)
    (hml : c.maxLocals = nL) (hsz : ls.size = nL) (hdg : decode c.code pc = .ok (ig, 3)) (hCd : mx_Cd s y cw maxL)
    (hR : rm.frames + 1 ≤ R.frames ∧ 8 + (maxL + 11) + rm.locals ≤ R.locals) (hc : cells + rm.cells ≤ R.cells) (hs : slots + rm.slots ≤ R.slots) (hw : (rest.map fun v => v.category).sum ≤ 8)
    (kr : ∀ v H1 L, Q (.returned v) H1 → H.size ≤ H1.size → (∀ q : Nat, q < H.size → ¬ F q → H1[q]? = H[q]?) → (∀ q ∈ L, F q.base) → W p l e R s m args below meth c H1 (locs ++ L) (cells + rm.cells) (slots + rm.slots) Z (F0 m (pc + 3) ls (v.toList ++ rest)))
    (kt : ∀ q H1 L, Q (.threw q) H1 → H.size ≤ H1.size → (∀ q : Nat, q < H.size → ¬ F q → H1[q]? = H[q]?) → (∀ q ∈ L, F q.base) → Wt p l e R s m args below meth c H1 (locs ++ L) (cells + rm.cells) (slots + rm.slots) Z (F0 m pc ls rest) q) :
    W p l e R s m args below meth c H locs cells slots Z (F0 m pc ls st0) := by
  intro T hT X
  obtain ⟨vm₁, mk, X₁, hn, hst⟩ := hI T hT X
  obtain ⟨w1, w2, w3⟩ := hCd as.toArray (T.setVm vm₁) X₁.warmed
  obtain ⟨o, U, L, XU, hq, hL, hz, hk, hsteps⟩ := mx_back (W9 := 8) hM (T := T.setVm vm₁) hT X₁ hW0 (g := F0 m pc ls rest) rfl (hsz.trans hml.symm) hdg w1 w3 w2 hR.1 hR.2 hc hs (lv_room hw) hn
  cases o with
  | returned v =>
    obtain ⟨t, a1, b1⟩ := kr v U.heap L hq hz hk hL U rfl XU
    exact ⟨t, hst t (fun acts => by rw [doInvoke_state]; exact hsteps.trans a1), b1⟩
  | threw q =>
    obtain ⟨t, a1, b1⟩ := kt q U.heap L hq hz hk hL U rfl XU
    exact ⟨t, hst t (fun acts => by rw [doInvoke_state]; exact hsteps.trans a1), b1⟩
/-- the ends of what a method gives: a value, the heap as it was -/
def Rd (H : Heap) (v : Value) : Outcome → Heap → Prop := fun o H1 => o = .returned (some v) ∧ H1 = H
/-- a value, a new heap -/
def Rw (v : Value) (P : Heap → Prop) : Outcome → Heap → Prop := fun o H1 => o = .returned (some v) ∧ P H1
/-- nothing, a new heap -/
def Rn (P : Heap → Prop) : Outcome → Heap → Prop := fun o H1 => o = .returned none ∧ P H1
/-- a call that reads alone -/
theorem mx_callR {Z : State → Prop} {pc : Nat} {ls : Array Slot} {st0 rest as : List Value} {ig : Instr} {maxL nL : Nat} {y : MethodName} {cw : Cond} {rm : Room} {r : Value}
    (hM : Mx l s0 y cw rm as H (fun _ => False) (Rd H r)) (hW0 : s0.WarmedH s.vm) (hI : ∀ T, T.heap = H → Stand p l e R s m args below meth c T locs cells slots → mx_Inv p l e R s m args below meth c T locs cells slots (F0 m pc ls st0) (F0 m pc ls rest) y as)
    (hml : c.maxLocals = nL) (hsz : ls.size = nL) (hdg : decode c.code pc = .ok (ig, 3)) (hCd : mx_Cd s y cw maxL)
    (hR : rm.frames + 1 ≤ R.frames ∧ 8 + (maxL + 11) + rm.locals ≤ R.locals) (h0 : rm.cells = 0) (h1 : rm.slots = 0) (hc : cells ≤ R.cells) (hs : slots ≤ R.slots) (hw : (rest.map fun v => v.category).sum ≤ 8)
    (kk : W p l e R s m args below meth c H locs cells slots Z (F0 m (pc + 3) ls (r :: rest))) : W p l e R s m args below meth c H locs cells slots Z (F0 m pc ls st0) := by
  refine mx_call hM hW0 hI hml hsz hdg hCd hR (by rw [h0]; exact hc) (by rw [h1]; exact hs) hw (fun v H1 L hq _ _ hL => ?_) (fun q H1 L hq _ _ _ => by cases hq.1)
  obtain ⟨hv, rfl⟩ := hq
  cases hv
  rw [h0, h1]
  intro T hT X
  exact kk T hT (Stand.forget X (fun q h => (hL q h).elim))
/-- a call that writes: a value comes -/
theorem mx_callW {Z : State → Prop} {pc : Nat} {ls : Array Slot} {st0 rest as : List Value} {ig : Instr} {maxL nL : Nat} {y : MethodName} {cw : Cond} {rm : Room} {r : Value} {F A : Nat → Prop} {P : Heap → Prop} {H0 : Heap}
    (hM : Mx l s0 y cw rm as H F (Rw r P)) (hW0 : s0.WarmedH s.vm) (hI : ∀ T, T.heap = H → Stand p l e R s m args below meth c T locs cells slots → mx_Inv p l e R s m args below meth c T locs cells slots (F0 m pc ls st0) (F0 m pc ls rest) y as)
    (hml : c.maxLocals = nL) (hsz : ls.size = nL) (hdg : decode c.code pc = .ok (ig, 3)) (hCd : mx_Cd s y cw maxL)
    (hR : rm.frames + 1 ≤ R.frames ∧ 8 + (maxL + 11) + rm.locals ≤ R.locals) (hc : cells + rm.cells ≤ R.cells) (hs : slots + rm.slots ≤ R.slots) (hw : (rest.map fun v => v.category).sum ≤ 8)
    (hS : va_S A H0 H locs) (hF : ∀ q, F q → A q)
    (kk : ∀ H1 locs1, P H1 → H.size ≤ H1.size → (∀ q : Nat, q < H.size → ¬ F q → H1[q]? = H[q]?) → va_S A H0 H1 locs1 → W p l e R s m args below meth c H1 locs1 (cells + rm.cells) (slots + rm.slots) Z (F0 m (pc + 3) ls (r :: rest))) : W p l e R s m args below meth c H locs cells slots Z (F0 m pc ls st0) := by
  refine mx_call hM hW0 hI hml hsz hdg hCd hR hc hs hw (fun v H1 L hq hz hk hL => ?_) (fun q H1 L hq _ _ _ => by cases hq.1)
  obtain ⟨hv, hp⟩ := hq
  cases hv
  refine kk H1 _ hp hz hk ⟨Nat.le_trans hS.1 hz, fun q h1 h2 => (hk q (Nat.lt_of_lt_of_le h1 hS.1) (fun z => h2 (hF q z))).trans (hS.2.1 q h1 h2), fun q hq => ?_⟩
  rcases List.mem_append.mp hq with h | h
  · exact hS.2.2 q h
  · exact hF _ (hL q h)
theorem mx_callN {Z : State → Prop} {pc : Nat} {ls : Array Slot} {st0 rest as : List Value} {ig : Instr} {maxL nL : Nat} {y : MethodName} {cw : Cond} {rm : Room} {F A : Nat → Prop} {P : Heap → Prop} {H0 : Heap}
    (hM : Mx l s0 y cw rm as H F (Rn P)) (hW0 : s0.WarmedH s.vm) (hI : ∀ T, T.heap = H → Stand p l e R s m args below meth c T locs cells slots → mx_Inv p l e R s m args below meth c T locs cells slots (F0 m pc ls st0) (F0 m pc ls rest) y as)
    (hml : c.maxLocals = nL) (hsz : ls.size = nL) (hdg : decode c.code pc = .ok (ig, 3)) (hCd : mx_Cd s y cw maxL)
    (hR : rm.frames + 1 ≤ R.frames ∧ 8 + (maxL + 11) + rm.locals ≤ R.locals) (hc : cells + rm.cells ≤ R.cells) (hs : slots + rm.slots ≤ R.slots) (hw : (rest.map fun v => v.category).sum ≤ 8)
    (hS : va_S A H0 H locs) (hF : ∀ q, F q → A q)
    (kk : ∀ H1 locs1, P H1 → H.size ≤ H1.size → (∀ q : Nat, q < H.size → ¬ F q → H1[q]? = H[q]?) → va_S A H0 H1 locs1 → W p l e R s m args below meth c H1 locs1 (cells + rm.cells) (slots + rm.slots) Z (F0 m (pc + 3) ls rest)) : W p l e R s m args below meth c H locs cells slots Z (F0 m pc ls st0) := by
  refine mx_call hM hW0 hI hml hsz hdg hCd hR hc hs hw (fun v H1 L hq hz hk hL => ?_) (fun q H1 L hq _ _ _ => by cases hq.1)
  obtain ⟨hv, hp⟩ := hq
  cases hv
  refine kk H1 _ hp hz hk ⟨Nat.le_trans hS.1 hz, fun q h1 h2 => (hk q (Nat.lt_of_lt_of_le h1 hS.1) (fun z => h2 (hF q z))).trans (hS.2.1 q h1 h2), fun q hq => ?_⟩
  rcases List.mem_append.mp hq with h | h
  · exact hS.2.2 q h
  · exact hF _ (hL q h)
/-- the ends -/
theorem mx_mq {Z : Outcome → Heap → Prop} {g : JFrame} {F : Nat → Prop} {k n : Nat} (h1 : cells ≤ k) (h2 : slots ≤ n) (h : W p l e R s m args below meth c H locs k n (MQ below (fun _ _ o t => Z o t.heap) args s k n F) g) : W p l e R s m args below meth c H locs cells slots (MQx below Z s k n F) g := by
  intro T hT X
  obtain ⟨t, a1, o, b1, b2, b3, L, ⟨-, hW, hfr⟩, b5⟩ := h T hT (stand_widen X h1 h2)
  exact ⟨t, a1, o, b1, b2, b3, hW, L, hfr, b5⟩
variable {Z : Outcome → Heap → Prop} {F : Nat → Prop} {k n pc : Nat} {cc : ByteArray} {ls : Array Slot}
theorem mx_iret {v : Int32} (hx : p.tables.exec = Jvm.exec) (hb : c.code = cc) (hr : meth.sig.returnType = some .int) (hlocks : meth.locks = false) (hdg : decode cc pc = .ok (.ireturn, 1)) (h1 : cells ≤ k) (h2 : slots ≤ n) (hf : ∀ q ∈ locs, F q.base) (hq : Z (.returned (some (.int v))) H) : W p l e R s m args below meth c H locs cells slots (MQx below Z s k n F) (F0 m pc ls [.int v]) :=
  mx_mq h1 h2 (W.iret hx hb hr (fun t ht _ => by rw [ht]; exact hq) hf hdg hlocks)
theorem mx_zret {v : Int32} (hx : p.tables.exec = Jvm.exec) (hb : c.code = cc) (hr : meth.sig.returnType = some .boolean) (hlocks : meth.locks = false) (hdg : decode cc pc = .ok (.ireturn, 1)) (h1 : cells ≤ k) (h2 : slots ≤ n) (hf : ∀ q ∈ locs, F q.base) (hn : narrow .boolean (.int v) = .int v) (hq : Z (.returned (some (.int v))) H) : W p l e R s m args below meth c H locs cells slots (MQx below Z s k n F) (F0 m pc ls [.int v]) :=
  mx_mq h1 h2 (W.zret hx hb hr hn (fun t ht _ => by rw [ht]; exact hq) hf hdg hlocks)
theorem mx_lret {v : Int64} (hx : p.tables.exec = Jvm.exec) (hb : c.code = cc) (hr : meth.sig.returnType = some .long) (hlocks : meth.locks = false) (hdg : decode cc pc = .ok (.lreturn, 1)) (h1 : cells ≤ k) (h2 : slots ≤ n) (hf : ∀ q ∈ locs, F q.base) (hq : Z (.returned (some (.long v))) H) : W p l e R s m args below meth c H locs cells slots (MQx below Z s k n F) (F0 m pc ls [.long v]) :=
  mx_mq h1 h2 (W.lret hx hb hr (fun t ht _ => by rw [ht]; exact hq) hf hdg hlocks)
theorem mx_vret (hx : p.tables.exec = Jvm.exec) (hb : c.code = cc) (hr : meth.sig.returnType = none) (hlocks : meth.locks = false) (hdg : decode cc pc = .ok (.return_, 1)) (h1 : cells ≤ k) (h2 : slots ≤ n) (hf : ∀ q ∈ locs, F q.base) (hq : Z (.returned none) H) : W p l e R s m args below meth c H locs cells slots (MQx below Z s k n F) (F0 m pc ls []) :=
  mx_mq h1 h2 (W.vret hx hb hr (fun t ht _ => by rw [ht]; exact hq) hf hdg hlocks)
theorem mx_aret {v : Value} {rt : FieldType} (hx : p.tables.exec = Jvm.exec) (hb : c.code = cc) (hr : meth.sig.returnType = some rt) (hrt : (∃ n, rt = .object n) ∨ ∃ t, rt = .array t) (hlocks : meth.locks = false) (hdg : decode cc pc = .ok (.areturn, 1)) (h1 : cells ≤ k) (h2 : slots ≤ n) (hf : ∀ q ∈ locs, F q.base) (hv : v = .null ∨ ∃ a, v = .ref a) (hq : Z (.returned (some v)) H) : W p l e R s m args below meth c H locs cells slots (MQx below Z s k n F) (F0 m pc ls [v]) :=
  mx_mq h1 h2 (W.aret hx hb hr hrt hv (fun t ht _ => by rw [ht]; exact hq) hf hdg hlocks)
/-- an exception that nobody here catches -/
theorem mx_out {rest : List Value} {q : Addr} (het : c.exceptionTable.toList = []) (hlocks : meth.locks = false) (h1 : cells ≤ k) (h2 : slots ≤ n) (hf : ∀ q ∈ locs, F q.base) (hq : Z (.threw q) H) :
    Wt p l e R s m args below meth c H locs cells slots (MQx below Z s k n F) (F0 m pc ls rest) q := by
  intro T hT X
  obtain ⟨st1, hrun, hend, hW, hsm⟩ := X.leaveThrown q (g := F0 m pc ls rest) rfl rfl rfl (fun x hx => by rw [het] at hx; cases hx) hlocks
  exact ⟨_, st1, .threw q, hrun, hend, by show Z _ T.heap; rw [hT]; exact hq, hW, locs, hsm.mono h1 h2, hf⟩
end MXC
end
section
abbrev R_F : String := "FewBits"
abbrev R_B : String := "FewBits$Buckets"
abbrev R_C : String := "FewBits$Counters"
abbrev R_P : String := "FewBits$Filter"
abbrev R_R : String := "FewBits$Runs"
abbrev R_M : String := "FewBitsModel"
abbrev R_L : String := "FewBitsLaw"
abbrev R_A : String := "java/util/Arrays"
def T_C : u_T := fun k => match k with
  | 0 => ("FewBits$Filter", "a", "I", false)
  | 1 => ("FewBits$Filter", "b", "I", false)
  | 2 => ("FewBits$Filter", "held", "I", false)
  | 3 => ("FewBits$Counters", "counters", "[I", true)
  | 4 => ("FewBits$Counters", "places", "[I", true)
  | _ => ("FewBits$Counters", "placesBeside", "[I", true)
def t_C : Nat → FieldType := fun k => match k with
  | 0 => .int
  | 1 => .int
  | 2 => .int
  | 3 => .array .int
  | 4 => .array .int
  | _ => .array .int
theorem nm_C : ∀ a, a < 6 → ∀ b, b < 6 → a ≠ b → (T_C a).2.1 ≠ (T_C b).2.1 := by decide +kernel
theorem to_C : ∀ k, k < 6 → parseFieldDescriptor (T_C k).2.2.1 = some (t_C k) := by decide +kernel
def T_B : u_T := fun k => match k with
  | 0 => ("FewBits$Filter", "a", "I", false)
  | 1 => ("FewBits$Filter", "b", "I", false)
  | 2 => ("FewBits$Filter", "held", "I", false)
  | 3 => ("FewBits$Buckets", "slots", "[I", true)
  | 4 => ("FewBits$Buckets", "path", "[I", true)
  | _ => ("FewBits$Buckets", "pushed", "I", false)
def t_B : Nat → FieldType := fun k => match k with
  | 0 => .int
  | 1 => .int
  | 2 => .int
  | 3 => .array .int
  | 4 => .array .int
  | _ => .int
theorem nm_B : ∀ a, a < 6 → ∀ b, b < 6 → a ≠ b → (T_B a).2.1 ≠ (T_B b).2.1 := by decide +kernel
theorem to_B : ∀ k, k < 6 → parseFieldDescriptor (T_B k).2.2.1 = some (t_B k) := by decide +kernel
def T_R : u_T := fun k => match k with
  | 0 => ("FewBits$Filter", "a", "I", false)
  | 1 => ("FewBits$Filter", "b", "I", false)
  | 2 => ("FewBits$Filter", "held", "I", false)
  | 3 => ("FewBits$Runs", "pairs", "[I", true)
  | _ => ("FewBits$Runs", "circle", "[I", true)
def t_R : Nat → FieldType := fun k => match k with
  | 0 => .int
  | 1 => .int
  | 2 => .int
  | 3 => .array .int
  | _ => .array .int
theorem nm_R : ∀ a, a < 5 → ∀ b, b < 5 → a ≠ b → (T_R a).2.1 ≠ (T_R b).2.1 := by decide +kernel
theorem to_R : ∀ k, k < 5 → parseFieldDescriptor (T_R k).2.2.1 = some (t_R k) := by decide +kernel
def T_F : u_T := fun k => match k with
  | 0 => ("FewBits", "filters", "[LFewBits$Filter;", true)
  | _ => ("FewBits", "made", "[LFewBits$Filter;", true)
def t_F : Nat → FieldType := fun k => match k with
  | 0 => .array (.object "FewBits$Filter")
  | _ => .array (.object "FewBits$Filter")
theorem nm_F : ∀ a, a < 2 → ∀ b, b < 2 → a ≠ b → (T_F a).2.1 ≠ (T_F b).2.1 := by decide +kernel
theorem to_F : ∀ k, k < 2 → parseFieldDescriptor (T_F k).2.2.1 = some (t_F k) := by decide +kernel
def T_M : u_T := fun k => match k with
  | 0 => ("FewBitsModel", "thrown", "I", false)
  | 1 => ("FewBitsModel", "kinds", "[I", true)
  | 2 => ("FewBitsModel", "as", "[I", true)
  | 3 => ("FewBitsModel", "bs", "[I", true)
  | 4 => ("FewBitsModel", "sizes", "[I", true)
  | 5 => ("FewBitsModel", "pushed", "[I", true)
  | 6 => ("FewBitsModel", "cells", "[I", true)
  | 7 => ("FewBitsModel", "pairs", "[I", true)
  | 8 => ("FewBitsModel", "tried", "[I", true)
  | 9 => ("FewBitsModel", "slots", "[I", true)
  | 10 => ("FewBitsModel", "places", "[I", true)
  | _ => ("FewBitsModel", "others", "[I", true)
def t_M : Nat → FieldType := fun k => match k with
  | 0 => .int
  | 1 => .array .int
  | 2 => .array .int
  | 3 => .array .int
  | 4 => .array .int
  | 5 => .array .int
  | 6 => .array .int
  | 7 => .array .int
  | 8 => .array .int
  | 9 => .array .int
  | 10 => .array .int
  | _ => .array .int
theorem nm_M : ∀ a, a < 12 → ∀ b, b < 12 → a ≠ b → (T_M a).2.1 ≠ (T_M b).2.1 := by decide +kernel
theorem to_M : ∀ k, k < 12 → parseFieldDescriptor (T_M k).2.2.1 = some (t_M k) := by decide +kernel
abbrev vcl : List vw_C := [(R_C, T_C, 6), (R_B, T_B, 6), (R_R, T_R, 5), (R_F, T_F, 2), (R_M, T_M, 12)]
abbrev b_F_init : ByteArray := prog_1_method_1_code
def y_F_init : MethodName := ⟨"FewBits", "<init>", "()V"⟩
abbrev b_F_mix : ByteArray := prog_1_method_2_code
def y_F_mix : MethodName := ⟨"FewBits", "mix", "(JI)J"⟩
abbrev b_F_make : ByteArray := prog_1_method_3_code
def y_F_make : MethodName := ⟨"FewBits", "make", "(IIII)V"⟩
abbrev b_F_add : ByteArray := prog_1_method_4_code
def y_F_add : MethodName := ⟨"FewBits", "add", "(IJ)I"⟩
abbrev b_F_addAll : ByteArray := prog_1_method_5_code
def y_F_addAll : MethodName := ⟨"FewBits", "addAll", "(IJJI)I"⟩
abbrev b_F_remove : ByteArray := prog_1_method_6_code
def y_F_remove : MethodName := ⟨"FewBits", "remove", "(IJ)I"⟩
abbrev b_F_has : ByteArray := prog_1_method_7_code
def y_F_has : MethodName := ⟨"FewBits", "has", "(IJ)Z"⟩
abbrev b_F_hasAll : ByteArray := prog_1_method_8_code
def y_F_hasAll : MethodName := ⟨"FewBits", "hasAll", "(IJJI)I"⟩
abbrev b_F_same : ByteArray := prog_1_method_9_code
def y_F_same : MethodName := ⟨"FewBits", "same", "(IJJ)Z"⟩
abbrev b_F_count : ByteArray := prog_1_method_10_code
def y_F_count : MethodName := ⟨"FewBits", "count", "(II)I"⟩
abbrev b_F_cell : ByteArray := prog_1_method_11_code
def y_F_cell : MethodName := ⟨"FewBits", "cell", "(II)I"⟩
abbrev b_F_merge : ByteArray := prog_1_method_12_code
def y_F_merge : MethodName := ⟨"FewBits", "merge", "(II)I"⟩
abbrev b_F_grow : ByteArray := prog_1_method_13_code
def y_F_grow : MethodName := ⟨"FewBits", "grow", "(I)V"⟩
abbrev b_F_clear : ByteArray := prog_1_method_14_code
def y_F_clear : MethodName := ⟨"FewBits", "clear", "(I)I"⟩
abbrev b_F_mixed : ByteArray := prog_1_method_15_code
def y_F_mixed : MethodName := ⟨"FewBits", "mixed", "(JI)J"⟩
abbrev b_F_isNumber : ByteArray := prog_1_method_16_code
def y_F_isNumber : MethodName := ⟨"FewBits", "isNumber", "(I)Z"⟩
abbrev b_F_isWithin : ByteArray := prog_1_method_17_code
def y_F_isWithin : MethodName := ⟨"FewBits", "isWithin", "(III)Z"⟩
abbrev b_F_mayBe : ByteArray := prog_1_method_18_code
def y_F_mayBe : MethodName := ⟨"FewBits", "mayBe", "(III)Z"⟩
abbrev b_F_requireNumber : ByteArray := prog_1_method_19_code
def y_F_requireNumber : MethodName := ⟨"FewBits", "requireNumber", "(I)V"⟩
abbrev b_F_requireItems : ByteArray := prog_1_method_20_code
def y_F_requireItems : MethodName := ⟨"FewBits", "requireItems", "(I)V"⟩
abbrev b_F_filterAt : ByteArray := prog_1_method_21_code
def y_F_filterAt : MethodName := ⟨"FewBits", "filterAt", "(I)LFewBits$Filter;"⟩
abbrev b_F_filterFor : ByteArray := prog_1_method_22_code
def y_F_filterFor : MethodName := ⟨"FewBits", "filterFor", "(II)LFewBits$Filter;"⟩
abbrev b_F_newFilter : ByteArray := prog_1_method_23_code
def y_F_newFilter : MethodName := ⟨"FewBits", "newFilter", "(I)LFewBits$Filter;"⟩
abbrev b_F_asRuns : ByteArray := prog_1_method_24_code
def y_F_asRuns : MethodName := ⟨"FewBits", "asRuns", "(LFewBits$Filter;)LFewBits$Runs;"⟩
abbrev b_M_init : ByteArray := prog_7_method_1_code
def y_M_init : MethodName := ⟨"FewBitsModel", "<init>", "()V"⟩
abbrev b_M_thrown : ByteArray := prog_7_method_2_code
def y_M_thrown : MethodName := ⟨"FewBitsModel", "thrown", "()I"⟩
abbrev b_M_mixed : ByteArray := prog_7_method_3_code
def y_M_mixed : MethodName := ⟨"FewBitsModel", "mixed", "(JJ)J"⟩
abbrev b_M_mix : ByteArray := prog_7_method_4_code
def y_M_mix : MethodName := ⟨"FewBitsModel", "mix", "(JI)J"⟩
abbrev b_M_lowest : ByteArray := prog_7_method_5_code
def y_M_lowest : MethodName := ⟨"FewBitsModel", "lowest", "(JI)I"⟩
abbrev b_M_isNumber : ByteArray := prog_7_method_6_code
def y_M_isNumber : MethodName := ⟨"FewBitsModel", "isNumber", "(I)Z"⟩
abbrev b_M_wrong : ByteArray := prog_7_method_7_code
def y_M_wrong : MethodName := ⟨"FewBitsModel", "wrong", "(I)I"⟩
abbrev b_M_fingerprint : ByteArray := prog_7_method_8_code
def y_M_fingerprint : MethodName := ⟨"FewBitsModel", "fingerprint", "(IJ)I"⟩
abbrev b_M_firstBucket : ByteArray := prog_7_method_9_code
def y_M_firstBucket : MethodName := ⟨"FewBitsModel", "firstBucket", "(IJ)I"⟩
abbrev b_M_otherBucket : ByteArray := prog_7_method_10_code
def y_M_otherBucket : MethodName := ⟨"FewBitsModel", "otherBucket", "(III)I"⟩
abbrev b_M_pair : ByteArray := prog_7_method_11_code
def y_M_pair : MethodName := ⟨"FewBitsModel", "pair", "(IJ)I"⟩
abbrev b_M_findPlaces : ByteArray := prog_7_method_12_code
def y_M_findPlaces : MethodName := ⟨"FewBitsModel", "findPlaces", "(IJ[I)V"⟩
abbrev b_M_howOften : ByteArray := prog_7_method_13_code
def y_M_howOften : MethodName := ⟨"FewBitsModel", "howOften", "([III)I"⟩
abbrev b_M_slotWith : ByteArray := prog_7_method_14_code
def y_M_slotWith : MethodName := ⟨"FewBitsModel", "slotWith", "([IIII)I"⟩
abbrev b_M_isThere : ByteArray := prog_7_method_15_code
def y_M_isThere : MethodName := ⟨"FewBitsModel", "isThere", "(IJ)Z"⟩
abbrev b_M_findPair : ByteArray := prog_7_method_16_code
def y_M_findPair : MethodName := ⟨"FewBitsModel", "findPair", "(II)I"⟩
abbrev b_M_addCounted : ByteArray := prog_7_method_17_code
def y_M_addCounted : MethodName := ⟨"FewBitsModel", "addCounted", "(IJI)Z"⟩
abbrev b_M_addPrint : ByteArray := prog_7_method_18_code
def y_M_addPrint : MethodName := ⟨"FewBitsModel", "addPrint", "(IJ)Z"⟩
abbrev b_M_insertPair : ByteArray := prog_7_method_19_code
def y_M_insertPair : MethodName := ⟨"FewBitsModel", "insertPair", "(III)V"⟩
abbrev b_M_addPair : ByteArray := prog_7_method_20_code
def y_M_addPair : MethodName := ⟨"FewBitsModel", "addPair", "(IJ)Z"⟩
abbrev b_M_addOne : ByteArray := prog_7_method_21_code
def y_M_addOne : MethodName := ⟨"FewBitsModel", "addOne", "(IJ)Z"⟩
abbrev b_M_make : ByteArray := prog_7_method_22_code
def y_M_make : MethodName := ⟨"FewBitsModel", "make", "(IIII)V"⟩
abbrev b_M_empty : ByteArray := prog_7_method_23_code
def y_M_empty : MethodName := ⟨"FewBitsModel", "empty", "(I)V"⟩
abbrev b_M_add : ByteArray := prog_7_method_24_code
def y_M_add : MethodName := ⟨"FewBitsModel", "add", "(IJ)I"⟩
abbrev b_M_addAll : ByteArray := prog_7_method_25_code
def y_M_addAll : MethodName := ⟨"FewBitsModel", "addAll", "(IJJI)I"⟩
abbrev b_M_remove : ByteArray := prog_7_method_26_code
def y_M_remove : MethodName := ⟨"FewBitsModel", "remove", "(IJ)I"⟩
abbrev b_M_has : ByteArray := prog_7_method_27_code
def y_M_has : MethodName := ⟨"FewBitsModel", "has", "(IJ)Z"⟩
abbrev b_M_hasAll : ByteArray := prog_7_method_28_code
def y_M_hasAll : MethodName := ⟨"FewBitsModel", "hasAll", "(IJJI)I"⟩
abbrev b_M_same : ByteArray := prog_7_method_29_code
def y_M_same : MethodName := ⟨"FewBitsModel", "same", "(IJJ)Z"⟩
abbrev b_M_layOut : ByteArray := prog_7_method_30_code
def y_M_layOut : MethodName := ⟨"FewBitsModel", "layOut", "(I)V"⟩
abbrev b_M_runCell : ByteArray := prog_7_method_31_code
def y_M_runCell : MethodName := ⟨"FewBitsModel", "runCell", "(II)I"⟩
abbrev b_M_longestRow : ByteArray := prog_7_method_32_code
def y_M_longestRow : MethodName := ⟨"FewBitsModel", "longestRow", "(I)I"⟩
abbrev b_M_count : ByteArray := prog_7_method_33_code
def y_M_count : MethodName := ⟨"FewBitsModel", "count", "(II)I"⟩
abbrev b_M_cell : ByteArray := prog_7_method_34_code
def y_M_cell : MethodName := ⟨"FewBitsModel", "cell", "(II)I"⟩
abbrev b_M_merge : ByteArray := prog_7_method_35_code
def y_M_merge : MethodName := ⟨"FewBitsModel", "merge", "(II)I"⟩
abbrev b_M_grow : ByteArray := prog_7_method_36_code
def y_M_grow : MethodName := ⟨"FewBitsModel", "grow", "(I)V"⟩
abbrev b_M_clear : ByteArray := prog_7_method_37_code
def y_M_clear : MethodName := ⟨"FewBitsModel", "clear", "(I)I"⟩
abbrev b_B_init : ByteArray := prog_2_method_1_code
def y_B_init : MethodName := ⟨"FewBits$Buckets", "<init>", "()V"⟩
abbrev b_B_kind : ByteArray := prog_2_method_2_code
def y_B_kind : MethodName := ⟨"FewBits$Buckets", "kind", "()I"⟩
abbrev b_B_cells : ByteArray := prog_2_method_3_code
def y_B_cells : MethodName := ⟨"FewBits$Buckets", "cells", "()I"⟩
abbrev b_B_wipe : ByteArray := prog_2_method_4_code
def y_B_wipe : MethodName := ⟨"FewBits$Buckets", "wipe", "()V"⟩
abbrev b_B_put : ByteArray := prog_2_method_5_code
def y_B_put : MethodName := ⟨"FewBits$Buckets", "put", "(J)Z"⟩
abbrev b_B_take : ByteArray := prog_2_method_6_code
def y_B_take : MethodName := ⟨"FewBits$Buckets", "take", "(J)Z"⟩
abbrev b_B_holds : ByteArray := prog_2_method_7_code
def y_B_holds : MethodName := ⟨"FewBits$Buckets", "holds", "(J)Z"⟩
abbrev b_B_looksAlike : ByteArray := prog_2_method_8_code
def y_B_looksAlike : MethodName := ⟨"FewBits$Buckets", "looksAlike", "(JJ)Z"⟩
abbrev b_B_strain : ByteArray := prog_2_method_9_code
def y_B_strain : MethodName := ⟨"FewBits$Buckets", "strain", "()I"⟩
abbrev b_B_look : ByteArray := prog_2_method_10_code
def y_B_look : MethodName := ⟨"FewBits$Buckets", "look", "(I)I"⟩
abbrev b_B_fingerprint : ByteArray := prog_2_method_11_code
def y_B_fingerprint : MethodName := ⟨"FewBits$Buckets", "fingerprint", "(J)I"⟩
abbrev b_B_firstBucket : ByteArray := prog_2_method_12_code
def y_B_firstBucket : MethodName := ⟨"FewBits$Buckets", "firstBucket", "(J)I"⟩
abbrev b_B_otherBucket : ByteArray := prog_2_method_13_code
def y_B_otherBucket : MethodName := ⟨"FewBits$Buckets", "otherBucket", "(II)I"⟩
abbrev b_B_slotOf : ByteArray := prog_2_method_14_code
def y_B_slotOf : MethodName := ⟨"FewBits$Buckets", "slotOf", "(J)I"⟩
abbrev b_B_slotWith : ByteArray := prog_2_method_15_code
def y_B_slotWith : MethodName := ⟨"FewBits$Buckets", "slotWith", "(II)I"⟩
abbrev b_B_putFree : ByteArray := prog_2_method_16_code
def y_B_putFree : MethodName := ⟨"FewBits$Buckets", "putFree", "(II)Z"⟩
abbrev b_B_pushInto : ByteArray := prog_2_method_17_code
def y_B_pushInto : MethodName := ⟨"FewBits$Buckets", "pushInto", "(II)Z"⟩
abbrev b_B_pushBack : ByteArray := prog_2_method_18_code
def y_B_pushBack : MethodName := ⟨"FewBits$Buckets", "pushBack", "(I)V"⟩
abbrev b_B_exchange : ByteArray := prog_2_method_19_code
def y_B_exchange : MethodName := ⟨"FewBits$Buckets", "exchange", "(II)I"⟩
abbrev b_C_init : ByteArray := prog_3_method_1_code
def y_C_init : MethodName := ⟨"FewBits$Counters", "<init>", "()V"⟩
abbrev b_C_kind : ByteArray := prog_3_method_2_code
def y_C_kind : MethodName := ⟨"FewBits$Counters", "kind", "()I"⟩
abbrev b_C_wipe : ByteArray := prog_3_method_3_code
def y_C_wipe : MethodName := ⟨"FewBits$Counters", "wipe", "()V"⟩
abbrev b_C_put : ByteArray := prog_3_method_4_code
def y_C_put : MethodName := ⟨"FewBits$Counters", "put", "(J)Z"⟩
abbrev b_C_take : ByteArray := prog_3_method_5_code
def y_C_take : MethodName := ⟨"FewBits$Counters", "take", "(J)Z"⟩
abbrev b_C_holds : ByteArray := prog_3_method_6_code
def y_C_holds : MethodName := ⟨"FewBits$Counters", "holds", "(J)Z"⟩
abbrev b_C_looksAlike : ByteArray := prog_3_method_7_code
def y_C_looksAlike : MethodName := ⟨"FewBits$Counters", "looksAlike", "(JJ)Z"⟩
abbrev b_C_filledCells : ByteArray := prog_3_method_8_code
def y_C_filledCells : MethodName := ⟨"FewBits$Counters", "filledCells", "()I"⟩
abbrev b_C_strain : ByteArray := prog_3_method_9_code
def y_C_strain : MethodName := ⟨"FewBits$Counters", "strain", "()I"⟩
abbrev b_C_look : ByteArray := prog_3_method_10_code
def y_C_look : MethodName := ⟨"FewBits$Counters", "look", "(I)I"⟩
abbrev b_C_findPlaces : ByteArray := prog_3_method_11_code
def y_C_findPlaces : MethodName := ⟨"FewBits$Counters", "findPlaces", "(J[I)V"⟩
abbrev b_C_timesIn : ByteArray := prog_3_method_12_code
def y_C_timesIn : MethodName := ⟨"FewBits$Counters", "timesIn", "([II)I"⟩
abbrev b_C_countBy : ByteArray := prog_3_method_13_code
def y_C_countBy : MethodName := ⟨"FewBits$Counters", "countBy", "(I)V"⟩
abbrev b_P_init : ByteArray := prog_4_method_1_code
def y_P_init : MethodName := ⟨"FewBits$Filter", "<init>", "()V"⟩
abbrev b_P_begin : ByteArray := prog_4_method_2_code
def y_P_begin : MethodName := ⟨"FewBits$Filter", "begin", "(II)V"⟩
abbrev b_P_accept : ByteArray := prog_4_method_3_code
def y_P_accept : MethodName := ⟨"FewBits$Filter", "accept", "(J)Z"⟩
abbrev b_P_release : ByteArray := prog_4_method_4_code
def y_P_release : MethodName := ⟨"FewBits$Filter", "release", "(J)Z"⟩
abbrev b_P_power : ByteArray := prog_4_method_5_code
def y_P_power : MethodName := ⟨"FewBits$Filter", "power", "()I"⟩
abbrev b_P_lowestBits : ByteArray := prog_4_method_6_code
def y_P_lowestBits : MethodName := ⟨"FewBits$Filter", "lowestBits", "(J)I"⟩
abbrev b_P_cells : ByteArray := prog_4_method_7_code
def y_P_cells : MethodName := ⟨"FewBits$Filter", "cells", "()I"⟩
abbrev b_P_filledCells : ByteArray := prog_4_method_8_code
def y_P_filledCells : MethodName := ⟨"FewBits$Filter", "filledCells", "()I"⟩
abbrev b_R_init : ByteArray := prog_5_method_1_code
def y_R_init : MethodName := ⟨"FewBits$Runs", "<init>", "()V"⟩
abbrev b_R_kind : ByteArray := prog_5_method_2_code
def y_R_kind : MethodName := ⟨"FewBits$Runs", "kind", "()I"⟩
abbrev b_R_wipe : ByteArray := prog_5_method_3_code
def y_R_wipe : MethodName := ⟨"FewBits$Runs", "wipe", "()V"⟩
abbrev b_R_put : ByteArray := prog_5_method_4_code
def y_R_put : MethodName := ⟨"FewBits$Runs", "put", "(J)Z"⟩
abbrev b_R_take : ByteArray := prog_5_method_5_code
def y_R_take : MethodName := ⟨"FewBits$Runs", "take", "(J)Z"⟩
abbrev b_R_holds : ByteArray := prog_5_method_6_code
def y_R_holds : MethodName := ⟨"FewBits$Runs", "holds", "(J)Z"⟩
abbrev b_R_looksAlike : ByteArray := prog_5_method_7_code
def y_R_looksAlike : MethodName := ⟨"FewBits$Runs", "looksAlike", "(JJ)Z"⟩
abbrev b_R_strain : ByteArray := prog_5_method_8_code
def y_R_strain : MethodName := ⟨"FewBits$Runs", "strain", "()I"⟩
abbrev b_R_look : ByteArray := prog_5_method_9_code
def y_R_look : MethodName := ⟨"FewBits$Runs", "look", "(I)I"⟩
abbrev b_R_acceptPairs : ByteArray := prog_5_method_10_code
def y_R_acceptPairs : MethodName := ⟨"FewBits$Runs", "acceptPairs", "(LFewBits$Runs;)Z"⟩
abbrev b_R_moveOneBit : ByteArray := prog_5_method_11_code
def y_R_moveOneBit : MethodName := ⟨"FewBits$Runs", "moveOneBit", "()V"⟩
abbrev b_R_pairOf : ByteArray := prog_5_method_12_code
def y_R_pairOf : MethodName := ⟨"FewBits$Runs", "pairOf", "(J)I"⟩
abbrev b_R_quotient : ByteArray := prog_5_method_13_code
def y_R_quotient : MethodName := ⟨"FewBits$Runs", "quotient", "(I)I"⟩
abbrev b_R_remainder : ByteArray := prog_5_method_14_code
def y_R_remainder : MethodName := ⟨"FewBits$Runs", "remainder", "(I)I"⟩
abbrev b_R_isClaimed : ByteArray := prog_5_method_15_code
def y_R_isClaimed : MethodName := ⟨"FewBits$Runs", "isClaimed", "(I)Z"⟩
abbrev b_R_firstNotBelow : ByteArray := prog_5_method_16_code
def y_R_firstNotBelow : MethodName := ⟨"FewBits$Runs", "firstNotBelow", "(I)I"⟩
abbrev b_R_layOut : ByteArray := prog_5_method_17_code
def y_R_layOut : MethodName := ⟨"FewBits$Runs", "layOut", "()V"⟩
abbrev b_R_overEnd : ByteArray := prog_5_method_18_code
def y_R_overEnd : MethodName := ⟨"FewBits$Runs", "overEnd", "()I"⟩
def y_L_cell0 : MethodName := ⟨"FewBitsLaw", "cell", "([II)I"⟩
abbrev b_L_make : ByteArray := method_3_code
def y_L_make : MethodName := ⟨"FewBitsLaw", "make", "(LFewBits;IIII)I"⟩
abbrev b_L_add : ByteArray := method_4_code
def y_L_add : MethodName := ⟨"FewBitsLaw", "add", "(LFewBits;IJ[J)I"⟩
abbrev b_L_addAll : ByteArray := method_5_code
def y_L_addAll : MethodName := ⟨"FewBitsLaw", "addAll", "(LFewBits;IJJI[J)I"⟩
abbrev b_L_remove : ByteArray := method_6_code
def y_L_remove : MethodName := ⟨"FewBitsLaw", "remove", "(LFewBits;IJ[J)I"⟩
abbrev b_L_has : ByteArray := method_7_code
def y_L_has : MethodName := ⟨"FewBitsLaw", "has", "(LFewBits;IJ[J)I"⟩
abbrev b_L_hasAll : ByteArray := method_8_code
def y_L_hasAll : MethodName := ⟨"FewBitsLaw", "hasAll", "(LFewBits;IJJI[J)I"⟩
abbrev b_L_same : ByteArray := method_9_code
def y_L_same : MethodName := ⟨"FewBitsLaw", "same", "(LFewBits;IJJ[J)I"⟩
abbrev b_L_count : ByteArray := method_10_code
def y_L_count : MethodName := ⟨"FewBitsLaw", "count", "(LFewBits;II[J)I"⟩
abbrev b_L_cell : ByteArray := method_11_code
def y_L_cell : MethodName := ⟨"FewBitsLaw", "cell", "(LFewBits;II[J)I"⟩
abbrev b_L_merge : ByteArray := method_12_code
def y_L_merge : MethodName := ⟨"FewBitsLaw", "merge", "(LFewBits;II[J)I"⟩
abbrev b_L_grow : ByteArray := method_13_code
def y_L_grow : MethodName := ⟨"FewBitsLaw", "grow", "(LFewBits;I)I"⟩
abbrev b_L_clear : ByteArray := method_14_code
def y_L_clear : MethodName := ⟨"FewBitsLaw", "clear", "(LFewBits;I[J)I"⟩
def y_L_law : MethodName := ⟨"FewBitsLaw", "law", "([I)Z"⟩
abbrev b_A_fill : ByteArray := prog_18_method_103_code
def y_A_fill : MethodName := ⟨"java/util/Arrays", "fill", "([II)V"⟩
/-- the tables at the law's start -/
def Tb (s0 : State) : Prop := ∃ a0 : Array Value, ∀ w ∈ lw_tbl, w.before a0 s0 = true
theorem Tb.w {s0 : State} (h : Tb s0) {w : Cond} (hm : w ∈ lw_tbl) (hg : goodWord w = true) (a : Array Value) {U : State} (hW : s0.WarmedH U.vm) : w.before a U = true := by
  obtain ⟨a0, h⟩ := h
  exact word_at hW (good_of_word hg) (h w hm)
theorem Tb.at {s0 : State} (h : Tb s0) {w : Cond} (i : Nat) (hi : tables_1[i]? = some w) (hg : goodWord w = true) (a : Array Value) {U : State} (hW : s0.WarmedH U.vm) : w.before a U = true :=
  h.w (List.mem_append_right _ (List.mem_of_getElem? hi)) hg a hW
end
section
theorem d_F_init_0 : decode b_F_init 0 = .ok (.aload_n 0, 1) := by decide +kernel
theorem d_F_init_1 : decode b_F_init 1 = .ok (.invokespecial 1, 3) := by decide +kernel
theorem d_F_init_4 : decode b_F_init 4 = .ok (.aload_n 0, 1) := by decide +kernel
theorem d_F_init_5 : decode b_F_init 5 = .ok (.iconst 4, 1) := by decide +kernel
theorem d_F_init_6 : decode b_F_init 6 = .ok (.anewarray 9, 3) := by decide +kernel
theorem d_F_init_9 : decode b_F_init 9 = .ok (.putfield 11, 3) := by decide +kernel
theorem d_F_init_12 : decode b_F_init 12 = .ok (.aload_n 0, 1) := by decide +kernel
theorem d_F_init_13 : decode b_F_init 13 = .ok (.bipush 12, 2) := by decide +kernel
theorem d_F_init_15 : decode b_F_init 15 = .ok (.anewarray 9, 3) := by decide +kernel
theorem d_F_init_18 : decode b_F_init 18 = .ok (.putfield 15, 3) := by decide +kernel
theorem d_F_init_21 : decode b_F_init 21 = .ok (.return_, 1) := by decide +kernel
theorem d_F_mix_0 : decode b_F_mix 0 = .ok (.lload_n 1, 1) := by decide +kernel
theorem d_F_mix_1 : decode b_F_mix 1 = .ok (.iload_n 3, 1) := by decide +kernel
theorem d_F_mix_2 : decode b_F_mix 2 = .ok (.invokestatic 18, 3) := by decide +kernel
theorem d_F_mix_5 : decode b_F_mix 5 = .ok (.lreturn, 1) := by decide +kernel
theorem d_F_make_0 : decode b_F_make 0 = .ok (.iload_n 1, 1) := by decide +kernel
theorem d_F_make_1 : decode b_F_make 1 = .ok (.invokestatic 22, 3) := by decide +kernel
theorem d_F_make_4 : decode b_F_make 4 = .ok (.iload_n 2, 1) := by decide +kernel
theorem d_F_make_5 : decode b_F_make 5 = .ok (.iload_n 3, 1) := by decide +kernel
theorem d_F_make_6 : decode b_F_make 6 = .ok (.iload 4, 2) := by decide +kernel
theorem d_F_make_8 : decode b_F_make 8 = .ok (.invokestatic 26, 3) := by decide +kernel
theorem d_F_make_11 : decode b_F_make 11 = .ok (.ifCond .ne 13, 3) := by decide +kernel
theorem d_F_make_14 : decode b_F_make 14 = .ok (.new 30, 3) := by decide +kernel
theorem d_F_make_17 : decode b_F_make 17 = .ok (.dup, 1) := by decide +kernel
theorem d_F_make_18 : decode b_F_make 18 = .ok (.ldc 32, 2) := by decide +kernel
theorem d_F_make_20 : decode b_F_make 20 = .ok (.invokespecial 34, 3) := by decide +kernel
theorem d_F_make_23 : decode b_F_make 23 = .ok (.athrow, 1) := by decide +kernel
theorem d_F_make_24 : decode b_F_make 24 = .ok (.aload_n 0, 1) := by decide +kernel
theorem d_F_make_25 : decode b_F_make 25 = .ok (.iload_n 1, 1) := by decide +kernel
theorem d_F_make_26 : decode b_F_make 26 = .ok (.iload_n 2, 1) := by decide +kernel
theorem d_F_make_27 : decode b_F_make 27 = .ok (.invokevirtual 37, 3) := by decide +kernel
theorem d_F_make_30 : decode b_F_make 30 = .ok (.astore 5, 2) := by decide +kernel
theorem d_F_make_32 : decode b_F_make 32 = .ok (.aload 5, 2) := by decide +kernel
theorem d_F_make_34 : decode b_F_make 34 = .ok (.iload_n 3, 1) := by decide +kernel
theorem d_F_make_35 : decode b_F_make 35 = .ok (.iload 4, 2) := by decide +kernel
theorem d_F_make_37 : decode b_F_make 37 = .ok (.invokevirtual 41, 3) := by decide +kernel
theorem d_F_make_40 : decode b_F_make 40 = .ok (.aload_n 0, 1) := by decide +kernel
theorem d_F_make_41 : decode b_F_make 41 = .ok (.getfield 11, 3) := by decide +kernel
theorem d_F_make_44 : decode b_F_make 44 = .ok (.iload_n 1, 1) := by decide +kernel
theorem d_F_make_45 : decode b_F_make 45 = .ok (.aload 5, 2) := by decide +kernel
theorem d_F_make_47 : decode b_F_make 47 = .ok (.aastore, 1) := by decide +kernel
theorem d_F_make_48 : decode b_F_make 48 = .ok (.return_, 1) := by decide +kernel
theorem d_F_add_0 : decode b_F_add 0 = .ok (.aload_n 0, 1) := by decide +kernel
theorem d_F_add_1 : decode b_F_add 1 = .ok (.iload_n 1, 1) := by decide +kernel
theorem d_F_add_2 : decode b_F_add 2 = .ok (.invokevirtual 45, 3) := by decide +kernel
theorem d_F_add_5 : decode b_F_add 5 = .ok (.astore 4, 2) := by decide +kernel
theorem d_F_add_7 : decode b_F_add 7 = .ok (.aload 4, 2) := by decide +kernel
theorem d_F_add_9 : decode b_F_add 9 = .ok (.lload_n 2, 1) := by decide +kernel
theorem d_F_add_10 : decode b_F_add 10 = .ok (.invokevirtual 49, 3) := by decide +kernel
theorem d_F_add_13 : decode b_F_add 13 = .ok (.ifCond .ne 13, 3) := by decide +kernel
theorem d_F_add_16 : decode b_F_add 16 = .ok (.new 53, 3) := by decide +kernel
theorem d_F_add_19 : decode b_F_add 19 = .ok (.dup, 1) := by decide +kernel
theorem d_F_add_20 : decode b_F_add 20 = .ok (.ldc 55, 2) := by decide +kernel
theorem d_F_add_22 : decode b_F_add 22 = .ok (.invokespecial 57, 3) := by decide +kernel
theorem d_F_add_25 : decode b_F_add 25 = .ok (.athrow, 1) := by decide +kernel
theorem d_F_add_26 : decode b_F_add 26 = .ok (.aload 4, 2) := by decide +kernel
theorem d_F_add_28 : decode b_F_add 28 = .ok (.getfield 58, 3) := by decide +kernel
theorem d_F_add_31 : decode b_F_add 31 = .ok (.ireturn, 1) := by decide +kernel
theorem d_F_addAll_0 : decode b_F_addAll 0 = .ok (.aload_n 0, 1) := by decide +kernel
theorem d_F_addAll_1 : decode b_F_addAll 1 = .ok (.iload_n 1, 1) := by decide +kernel
theorem d_F_addAll_2 : decode b_F_addAll 2 = .ok (.invokevirtual 45, 3) := by decide +kernel
theorem d_F_addAll_5 : decode b_F_addAll 5 = .ok (.astore 7, 2) := by decide +kernel
theorem d_F_addAll_7 : decode b_F_addAll 7 = .ok (.iload 6, 2) := by decide +kernel
theorem d_F_addAll_9 : decode b_F_addAll 9 = .ok (.invokestatic 62, 3) := by decide +kernel
theorem d_F_addAll_12 : decode b_F_addAll 12 = .ok (.lload_n 2, 1) := by decide +kernel
theorem d_F_addAll_13 : decode b_F_addAll 13 = .ok (.lstore 8, 2) := by decide +kernel
theorem d_F_addAll_15 : decode b_F_addAll 15 = .ok (.iconst 0, 1) := by decide +kernel
theorem d_F_addAll_16 : decode b_F_addAll 16 = .ok (.istore 10, 2) := by decide +kernel
theorem d_F_addAll_18 : decode b_F_addAll 18 = .ok (.iload 10, 2) := by decide +kernel
theorem d_F_addAll_20 : decode b_F_addAll 20 = .ok (.iload 6, 2) := by decide +kernel
theorem d_F_addAll_22 : decode b_F_addAll 22 = .ok (.if_icmp .ge 29, 3) := by decide +kernel
theorem d_F_addAll_25 : decode b_F_addAll 25 = .ok (.aload 7, 2) := by decide +kernel
theorem d_F_addAll_27 : decode b_F_addAll 27 = .ok (.lload 8, 2) := by decide +kernel
theorem d_F_addAll_29 : decode b_F_addAll 29 = .ok (.invokevirtual 49, 3) := by decide +kernel
theorem d_F_addAll_32 : decode b_F_addAll 32 = .ok (.ifCond .ne 6, 3) := by decide +kernel
theorem d_F_addAll_35 : decode b_F_addAll 35 = .ok (.iload 10, 2) := by decide +kernel
theorem d_F_addAll_37 : decode b_F_addAll 37 = .ok (.ireturn, 1) := by decide +kernel
theorem d_F_addAll_38 : decode b_F_addAll 38 = .ok (.lload 8, 2) := by decide +kernel
theorem d_F_addAll_40 : decode b_F_addAll 40 = .ok (.lload 4, 2) := by decide +kernel
theorem d_F_addAll_42 : decode b_F_addAll 42 = .ok (.ladd, 1) := by decide +kernel
theorem d_F_addAll_43 : decode b_F_addAll 43 = .ok (.lstore 8, 2) := by decide +kernel
theorem d_F_addAll_45 : decode b_F_addAll 45 = .ok (.iinc 10 1, 3) := by decide +kernel
theorem d_F_addAll_48 : decode b_F_addAll 48 = .ok (.goto (-30), 3) := by decide +kernel
theorem d_F_addAll_51 : decode b_F_addAll 51 = .ok (.iload 6, 2) := by decide +kernel
theorem d_F_addAll_53 : decode b_F_addAll 53 = .ok (.ireturn, 1) := by decide +kernel
theorem d_F_remove_0 : decode b_F_remove 0 = .ok (.aload_n 0, 1) := by decide +kernel
theorem d_F_remove_1 : decode b_F_remove 1 = .ok (.iload_n 1, 1) := by decide +kernel
theorem d_F_remove_2 : decode b_F_remove 2 = .ok (.invokevirtual 45, 3) := by decide +kernel
theorem d_F_remove_5 : decode b_F_remove 5 = .ok (.astore 4, 2) := by decide +kernel
theorem d_F_remove_7 : decode b_F_remove 7 = .ok (.aload 4, 2) := by decide +kernel
theorem d_F_remove_9 : decode b_F_remove 9 = .ok (.lload_n 2, 1) := by decide +kernel
theorem d_F_remove_10 : decode b_F_remove 10 = .ok (.invokevirtual 65, 3) := by decide +kernel
theorem d_F_remove_13 : decode b_F_remove 13 = .ok (.ifCond .ne 13, 3) := by decide +kernel
theorem d_F_remove_16 : decode b_F_remove 16 = .ok (.new 68, 3) := by decide +kernel
theorem d_F_remove_19 : decode b_F_remove 19 = .ok (.dup, 1) := by decide +kernel
theorem d_F_remove_20 : decode b_F_remove 20 = .ok (.ldc 70, 2) := by decide +kernel
theorem d_F_remove_22 : decode b_F_remove 22 = .ok (.invokespecial 72, 3) := by decide +kernel
theorem d_F_remove_25 : decode b_F_remove 25 = .ok (.athrow, 1) := by decide +kernel
theorem d_F_remove_26 : decode b_F_remove 26 = .ok (.aload 4, 2) := by decide +kernel
theorem d_F_remove_28 : decode b_F_remove 28 = .ok (.getfield 58, 3) := by decide +kernel
theorem d_F_remove_31 : decode b_F_remove 31 = .ok (.ireturn, 1) := by decide +kernel
theorem d_F_has_0 : decode b_F_has 0 = .ok (.aload_n 0, 1) := by decide +kernel
theorem d_F_has_1 : decode b_F_has 1 = .ok (.iload_n 1, 1) := by decide +kernel
theorem d_F_has_2 : decode b_F_has 2 = .ok (.invokevirtual 45, 3) := by decide +kernel
theorem d_F_has_5 : decode b_F_has 5 = .ok (.lload_n 2, 1) := by decide +kernel
theorem d_F_has_6 : decode b_F_has 6 = .ok (.invokevirtual 73, 3) := by decide +kernel
theorem d_F_has_9 : decode b_F_has 9 = .ok (.ireturn, 1) := by decide +kernel
theorem d_F_hasAll_0 : decode b_F_hasAll 0 = .ok (.aload_n 0, 1) := by decide +kernel
theorem d_F_hasAll_1 : decode b_F_hasAll 1 = .ok (.iload_n 1, 1) := by decide +kernel
theorem d_F_hasAll_2 : decode b_F_hasAll 2 = .ok (.invokevirtual 45, 3) := by decide +kernel
theorem d_F_hasAll_5 : decode b_F_hasAll 5 = .ok (.astore 7, 2) := by decide +kernel
theorem d_F_hasAll_7 : decode b_F_hasAll 7 = .ok (.iload 6, 2) := by decide +kernel
theorem d_F_hasAll_9 : decode b_F_hasAll 9 = .ok (.invokestatic 62, 3) := by decide +kernel
theorem d_F_hasAll_12 : decode b_F_hasAll 12 = .ok (.iconst 0, 1) := by decide +kernel
theorem d_F_hasAll_13 : decode b_F_hasAll 13 = .ok (.istore 8, 2) := by decide +kernel
theorem d_F_hasAll_15 : decode b_F_hasAll 15 = .ok (.lload_n 2, 1) := by decide +kernel
theorem d_F_hasAll_16 : decode b_F_hasAll 16 = .ok (.lstore 9, 2) := by decide +kernel
theorem d_F_hasAll_18 : decode b_F_hasAll 18 = .ok (.iconst 0, 1) := by decide +kernel
theorem d_F_hasAll_19 : decode b_F_hasAll 19 = .ok (.istore 11, 2) := by decide +kernel
theorem d_F_hasAll_21 : decode b_F_hasAll 21 = .ok (.iload 11, 2) := by decide +kernel
theorem d_F_hasAll_23 : decode b_F_hasAll 23 = .ok (.iload 6, 2) := by decide +kernel
theorem d_F_hasAll_25 : decode b_F_hasAll 25 = .ok (.if_icmp .ge 29, 3) := by decide +kernel
theorem d_F_hasAll_28 : decode b_F_hasAll 28 = .ok (.aload 7, 2) := by decide +kernel
theorem d_F_hasAll_30 : decode b_F_hasAll 30 = .ok (.lload 9, 2) := by decide +kernel
theorem d_F_hasAll_32 : decode b_F_hasAll 32 = .ok (.invokevirtual 73, 3) := by decide +kernel
theorem d_F_hasAll_35 : decode b_F_hasAll 35 = .ok (.ifCond .eq 6, 3) := by decide +kernel
theorem d_F_hasAll_38 : decode b_F_hasAll 38 = .ok (.iinc 8 1, 3) := by decide +kernel
theorem d_F_hasAll_41 : decode b_F_hasAll 41 = .ok (.lload 9, 2) := by decide +kernel
theorem d_F_hasAll_43 : decode b_F_hasAll 43 = .ok (.lload 4, 2) := by decide +kernel
theorem d_F_hasAll_45 : decode b_F_hasAll 45 = .ok (.ladd, 1) := by decide +kernel
theorem d_F_hasAll_46 : decode b_F_hasAll 46 = .ok (.lstore 9, 2) := by decide +kernel
theorem d_F_hasAll_48 : decode b_F_hasAll 48 = .ok (.iinc 11 1, 3) := by decide +kernel
theorem d_F_hasAll_51 : decode b_F_hasAll 51 = .ok (.goto (-30), 3) := by decide +kernel
theorem d_F_hasAll_54 : decode b_F_hasAll 54 = .ok (.iload 8, 2) := by decide +kernel
theorem d_F_hasAll_56 : decode b_F_hasAll 56 = .ok (.ireturn, 1) := by decide +kernel
theorem d_F_same_0 : decode b_F_same 0 = .ok (.aload_n 0, 1) := by decide +kernel
theorem d_F_same_1 : decode b_F_same 1 = .ok (.iload_n 1, 1) := by decide +kernel
theorem d_F_same_2 : decode b_F_same 2 = .ok (.invokevirtual 45, 3) := by decide +kernel
theorem d_F_same_5 : decode b_F_same 5 = .ok (.lload_n 2, 1) := by decide +kernel
theorem d_F_same_6 : decode b_F_same 6 = .ok (.lload 4, 2) := by decide +kernel
theorem d_F_same_8 : decode b_F_same 8 = .ok (.invokevirtual 76, 3) := by decide +kernel
theorem d_F_same_11 : decode b_F_same 11 = .ok (.ireturn, 1) := by decide +kernel
theorem d_F_count_0 : decode b_F_count 0 = .ok (.aload_n 0, 1) := by decide +kernel
theorem d_F_count_1 : decode b_F_count 1 = .ok (.iload_n 1, 1) := by decide +kernel
theorem d_F_count_2 : decode b_F_count 2 = .ok (.invokevirtual 45, 3) := by decide +kernel
theorem d_F_count_5 : decode b_F_count 5 = .ok (.astore_n 3, 1) := by decide +kernel
theorem d_F_count_6 : decode b_F_count 6 = .ok (.iload_n 2, 1) := by decide +kernel
theorem d_F_count_7 : decode b_F_count 7 = .ok (.tableswitch 67 0 5 #[37, 42, 47, 52, 57, 62], 37) := by decide +kernel
theorem d_F_count_44 : decode b_F_count 44 = .ok (.aload_n 3, 1) := by decide +kernel
theorem d_F_count_45 : decode b_F_count 45 = .ok (.invokevirtual 80, 3) := by decide +kernel
theorem d_F_count_48 : decode b_F_count 48 = .ok (.ireturn, 1) := by decide +kernel
theorem d_F_count_49 : decode b_F_count 49 = .ok (.aload_n 3, 1) := by decide +kernel
theorem d_F_count_50 : decode b_F_count 50 = .ok (.getfield 84, 3) := by decide +kernel
theorem d_F_count_53 : decode b_F_count 53 = .ok (.ireturn, 1) := by decide +kernel
theorem d_F_count_54 : decode b_F_count 54 = .ok (.aload_n 3, 1) := by decide +kernel
theorem d_F_count_55 : decode b_F_count 55 = .ok (.getfield 87, 3) := by decide +kernel
theorem d_F_count_58 : decode b_F_count 58 = .ok (.ireturn, 1) := by decide +kernel
theorem d_F_count_59 : decode b_F_count 59 = .ok (.aload_n 3, 1) := by decide +kernel
theorem d_F_count_60 : decode b_F_count 60 = .ok (.getfield 58, 3) := by decide +kernel
theorem d_F_count_63 : decode b_F_count 63 = .ok (.ireturn, 1) := by decide +kernel
theorem d_F_count_64 : decode b_F_count 64 = .ok (.aload_n 3, 1) := by decide +kernel
theorem d_F_count_65 : decode b_F_count 65 = .ok (.invokevirtual 90, 3) := by decide +kernel
theorem d_F_count_68 : decode b_F_count 68 = .ok (.ireturn, 1) := by decide +kernel
theorem d_F_count_69 : decode b_F_count 69 = .ok (.aload_n 3, 1) := by decide +kernel
theorem d_F_count_70 : decode b_F_count 70 = .ok (.invokevirtual 93, 3) := by decide +kernel
theorem d_F_count_73 : decode b_F_count 73 = .ok (.ireturn, 1) := by decide +kernel
theorem d_F_count_74 : decode b_F_count 74 = .ok (.new 30, 3) := by decide +kernel
theorem d_F_count_77 : decode b_F_count 77 = .ok (.dup, 1) := by decide +kernel
theorem d_F_count_78 : decode b_F_count 78 = .ok (.ldc 96, 2) := by decide +kernel
theorem d_F_count_80 : decode b_F_count 80 = .ok (.invokespecial 34, 3) := by decide +kernel
theorem d_F_count_83 : decode b_F_count 83 = .ok (.athrow, 1) := by decide +kernel
theorem d_F_cell_0 : decode b_F_cell 0 = .ok (.iload_n 1, 1) := by decide +kernel
theorem d_F_cell_1 : decode b_F_cell 1 = .ok (.invokestatic 98, 3) := by decide +kernel
theorem d_F_cell_4 : decode b_F_cell 4 = .ok (.ifCond .eq 12, 3) := by decide +kernel
theorem d_F_cell_7 : decode b_F_cell 7 = .ok (.aload_n 0, 1) := by decide +kernel
theorem d_F_cell_8 : decode b_F_cell 8 = .ok (.getfield 11, 3) := by decide +kernel
theorem d_F_cell_11 : decode b_F_cell 11 = .ok (.iload_n 1, 1) := by decide +kernel
theorem d_F_cell_12 : decode b_F_cell 12 = .ok (.aaload, 1) := by decide +kernel
theorem d_F_cell_13 : decode b_F_cell 13 = .ok (.ifnonnull 13, 3) := by decide +kernel
theorem d_F_cell_16 : decode b_F_cell 16 = .ok (.new 102, 3) := by decide +kernel
theorem d_F_cell_19 : decode b_F_cell 19 = .ok (.dup, 1) := by decide +kernel
theorem d_F_cell_20 : decode b_F_cell 20 = .ok (.ldc 104, 2) := by decide +kernel
theorem d_F_cell_22 : decode b_F_cell 22 = .ok (.invokespecial 106, 3) := by decide +kernel
theorem d_F_cell_25 : decode b_F_cell 25 = .ok (.athrow, 1) := by decide +kernel
theorem d_F_cell_26 : decode b_F_cell 26 = .ok (.aload_n 0, 1) := by decide +kernel
theorem d_F_cell_27 : decode b_F_cell 27 = .ok (.getfield 11, 3) := by decide +kernel
theorem d_F_cell_30 : decode b_F_cell 30 = .ok (.iload_n 1, 1) := by decide +kernel
theorem d_F_cell_31 : decode b_F_cell 31 = .ok (.aaload, 1) := by decide +kernel
theorem d_F_cell_32 : decode b_F_cell 32 = .ok (.astore_n 3, 1) := by decide +kernel
theorem d_F_cell_33 : decode b_F_cell 33 = .ok (.iload_n 2, 1) := by decide +kernel
theorem d_F_cell_34 : decode b_F_cell 34 = .ok (.ifCond .lt 11, 3) := by decide +kernel
theorem d_F_cell_37 : decode b_F_cell 37 = .ok (.iload_n 2, 1) := by decide +kernel
theorem d_F_cell_38 : decode b_F_cell 38 = .ok (.aload_n 3, 1) := by decide +kernel
theorem d_F_cell_39 : decode b_F_cell 39 = .ok (.invokevirtual 107, 3) := by decide +kernel
theorem d_F_cell_42 : decode b_F_cell 42 = .ok (.if_icmp .lt 13, 3) := by decide +kernel
theorem d_F_cell_45 : decode b_F_cell 45 = .ok (.new 110, 3) := by decide +kernel
theorem d_F_cell_48 : decode b_F_cell 48 = .ok (.dup, 1) := by decide +kernel
theorem d_F_cell_49 : decode b_F_cell 49 = .ok (.ldc 112, 2) := by decide +kernel
theorem d_F_cell_51 : decode b_F_cell 51 = .ok (.invokespecial 114, 3) := by decide +kernel
theorem d_F_cell_54 : decode b_F_cell 54 = .ok (.athrow, 1) := by decide +kernel
theorem d_F_cell_55 : decode b_F_cell 55 = .ok (.aload_n 3, 1) := by decide +kernel
theorem d_F_cell_56 : decode b_F_cell 56 = .ok (.iload_n 2, 1) := by decide +kernel
theorem d_F_cell_57 : decode b_F_cell 57 = .ok (.invokevirtual 115, 3) := by decide +kernel
theorem d_F_cell_60 : decode b_F_cell 60 = .ok (.ireturn, 1) := by decide +kernel
theorem d_F_merge_0 : decode b_F_merge 0 = .ok (.iload_n 1, 1) := by decide +kernel
theorem d_F_merge_1 : decode b_F_merge 1 = .ok (.invokestatic 22, 3) := by decide +kernel
theorem d_F_merge_4 : decode b_F_merge 4 = .ok (.iload_n 2, 1) := by decide +kernel
theorem d_F_merge_5 : decode b_F_merge 5 = .ok (.invokestatic 22, 3) := by decide +kernel
theorem d_F_merge_8 : decode b_F_merge 8 = .ok (.aload_n 0, 1) := by decide +kernel
theorem d_F_merge_9 : decode b_F_merge 9 = .ok (.iload_n 1, 1) := by decide +kernel
theorem d_F_merge_10 : decode b_F_merge 10 = .ok (.invokevirtual 45, 3) := by decide +kernel
theorem d_F_merge_13 : decode b_F_merge 13 = .ok (.astore_n 3, 1) := by decide +kernel
theorem d_F_merge_14 : decode b_F_merge 14 = .ok (.aload_n 0, 1) := by decide +kernel
theorem d_F_merge_15 : decode b_F_merge 15 = .ok (.iload_n 2, 1) := by decide +kernel
theorem d_F_merge_16 : decode b_F_merge 16 = .ok (.invokevirtual 45, 3) := by decide +kernel
theorem d_F_merge_19 : decode b_F_merge 19 = .ok (.astore 4, 2) := by decide +kernel
theorem d_F_merge_21 : decode b_F_merge 21 = .ok (.aload_n 3, 1) := by decide +kernel
theorem d_F_merge_22 : decode b_F_merge 22 = .ok (.invokestatic 119, 3) := by decide +kernel
theorem d_F_merge_25 : decode b_F_merge 25 = .ok (.astore 5, 2) := by decide +kernel
theorem d_F_merge_27 : decode b_F_merge 27 = .ok (.aload 4, 2) := by decide +kernel
theorem d_F_merge_29 : decode b_F_merge 29 = .ok (.invokestatic 119, 3) := by decide +kernel
theorem d_F_merge_32 : decode b_F_merge 32 = .ok (.astore 6, 2) := by decide +kernel
theorem d_F_merge_34 : decode b_F_merge 34 = .ok (.aload 5, 2) := by decide +kernel
theorem d_F_merge_36 : decode b_F_merge 36 = .ok (.getfield 123, 3) := by decide +kernel
theorem d_F_merge_39 : decode b_F_merge 39 = .ok (.aload 6, 2) := by decide +kernel
theorem d_F_merge_41 : decode b_F_merge 41 = .ok (.getfield 123, 3) := by decide +kernel
theorem d_F_merge_44 : decode b_F_merge 44 = .ok (.if_icmp .ne 16, 3) := by decide +kernel
theorem d_F_merge_47 : decode b_F_merge 47 = .ok (.aload 5, 2) := by decide +kernel
theorem d_F_merge_49 : decode b_F_merge 49 = .ok (.getfield 126, 3) := by decide +kernel
theorem d_F_merge_52 : decode b_F_merge 52 = .ok (.aload 6, 2) := by decide +kernel
theorem d_F_merge_54 : decode b_F_merge 54 = .ok (.getfield 126, 3) := by decide +kernel
theorem d_F_merge_57 : decode b_F_merge 57 = .ok (.if_icmp .eq 13, 3) := by decide +kernel
theorem d_F_merge_60 : decode b_F_merge 60 = .ok (.new 30, 3) := by decide +kernel
theorem d_F_merge_63 : decode b_F_merge 63 = .ok (.dup, 1) := by decide +kernel
theorem d_F_merge_64 : decode b_F_merge 64 = .ok (.ldc 127, 2) := by decide +kernel
theorem d_F_merge_66 : decode b_F_merge 66 = .ok (.invokespecial 34, 3) := by decide +kernel
theorem d_F_merge_69 : decode b_F_merge 69 = .ok (.athrow, 1) := by decide +kernel
theorem d_F_merge_70 : decode b_F_merge 70 = .ok (.aload 5, 2) := by decide +kernel
theorem d_F_merge_72 : decode b_F_merge 72 = .ok (.aload 6, 2) := by decide +kernel
theorem d_F_merge_74 : decode b_F_merge 74 = .ok (.invokevirtual 129, 3) := by decide +kernel
theorem d_F_merge_77 : decode b_F_merge 77 = .ok (.ifCond .ne 13, 3) := by decide +kernel
theorem d_F_merge_80 : decode b_F_merge 80 = .ok (.new 53, 3) := by decide +kernel
theorem d_F_merge_83 : decode b_F_merge 83 = .ok (.dup, 1) := by decide +kernel
theorem d_F_merge_84 : decode b_F_merge 84 = .ok (.ldc 133, 2) := by decide +kernel
theorem d_F_merge_86 : decode b_F_merge 86 = .ok (.invokespecial 57, 3) := by decide +kernel
theorem d_F_merge_89 : decode b_F_merge 89 = .ok (.athrow, 1) := by decide +kernel
theorem d_F_merge_90 : decode b_F_merge 90 = .ok (.aload 5, 2) := by decide +kernel
theorem d_F_merge_92 : decode b_F_merge 92 = .ok (.getfield 135, 3) := by decide +kernel
theorem d_F_merge_95 : decode b_F_merge 95 = .ok (.ireturn, 1) := by decide +kernel
theorem d_F_grow_0 : decode b_F_grow 0 = .ok (.aload_n 0, 1) := by decide +kernel
theorem d_F_grow_1 : decode b_F_grow 1 = .ok (.iload_n 1, 1) := by decide +kernel
theorem d_F_grow_2 : decode b_F_grow 2 = .ok (.invokevirtual 45, 3) := by decide +kernel
theorem d_F_grow_5 : decode b_F_grow 5 = .ok (.invokestatic 119, 3) := by decide +kernel
theorem d_F_grow_8 : decode b_F_grow 8 = .ok (.astore_n 2, 1) := by decide +kernel
theorem d_F_grow_9 : decode b_F_grow 9 = .ok (.iconst 3, 1) := by decide +kernel
theorem d_F_grow_10 : decode b_F_grow 10 = .ok (.aload_n 2, 1) := by decide +kernel
theorem d_F_grow_11 : decode b_F_grow 11 = .ok (.getfield 123, 3) := by decide +kernel
theorem d_F_grow_14 : decode b_F_grow 14 = .ok (.iconst 1, 1) := by decide +kernel
theorem d_F_grow_15 : decode b_F_grow 15 = .ok (.iadd, 1) := by decide +kernel
theorem d_F_grow_16 : decode b_F_grow 16 = .ok (.aload_n 2, 1) := by decide +kernel
theorem d_F_grow_17 : decode b_F_grow 17 = .ok (.getfield 126, 3) := by decide +kernel
theorem d_F_grow_20 : decode b_F_grow 20 = .ok (.iconst 1, 1) := by decide +kernel
theorem d_F_grow_21 : decode b_F_grow 21 = .ok (.isub, 1) := by decide +kernel
theorem d_F_grow_22 : decode b_F_grow 22 = .ok (.invokestatic 26, 3) := by decide +kernel
theorem d_F_grow_25 : decode b_F_grow 25 = .ok (.ifCond .ne 13, 3) := by decide +kernel
theorem d_F_grow_28 : decode b_F_grow 28 = .ok (.new 30, 3) := by decide +kernel
theorem d_F_grow_31 : decode b_F_grow 31 = .ok (.dup, 1) := by decide +kernel
theorem d_F_grow_32 : decode b_F_grow 32 = .ok (.ldc 136, 2) := by decide +kernel
theorem d_F_grow_34 : decode b_F_grow 34 = .ok (.invokespecial 34, 3) := by decide +kernel
theorem d_F_grow_37 : decode b_F_grow 37 = .ok (.athrow, 1) := by decide +kernel
theorem d_F_grow_38 : decode b_F_grow 38 = .ok (.aload_n 2, 1) := by decide +kernel
theorem d_F_grow_39 : decode b_F_grow 39 = .ok (.invokevirtual 138, 3) := by decide +kernel
theorem d_F_grow_42 : decode b_F_grow 42 = .ok (.return_, 1) := by decide +kernel
theorem d_F_clear_0 : decode b_F_clear 0 = .ok (.aload_n 0, 1) := by decide +kernel
theorem d_F_clear_1 : decode b_F_clear 1 = .ok (.iload_n 1, 1) := by decide +kernel
theorem d_F_clear_2 : decode b_F_clear 2 = .ok (.invokevirtual 45, 3) := by decide +kernel
theorem d_F_clear_5 : decode b_F_clear 5 = .ok (.astore_n 2, 1) := by decide +kernel
theorem d_F_clear_6 : decode b_F_clear 6 = .ok (.aload_n 2, 1) := by decide +kernel
theorem d_F_clear_7 : decode b_F_clear 7 = .ok (.getfield 58, 3) := by decide +kernel
theorem d_F_clear_10 : decode b_F_clear 10 = .ok (.istore_n 3, 1) := by decide +kernel
theorem d_F_clear_11 : decode b_F_clear 11 = .ok (.aload_n 2, 1) := by decide +kernel
theorem d_F_clear_12 : decode b_F_clear 12 = .ok (.aload_n 2, 1) := by decide +kernel
theorem d_F_clear_13 : decode b_F_clear 13 = .ok (.getfield 84, 3) := by decide +kernel
theorem d_F_clear_16 : decode b_F_clear 16 = .ok (.aload_n 2, 1) := by decide +kernel
theorem d_F_clear_17 : decode b_F_clear 17 = .ok (.getfield 87, 3) := by decide +kernel
theorem d_F_clear_20 : decode b_F_clear 20 = .ok (.invokevirtual 41, 3) := by decide +kernel
theorem d_F_clear_23 : decode b_F_clear 23 = .ok (.iload_n 3, 1) := by decide +kernel
theorem d_F_clear_24 : decode b_F_clear 24 = .ok (.ireturn, 1) := by decide +kernel
theorem d_F_mixed_0 : decode b_F_mixed 0 = .ok (.lload_n 0, 1) := by decide +kernel
theorem d_F_mixed_1 : decode b_F_mixed 1 = .ok (.iload_n 2, 1) := by decide +kernel
theorem d_F_mixed_2 : decode b_F_mixed 2 = .ok (.i2l, 1) := by decide +kernel
theorem d_F_mixed_3 : decode b_F_mixed 3 = .ok (.lconst 1, 1) := by decide +kernel
theorem d_F_mixed_4 : decode b_F_mixed 4 = .ok (.ladd, 1) := by decide +kernel
theorem d_F_mixed_5 : decode b_F_mixed 5 = .ok (.ldc2_w 141, 3) := by decide +kernel
theorem d_F_mixed_8 : decode b_F_mixed 8 = .ok (.lmul, 1) := by decide +kernel
theorem d_F_mixed_9 : decode b_F_mixed 9 = .ok (.ladd, 1) := by decide +kernel
theorem d_F_mixed_10 : decode b_F_mixed 10 = .ok (.lstore_n 3, 1) := by decide +kernel
theorem d_F_mixed_11 : decode b_F_mixed 11 = .ok (.lload_n 3, 1) := by decide +kernel
theorem d_F_mixed_12 : decode b_F_mixed 12 = .ok (.lload_n 3, 1) := by decide +kernel
theorem d_F_mixed_13 : decode b_F_mixed 13 = .ok (.bipush 30, 2) := by decide +kernel
theorem d_F_mixed_15 : decode b_F_mixed 15 = .ok (.lushr, 1) := by decide +kernel
theorem d_F_mixed_16 : decode b_F_mixed 16 = .ok (.lxor, 1) := by decide +kernel
theorem d_F_mixed_17 : decode b_F_mixed 17 = .ok (.ldc2_w 143, 3) := by decide +kernel
theorem d_F_mixed_20 : decode b_F_mixed 20 = .ok (.lmul, 1) := by decide +kernel
theorem d_F_mixed_21 : decode b_F_mixed 21 = .ok (.lstore_n 3, 1) := by decide +kernel
theorem d_F_mixed_22 : decode b_F_mixed 22 = .ok (.lload_n 3, 1) := by decide +kernel
theorem d_F_mixed_23 : decode b_F_mixed 23 = .ok (.lload_n 3, 1) := by decide +kernel
theorem d_F_mixed_24 : decode b_F_mixed 24 = .ok (.bipush 27, 2) := by decide +kernel
theorem d_F_mixed_26 : decode b_F_mixed 26 = .ok (.lushr, 1) := by decide +kernel
theorem d_F_mixed_27 : decode b_F_mixed 27 = .ok (.lxor, 1) := by decide +kernel
theorem d_F_mixed_28 : decode b_F_mixed 28 = .ok (.ldc2_w 145, 3) := by decide +kernel
theorem d_F_mixed_31 : decode b_F_mixed 31 = .ok (.lmul, 1) := by decide +kernel
theorem d_F_mixed_32 : decode b_F_mixed 32 = .ok (.lstore_n 3, 1) := by decide +kernel
theorem d_F_mixed_33 : decode b_F_mixed 33 = .ok (.lload_n 3, 1) := by decide +kernel
theorem d_F_mixed_34 : decode b_F_mixed 34 = .ok (.lload_n 3, 1) := by decide +kernel
theorem d_F_mixed_35 : decode b_F_mixed 35 = .ok (.bipush 31, 2) := by decide +kernel
theorem d_F_mixed_37 : decode b_F_mixed 37 = .ok (.lushr, 1) := by decide +kernel
theorem d_F_mixed_38 : decode b_F_mixed 38 = .ok (.lxor, 1) := by decide +kernel
theorem d_F_mixed_39 : decode b_F_mixed 39 = .ok (.lreturn, 1) := by decide +kernel
theorem d_F_isNumber_0 : decode b_F_isNumber 0 = .ok (.iload_n 0, 1) := by decide +kernel
theorem d_F_isNumber_1 : decode b_F_isNumber 1 = .ok (.iconst 0, 1) := by decide +kernel
theorem d_F_isNumber_2 : decode b_F_isNumber 2 = .ok (.iconst 3, 1) := by decide +kernel
theorem d_F_isNumber_3 : decode b_F_isNumber 3 = .ok (.invokestatic 147, 3) := by decide +kernel
theorem d_F_isNumber_6 : decode b_F_isNumber 6 = .ok (.ireturn, 1) := by decide +kernel
theorem d_F_isWithin_0 : decode b_F_isWithin 0 = .ok (.iload_n 0, 1) := by decide +kernel
theorem d_F_isWithin_1 : decode b_F_isWithin 1 = .ok (.iload_n 1, 1) := by decide +kernel
theorem d_F_isWithin_2 : decode b_F_isWithin 2 = .ok (.if_icmp .lt 12, 3) := by decide +kernel
theorem d_F_isWithin_5 : decode b_F_isWithin 5 = .ok (.iload_n 0, 1) := by decide +kernel
theorem d_F_isWithin_6 : decode b_F_isWithin 6 = .ok (.iload_n 2, 1) := by decide +kernel
theorem d_F_isWithin_7 : decode b_F_isWithin 7 = .ok (.if_icmp .gt 7, 3) := by decide +kernel
theorem d_F_isWithin_10 : decode b_F_isWithin 10 = .ok (.iconst 1, 1) := by decide +kernel
theorem d_F_isWithin_11 : decode b_F_isWithin 11 = .ok (.goto 4, 3) := by decide +kernel
theorem d_F_isWithin_14 : decode b_F_isWithin 14 = .ok (.iconst 0, 1) := by decide +kernel
theorem d_F_isWithin_15 : decode b_F_isWithin 15 = .ok (.ireturn, 1) := by decide +kernel
theorem d_F_mayBe_0 : decode b_F_mayBe 0 = .ok (.iload_n 0, 1) := by decide +kernel
theorem d_F_mayBe_1 : decode b_F_mayBe 1 = .ok (.tableswitch 105 1 3 #[27, 53, 79], 27) := by decide +kernel
theorem d_F_mayBe_28 : decode b_F_mayBe 28 = .ok (.iload_n 1, 1) := by decide +kernel
theorem d_F_mayBe_29 : decode b_F_mayBe 29 = .ok (.iconst 3, 1) := by decide +kernel
theorem d_F_mayBe_30 : decode b_F_mayBe 30 = .ok (.bipush 10, 2) := by decide +kernel
theorem d_F_mayBe_32 : decode b_F_mayBe 32 = .ok (.invokestatic 147, 3) := by decide +kernel
theorem d_F_mayBe_35 : decode b_F_mayBe 35 = .ok (.ifCond .eq 17, 3) := by decide +kernel
theorem d_F_mayBe_38 : decode b_F_mayBe 38 = .ok (.iload_n 2, 1) := by decide +kernel
theorem d_F_mayBe_39 : decode b_F_mayBe 39 = .ok (.iconst 1, 1) := by decide +kernel
theorem d_F_mayBe_40 : decode b_F_mayBe 40 = .ok (.bipush 6, 2) := by decide +kernel
theorem d_F_mayBe_42 : decode b_F_mayBe 42 = .ok (.invokestatic 147, 3) := by decide +kernel
theorem d_F_mayBe_45 : decode b_F_mayBe 45 = .ok (.ifCond .eq 7, 3) := by decide +kernel
theorem d_F_mayBe_48 : decode b_F_mayBe 48 = .ok (.iconst 1, 1) := by decide +kernel
theorem d_F_mayBe_49 : decode b_F_mayBe 49 = .ok (.goto 4, 3) := by decide +kernel
theorem d_F_mayBe_52 : decode b_F_mayBe 52 = .ok (.iconst 0, 1) := by decide +kernel
theorem d_F_mayBe_53 : decode b_F_mayBe 53 = .ok (.ireturn, 1) := by decide +kernel
theorem d_F_mayBe_54 : decode b_F_mayBe 54 = .ok (.iload_n 1, 1) := by decide +kernel
theorem d_F_mayBe_55 : decode b_F_mayBe 55 = .ok (.iconst 1, 1) := by decide +kernel
theorem d_F_mayBe_56 : decode b_F_mayBe 56 = .ok (.bipush 8, 2) := by decide +kernel
theorem d_F_mayBe_58 : decode b_F_mayBe 58 = .ok (.invokestatic 147, 3) := by decide +kernel
theorem d_F_mayBe_61 : decode b_F_mayBe 61 = .ok (.ifCond .eq 17, 3) := by decide +kernel
theorem d_F_mayBe_64 : decode b_F_mayBe 64 = .ok (.iload_n 2, 1) := by decide +kernel
theorem d_F_mayBe_65 : decode b_F_mayBe 65 = .ok (.iconst 4, 1) := by decide +kernel
theorem d_F_mayBe_66 : decode b_F_mayBe 66 = .ok (.bipush 16, 2) := by decide +kernel
theorem d_F_mayBe_68 : decode b_F_mayBe 68 = .ok (.invokestatic 147, 3) := by decide +kernel
theorem d_F_mayBe_71 : decode b_F_mayBe 71 = .ok (.ifCond .eq 7, 3) := by decide +kernel
theorem d_F_mayBe_74 : decode b_F_mayBe 74 = .ok (.iconst 1, 1) := by decide +kernel
theorem d_F_mayBe_75 : decode b_F_mayBe 75 = .ok (.goto 4, 3) := by decide +kernel
theorem d_F_mayBe_78 : decode b_F_mayBe 78 = .ok (.iconst 0, 1) := by decide +kernel
theorem d_F_mayBe_79 : decode b_F_mayBe 79 = .ok (.ireturn, 1) := by decide +kernel
theorem d_F_mayBe_80 : decode b_F_mayBe 80 = .ok (.iload_n 1, 1) := by decide +kernel
theorem d_F_mayBe_81 : decode b_F_mayBe 81 = .ok (.iconst 2, 1) := by decide +kernel
theorem d_F_mayBe_82 : decode b_F_mayBe 82 = .ok (.bipush 8, 2) := by decide +kernel
theorem d_F_mayBe_84 : decode b_F_mayBe 84 = .ok (.invokestatic 147, 3) := by decide +kernel
theorem d_F_mayBe_87 : decode b_F_mayBe 87 = .ok (.ifCond .eq 17, 3) := by decide +kernel
theorem d_F_mayBe_90 : decode b_F_mayBe 90 = .ok (.iload_n 2, 1) := by decide +kernel
theorem d_F_mayBe_91 : decode b_F_mayBe 91 = .ok (.iconst 4, 1) := by decide +kernel
theorem d_F_mayBe_92 : decode b_F_mayBe 92 = .ok (.bipush 20, 2) := by decide +kernel
theorem d_F_mayBe_94 : decode b_F_mayBe 94 = .ok (.invokestatic 147, 3) := by decide +kernel
theorem d_F_mayBe_97 : decode b_F_mayBe 97 = .ok (.ifCond .eq 7, 3) := by decide +kernel
theorem d_F_mayBe_100 : decode b_F_mayBe 100 = .ok (.iconst 1, 1) := by decide +kernel
theorem d_F_mayBe_101 : decode b_F_mayBe 101 = .ok (.goto 4, 3) := by decide +kernel
theorem d_F_mayBe_104 : decode b_F_mayBe 104 = .ok (.iconst 0, 1) := by decide +kernel
theorem d_F_mayBe_105 : decode b_F_mayBe 105 = .ok (.ireturn, 1) := by decide +kernel
theorem d_F_mayBe_106 : decode b_F_mayBe 106 = .ok (.iconst 0, 1) := by decide +kernel
theorem d_F_mayBe_107 : decode b_F_mayBe 107 = .ok (.ireturn, 1) := by decide +kernel
theorem d_F_requireNumber_0 : decode b_F_requireNumber 0 = .ok (.iload_n 0, 1) := by decide +kernel
theorem d_F_requireNumber_1 : decode b_F_requireNumber 1 = .ok (.invokestatic 98, 3) := by decide +kernel
theorem d_F_requireNumber_4 : decode b_F_requireNumber 4 = .ok (.ifCond .ne 13, 3) := by decide +kernel
theorem d_F_requireNumber_7 : decode b_F_requireNumber 7 = .ok (.new 110, 3) := by decide +kernel
theorem d_F_requireNumber_10 : decode b_F_requireNumber 10 = .ok (.dup, 1) := by decide +kernel
theorem d_F_requireNumber_11 : decode b_F_requireNumber 11 = .ok (.ldc 154, 2) := by decide +kernel
theorem d_F_requireNumber_13 : decode b_F_requireNumber 13 = .ok (.invokespecial 114, 3) := by decide +kernel
theorem d_F_requireNumber_16 : decode b_F_requireNumber 16 = .ok (.athrow, 1) := by decide +kernel
theorem d_F_requireNumber_17 : decode b_F_requireNumber 17 = .ok (.return_, 1) := by decide +kernel
theorem d_F_requireItems_0 : decode b_F_requireItems 0 = .ok (.iload_n 0, 1) := by decide +kernel
theorem d_F_requireItems_1 : decode b_F_requireItems 1 = .ok (.iconst 0, 1) := by decide +kernel
theorem d_F_requireItems_2 : decode b_F_requireItems 2 = .ok (.sipush 400, 3) := by decide +kernel
theorem d_F_requireItems_5 : decode b_F_requireItems 5 = .ok (.invokestatic 147, 3) := by decide +kernel
theorem d_F_requireItems_8 : decode b_F_requireItems 8 = .ok (.ifCond .ne 13, 3) := by decide +kernel
theorem d_F_requireItems_11 : decode b_F_requireItems 11 = .ok (.new 30, 3) := by decide +kernel
theorem d_F_requireItems_14 : decode b_F_requireItems 14 = .ok (.dup, 1) := by decide +kernel
theorem d_F_requireItems_15 : decode b_F_requireItems 15 = .ok (.ldc 156, 2) := by decide +kernel
theorem d_F_requireItems_17 : decode b_F_requireItems 17 = .ok (.invokespecial 34, 3) := by decide +kernel
theorem d_F_requireItems_20 : decode b_F_requireItems 20 = .ok (.athrow, 1) := by decide +kernel
theorem d_F_requireItems_21 : decode b_F_requireItems 21 = .ok (.return_, 1) := by decide +kernel
theorem d_F_filterAt_0 : decode b_F_filterAt 0 = .ok (.iload_n 1, 1) := by decide +kernel
theorem d_F_filterAt_1 : decode b_F_filterAt 1 = .ok (.invokestatic 22, 3) := by decide +kernel
theorem d_F_filterAt_4 : decode b_F_filterAt 4 = .ok (.aload_n 0, 1) := by decide +kernel
theorem d_F_filterAt_5 : decode b_F_filterAt 5 = .ok (.getfield 11, 3) := by decide +kernel
theorem d_F_filterAt_8 : decode b_F_filterAt 8 = .ok (.iload_n 1, 1) := by decide +kernel
theorem d_F_filterAt_9 : decode b_F_filterAt 9 = .ok (.aaload, 1) := by decide +kernel
theorem d_F_filterAt_10 : decode b_F_filterAt 10 = .ok (.astore_n 2, 1) := by decide +kernel
theorem d_F_filterAt_11 : decode b_F_filterAt 11 = .ok (.aload_n 2, 1) := by decide +kernel
theorem d_F_filterAt_12 : decode b_F_filterAt 12 = .ok (.ifnonnull 13, 3) := by decide +kernel
theorem d_F_filterAt_15 : decode b_F_filterAt 15 = .ok (.new 102, 3) := by decide +kernel
theorem d_F_filterAt_18 : decode b_F_filterAt 18 = .ok (.dup, 1) := by decide +kernel
theorem d_F_filterAt_19 : decode b_F_filterAt 19 = .ok (.ldc 104, 2) := by decide +kernel
theorem d_F_filterAt_21 : decode b_F_filterAt 21 = .ok (.invokespecial 106, 3) := by decide +kernel
theorem d_F_filterAt_24 : decode b_F_filterAt 24 = .ok (.athrow, 1) := by decide +kernel
theorem d_F_filterAt_25 : decode b_F_filterAt 25 = .ok (.aload_n 2, 1) := by decide +kernel
theorem d_F_filterAt_26 : decode b_F_filterAt 26 = .ok (.areturn, 1) := by decide +kernel
theorem d_F_filterFor_0 : decode b_F_filterFor 0 = .ok (.iload_n 1, 1) := by decide +kernel
theorem d_F_filterFor_1 : decode b_F_filterFor 1 = .ok (.iconst 3, 1) := by decide +kernel
theorem d_F_filterFor_2 : decode b_F_filterFor 2 = .ok (.imul, 1) := by decide +kernel
theorem d_F_filterFor_3 : decode b_F_filterFor 3 = .ok (.iload_n 2, 1) := by decide +kernel
theorem d_F_filterFor_4 : decode b_F_filterFor 4 = .ok (.iadd, 1) := by decide +kernel
theorem d_F_filterFor_5 : decode b_F_filterFor 5 = .ok (.iconst 1, 1) := by decide +kernel
theorem d_F_filterFor_6 : decode b_F_filterFor 6 = .ok (.isub, 1) := by decide +kernel
theorem d_F_filterFor_7 : decode b_F_filterFor 7 = .ok (.istore_n 3, 1) := by decide +kernel
theorem d_F_filterFor_8 : decode b_F_filterFor 8 = .ok (.aload_n 0, 1) := by decide +kernel
theorem d_F_filterFor_9 : decode b_F_filterFor 9 = .ok (.getfield 15, 3) := by decide +kernel
theorem d_F_filterFor_12 : decode b_F_filterFor 12 = .ok (.iload_n 3, 1) := by decide +kernel
theorem d_F_filterFor_13 : decode b_F_filterFor 13 = .ok (.aaload, 1) := by decide +kernel
theorem d_F_filterFor_14 : decode b_F_filterFor 14 = .ok (.ifnonnull 13, 3) := by decide +kernel
theorem d_F_filterFor_17 : decode b_F_filterFor 17 = .ok (.aload_n 0, 1) := by decide +kernel
theorem d_F_filterFor_18 : decode b_F_filterFor 18 = .ok (.getfield 15, 3) := by decide +kernel
theorem d_F_filterFor_21 : decode b_F_filterFor 21 = .ok (.iload_n 3, 1) := by decide +kernel
theorem d_F_filterFor_22 : decode b_F_filterFor 22 = .ok (.iload_n 2, 1) := by decide +kernel
theorem d_F_filterFor_23 : decode b_F_filterFor 23 = .ok (.invokestatic 158, 3) := by decide +kernel
theorem d_F_filterFor_26 : decode b_F_filterFor 26 = .ok (.aastore, 1) := by decide +kernel
theorem d_F_filterFor_27 : decode b_F_filterFor 27 = .ok (.aload_n 0, 1) := by decide +kernel
theorem d_F_filterFor_28 : decode b_F_filterFor 28 = .ok (.getfield 15, 3) := by decide +kernel
theorem d_F_filterFor_31 : decode b_F_filterFor 31 = .ok (.iload_n 3, 1) := by decide +kernel
theorem d_F_filterFor_32 : decode b_F_filterFor 32 = .ok (.aaload, 1) := by decide +kernel
theorem d_F_filterFor_33 : decode b_F_filterFor 33 = .ok (.areturn, 1) := by decide +kernel
theorem d_F_newFilter_0 : decode b_F_newFilter 0 = .ok (.iload_n 0, 1) := by decide +kernel
theorem d_F_newFilter_1 : decode b_F_newFilter 1 = .ok (.lookupswitch 43 #[(1, 27), (2, 35)], 27) := by decide +kernel
theorem d_F_newFilter_28 : decode b_F_newFilter 28 = .ok (.new 150, 3) := by decide +kernel
theorem d_F_newFilter_31 : decode b_F_newFilter 31 = .ok (.dup, 1) := by decide +kernel
theorem d_F_newFilter_32 : decode b_F_newFilter 32 = .ok (.invokespecial 161, 3) := by decide +kernel
theorem d_F_newFilter_35 : decode b_F_newFilter 35 = .ok (.areturn, 1) := by decide +kernel
theorem d_F_newFilter_36 : decode b_F_newFilter 36 = .ok (.new 152, 3) := by decide +kernel
theorem d_F_newFilter_39 : decode b_F_newFilter 39 = .ok (.dup, 1) := by decide +kernel
theorem d_F_newFilter_40 : decode b_F_newFilter 40 = .ok (.invokespecial 162, 3) := by decide +kernel
theorem d_F_newFilter_43 : decode b_F_newFilter 43 = .ok (.areturn, 1) := by decide +kernel
theorem d_F_newFilter_44 : decode b_F_newFilter 44 = .ok (.new 124, 3) := by decide +kernel
theorem d_F_newFilter_47 : decode b_F_newFilter 47 = .ok (.dup, 1) := by decide +kernel
theorem d_F_newFilter_48 : decode b_F_newFilter 48 = .ok (.invokespecial 163, 3) := by decide +kernel
theorem d_F_newFilter_51 : decode b_F_newFilter 51 = .ok (.areturn, 1) := by decide +kernel
theorem d_F_asRuns_0 : decode b_F_asRuns 0 = .ok (.aload_n 0, 1) := by decide +kernel
theorem d_F_asRuns_1 : decode b_F_asRuns 1 = .ok (.instanceof 124, 3) := by decide +kernel
theorem d_F_asRuns_4 : decode b_F_asRuns 4 = .ok (.ifCond .eq 10, 3) := by decide +kernel
theorem d_F_asRuns_7 : decode b_F_asRuns 7 = .ok (.aload_n 0, 1) := by decide +kernel
theorem d_F_asRuns_8 : decode b_F_asRuns 8 = .ok (.checkcast 124, 3) := by decide +kernel
theorem d_F_asRuns_11 : decode b_F_asRuns 11 = .ok (.astore_n 1, 1) := by decide +kernel
theorem d_F_asRuns_12 : decode b_F_asRuns 12 = .ok (.aload_n 1, 1) := by decide +kernel
theorem d_F_asRuns_13 : decode b_F_asRuns 13 = .ok (.areturn, 1) := by decide +kernel
theorem d_F_asRuns_14 : decode b_F_asRuns 14 = .ok (.new 30, 3) := by decide +kernel
theorem d_F_asRuns_17 : decode b_F_asRuns 17 = .ok (.dup, 1) := by decide +kernel
theorem d_F_asRuns_18 : decode b_F_asRuns 18 = .ok (.ldc 164, 2) := by decide +kernel
theorem d_F_asRuns_20 : decode b_F_asRuns 20 = .ok (.invokespecial 34, 3) := by decide +kernel
theorem d_F_asRuns_23 : decode b_F_asRuns 23 = .ok (.athrow, 1) := by decide +kernel
theorem d_C_init_0 : decode b_C_init 0 = .ok (.aload_n 0, 1) := by decide +kernel
theorem d_C_init_1 : decode b_C_init 1 = .ok (.invokespecial 3, 3) := by decide +kernel
theorem d_C_init_4 : decode b_C_init 4 = .ok (.aload_n 0, 1) := by decide +kernel
theorem d_C_init_5 : decode b_C_init 5 = .ok (.sipush 1024, 3) := by decide +kernel
theorem d_C_init_8 : decode b_C_init 8 = .ok (.newarray .int, 2) := by decide +kernel
theorem d_C_init_10 : decode b_C_init 10 = .ok (.putfield 11, 3) := by decide +kernel
theorem d_C_init_13 : decode b_C_init 13 = .ok (.aload_n 0, 1) := by decide +kernel
theorem d_C_init_14 : decode b_C_init 14 = .ok (.bipush 6, 2) := by decide +kernel
theorem d_C_init_16 : decode b_C_init 16 = .ok (.newarray .int, 2) := by decide +kernel
theorem d_C_init_18 : decode b_C_init 18 = .ok (.putfield 15, 3) := by decide +kernel
theorem d_C_init_21 : decode b_C_init 21 = .ok (.aload_n 0, 1) := by decide +kernel
theorem d_C_init_22 : decode b_C_init 22 = .ok (.bipush 6, 2) := by decide +kernel
theorem d_C_init_24 : decode b_C_init 24 = .ok (.newarray .int, 2) := by decide +kernel
theorem d_C_init_26 : decode b_C_init 26 = .ok (.putfield 18, 3) := by decide +kernel
theorem d_C_init_29 : decode b_C_init 29 = .ok (.return_, 1) := by decide +kernel
theorem d_C_kind_0 : decode b_C_kind 0 = .ok (.iconst 1, 1) := by decide +kernel
theorem d_C_kind_1 : decode b_C_kind 1 = .ok (.ireturn, 1) := by decide +kernel
theorem d_C_wipe_0 : decode b_C_wipe 0 = .ok (.aload_n 0, 1) := by decide +kernel
theorem d_C_wipe_1 : decode b_C_wipe 1 = .ok (.getfield 11, 3) := by decide +kernel
theorem d_C_wipe_4 : decode b_C_wipe 4 = .ok (.iconst 0, 1) := by decide +kernel
theorem d_C_wipe_5 : decode b_C_wipe 5 = .ok (.invokestatic 21, 3) := by decide +kernel
theorem d_C_wipe_8 : decode b_C_wipe 8 = .ok (.return_, 1) := by decide +kernel
theorem d_C_put_0 : decode b_C_put 0 = .ok (.aload_n 0, 1) := by decide +kernel
theorem d_C_put_1 : decode b_C_put 1 = .ok (.lload_n 1, 1) := by decide +kernel
theorem d_C_put_2 : decode b_C_put 2 = .ok (.aload_n 0, 1) := by decide +kernel
theorem d_C_put_3 : decode b_C_put 3 = .ok (.getfield 15, 3) := by decide +kernel
theorem d_C_put_6 : decode b_C_put 6 = .ok (.invokevirtual 27, 3) := by decide +kernel
theorem d_C_put_9 : decode b_C_put 9 = .ok (.iconst 0, 1) := by decide +kernel
theorem d_C_put_10 : decode b_C_put 10 = .ok (.istore_n 3, 1) := by decide +kernel
theorem d_C_put_11 : decode b_C_put 11 = .ok (.iload_n 3, 1) := by decide +kernel
theorem d_C_put_12 : decode b_C_put 12 = .ok (.aload_n 0, 1) := by decide +kernel
theorem d_C_put_13 : decode b_C_put 13 = .ok (.getfield 31, 3) := by decide +kernel
theorem d_C_put_16 : decode b_C_put 16 = .ok (.if_icmp .ge 42, 3) := by decide +kernel
theorem d_C_put_19 : decode b_C_put 19 = .ok (.aload_n 0, 1) := by decide +kernel
theorem d_C_put_20 : decode b_C_put 20 = .ok (.getfield 11, 3) := by decide +kernel
theorem d_C_put_23 : decode b_C_put 23 = .ok (.aload_n 0, 1) := by decide +kernel
theorem d_C_put_24 : decode b_C_put 24 = .ok (.getfield 15, 3) := by decide +kernel
theorem d_C_put_27 : decode b_C_put 27 = .ok (.iload_n 3, 1) := by decide +kernel
theorem d_C_put_28 : decode b_C_put 28 = .ok (.iaload, 1) := by decide +kernel
theorem d_C_put_29 : decode b_C_put 29 = .ok (.iaload, 1) := by decide +kernel
theorem d_C_put_30 : decode b_C_put 30 = .ok (.aload_n 0, 1) := by decide +kernel
theorem d_C_put_31 : decode b_C_put 31 = .ok (.aload_n 0, 1) := by decide +kernel
theorem d_C_put_32 : decode b_C_put 32 = .ok (.getfield 15, 3) := by decide +kernel
theorem d_C_put_35 : decode b_C_put 35 = .ok (.aload_n 0, 1) := by decide +kernel
theorem d_C_put_36 : decode b_C_put 36 = .ok (.getfield 15, 3) := by decide +kernel
theorem d_C_put_39 : decode b_C_put 39 = .ok (.iload_n 3, 1) := by decide +kernel
theorem d_C_put_40 : decode b_C_put 40 = .ok (.iaload, 1) := by decide +kernel
theorem d_C_put_41 : decode b_C_put 41 = .ok (.invokevirtual 35, 3) := by decide +kernel
theorem d_C_put_44 : decode b_C_put 44 = .ok (.iadd, 1) := by decide +kernel
theorem d_C_put_45 : decode b_C_put 45 = .ok (.bipush 15, 2) := by decide +kernel
theorem d_C_put_47 : decode b_C_put 47 = .ok (.if_icmp .le 5, 3) := by decide +kernel
theorem d_C_put_50 : decode b_C_put 50 = .ok (.iconst 0, 1) := by decide +kernel
theorem d_C_put_51 : decode b_C_put 51 = .ok (.ireturn, 1) := by decide +kernel
theorem d_C_put_52 : decode b_C_put 52 = .ok (.iinc 3 1, 3) := by decide +kernel
theorem d_C_put_55 : decode b_C_put 55 = .ok (.goto (-44), 3) := by decide +kernel
theorem d_C_put_58 : decode b_C_put 58 = .ok (.aload_n 0, 1) := by decide +kernel
theorem d_C_put_59 : decode b_C_put 59 = .ok (.iconst 1, 1) := by decide +kernel
theorem d_C_put_60 : decode b_C_put 60 = .ok (.invokevirtual 39, 3) := by decide +kernel
theorem d_C_put_63 : decode b_C_put 63 = .ok (.iconst 1, 1) := by decide +kernel
theorem d_C_put_64 : decode b_C_put 64 = .ok (.ireturn, 1) := by decide +kernel
theorem d_C_take_0 : decode b_C_take 0 = .ok (.aload_n 0, 1) := by decide +kernel
theorem d_C_take_1 : decode b_C_take 1 = .ok (.lload_n 1, 1) := by decide +kernel
theorem d_C_take_2 : decode b_C_take 2 = .ok (.aload_n 0, 1) := by decide +kernel
theorem d_C_take_3 : decode b_C_take 3 = .ok (.getfield 15, 3) := by decide +kernel
theorem d_C_take_6 : decode b_C_take 6 = .ok (.invokevirtual 27, 3) := by decide +kernel
theorem d_C_take_9 : decode b_C_take 9 = .ok (.iconst 0, 1) := by decide +kernel
theorem d_C_take_10 : decode b_C_take 10 = .ok (.istore_n 3, 1) := by decide +kernel
theorem d_C_take_11 : decode b_C_take 11 = .ok (.iload_n 3, 1) := by decide +kernel
theorem d_C_take_12 : decode b_C_take 12 = .ok (.aload_n 0, 1) := by decide +kernel
theorem d_C_take_13 : decode b_C_take 13 = .ok (.getfield 31, 3) := by decide +kernel
theorem d_C_take_16 : decode b_C_take 16 = .ok (.if_icmp .ge 39, 3) := by decide +kernel
theorem d_C_take_19 : decode b_C_take 19 = .ok (.aload_n 0, 1) := by decide +kernel
theorem d_C_take_20 : decode b_C_take 20 = .ok (.getfield 11, 3) := by decide +kernel
theorem d_C_take_23 : decode b_C_take 23 = .ok (.aload_n 0, 1) := by decide +kernel
theorem d_C_take_24 : decode b_C_take 24 = .ok (.getfield 15, 3) := by decide +kernel
theorem d_C_take_27 : decode b_C_take 27 = .ok (.iload_n 3, 1) := by decide +kernel
theorem d_C_take_28 : decode b_C_take 28 = .ok (.iaload, 1) := by decide +kernel
theorem d_C_take_29 : decode b_C_take 29 = .ok (.iaload, 1) := by decide +kernel
theorem d_C_take_30 : decode b_C_take 30 = .ok (.aload_n 0, 1) := by decide +kernel
theorem d_C_take_31 : decode b_C_take 31 = .ok (.aload_n 0, 1) := by decide +kernel
theorem d_C_take_32 : decode b_C_take 32 = .ok (.getfield 15, 3) := by decide +kernel
theorem d_C_take_35 : decode b_C_take 35 = .ok (.aload_n 0, 1) := by decide +kernel
theorem d_C_take_36 : decode b_C_take 36 = .ok (.getfield 15, 3) := by decide +kernel
theorem d_C_take_39 : decode b_C_take 39 = .ok (.iload_n 3, 1) := by decide +kernel
theorem d_C_take_40 : decode b_C_take 40 = .ok (.iaload, 1) := by decide +kernel
theorem d_C_take_41 : decode b_C_take 41 = .ok (.invokevirtual 35, 3) := by decide +kernel
theorem d_C_take_44 : decode b_C_take 44 = .ok (.if_icmp .ge 5, 3) := by decide +kernel
theorem d_C_take_47 : decode b_C_take 47 = .ok (.iconst 0, 1) := by decide +kernel
theorem d_C_take_48 : decode b_C_take 48 = .ok (.ireturn, 1) := by decide +kernel
theorem d_C_take_49 : decode b_C_take 49 = .ok (.iinc 3 1, 3) := by decide +kernel
theorem d_C_take_52 : decode b_C_take 52 = .ok (.goto (-41), 3) := by decide +kernel
theorem d_C_take_55 : decode b_C_take 55 = .ok (.aload_n 0, 1) := by decide +kernel
theorem d_C_take_56 : decode b_C_take 56 = .ok (.iconst (-1), 1) := by decide +kernel
theorem d_C_take_57 : decode b_C_take 57 = .ok (.invokevirtual 39, 3) := by decide +kernel
theorem d_C_take_60 : decode b_C_take 60 = .ok (.iconst 1, 1) := by decide +kernel
theorem d_C_take_61 : decode b_C_take 61 = .ok (.ireturn, 1) := by decide +kernel
theorem d_C_holds_0 : decode b_C_holds 0 = .ok (.aload_n 0, 1) := by decide +kernel
theorem d_C_holds_1 : decode b_C_holds 1 = .ok (.lload_n 1, 1) := by decide +kernel
theorem d_C_holds_2 : decode b_C_holds 2 = .ok (.aload_n 0, 1) := by decide +kernel
theorem d_C_holds_3 : decode b_C_holds 3 = .ok (.getfield 15, 3) := by decide +kernel
theorem d_C_holds_6 : decode b_C_holds 6 = .ok (.invokevirtual 27, 3) := by decide +kernel
theorem d_C_holds_9 : decode b_C_holds 9 = .ok (.iconst 0, 1) := by decide +kernel
theorem d_C_holds_10 : decode b_C_holds 10 = .ok (.istore_n 3, 1) := by decide +kernel
theorem d_C_holds_11 : decode b_C_holds 11 = .ok (.iload_n 3, 1) := by decide +kernel
theorem d_C_holds_12 : decode b_C_holds 12 = .ok (.aload_n 0, 1) := by decide +kernel
theorem d_C_holds_13 : decode b_C_holds 13 = .ok (.getfield 31, 3) := by decide +kernel
theorem d_C_holds_16 : decode b_C_holds 16 = .ok (.if_icmp .ge 25, 3) := by decide +kernel
theorem d_C_holds_19 : decode b_C_holds 19 = .ok (.aload_n 0, 1) := by decide +kernel
theorem d_C_holds_20 : decode b_C_holds 20 = .ok (.getfield 11, 3) := by decide +kernel
theorem d_C_holds_23 : decode b_C_holds 23 = .ok (.aload_n 0, 1) := by decide +kernel
theorem d_C_holds_24 : decode b_C_holds 24 = .ok (.getfield 15, 3) := by decide +kernel
theorem d_C_holds_27 : decode b_C_holds 27 = .ok (.iload_n 3, 1) := by decide +kernel
theorem d_C_holds_28 : decode b_C_holds 28 = .ok (.iaload, 1) := by decide +kernel
theorem d_C_holds_29 : decode b_C_holds 29 = .ok (.iaload, 1) := by decide +kernel
theorem d_C_holds_30 : decode b_C_holds 30 = .ok (.ifCond .ne 5, 3) := by decide +kernel
theorem d_C_holds_33 : decode b_C_holds 33 = .ok (.iconst 0, 1) := by decide +kernel
theorem d_C_holds_34 : decode b_C_holds 34 = .ok (.ireturn, 1) := by decide +kernel
theorem d_C_holds_35 : decode b_C_holds 35 = .ok (.iinc 3 1, 3) := by decide +kernel
theorem d_C_holds_38 : decode b_C_holds 38 = .ok (.goto (-27), 3) := by decide +kernel
theorem d_C_holds_41 : decode b_C_holds 41 = .ok (.iconst 1, 1) := by decide +kernel
theorem d_C_holds_42 : decode b_C_holds 42 = .ok (.ireturn, 1) := by decide +kernel
theorem d_C_looksAlike_0 : decode b_C_looksAlike 0 = .ok (.aload_n 0, 1) := by decide +kernel
theorem d_C_looksAlike_1 : decode b_C_looksAlike 1 = .ok (.lload_n 1, 1) := by decide +kernel
theorem d_C_looksAlike_2 : decode b_C_looksAlike 2 = .ok (.aload_n 0, 1) := by decide +kernel
theorem d_C_looksAlike_3 : decode b_C_looksAlike 3 = .ok (.getfield 15, 3) := by decide +kernel
theorem d_C_looksAlike_6 : decode b_C_looksAlike 6 = .ok (.invokevirtual 27, 3) := by decide +kernel
theorem d_C_looksAlike_9 : decode b_C_looksAlike 9 = .ok (.aload_n 0, 1) := by decide +kernel
theorem d_C_looksAlike_10 : decode b_C_looksAlike 10 = .ok (.lload_n 3, 1) := by decide +kernel
theorem d_C_looksAlike_11 : decode b_C_looksAlike 11 = .ok (.aload_n 0, 1) := by decide +kernel
theorem d_C_looksAlike_12 : decode b_C_looksAlike 12 = .ok (.getfield 18, 3) := by decide +kernel
theorem d_C_looksAlike_15 : decode b_C_looksAlike 15 = .ok (.invokevirtual 27, 3) := by decide +kernel
theorem d_C_looksAlike_18 : decode b_C_looksAlike 18 = .ok (.iconst 0, 1) := by decide +kernel
theorem d_C_looksAlike_19 : decode b_C_looksAlike 19 = .ok (.istore 5, 2) := by decide +kernel
theorem d_C_looksAlike_21 : decode b_C_looksAlike 21 = .ok (.iload 5, 2) := by decide +kernel
theorem d_C_looksAlike_23 : decode b_C_looksAlike 23 = .ok (.aload_n 0, 1) := by decide +kernel
theorem d_C_looksAlike_24 : decode b_C_looksAlike 24 = .ok (.getfield 31, 3) := by decide +kernel
theorem d_C_looksAlike_27 : decode b_C_looksAlike 27 = .ok (.if_icmp .ge 44, 3) := by decide +kernel
theorem d_C_looksAlike_30 : decode b_C_looksAlike 30 = .ok (.aload_n 0, 1) := by decide +kernel
theorem d_C_looksAlike_31 : decode b_C_looksAlike 31 = .ok (.aload_n 0, 1) := by decide +kernel
theorem d_C_looksAlike_32 : decode b_C_looksAlike 32 = .ok (.getfield 15, 3) := by decide +kernel
theorem d_C_looksAlike_35 : decode b_C_looksAlike 35 = .ok (.aload_n 0, 1) := by decide +kernel
theorem d_C_looksAlike_36 : decode b_C_looksAlike 36 = .ok (.getfield 15, 3) := by decide +kernel
theorem d_C_looksAlike_39 : decode b_C_looksAlike 39 = .ok (.iload 5, 2) := by decide +kernel
theorem d_C_looksAlike_41 : decode b_C_looksAlike 41 = .ok (.iaload, 1) := by decide +kernel
theorem d_C_looksAlike_42 : decode b_C_looksAlike 42 = .ok (.invokevirtual 35, 3) := by decide +kernel
theorem d_C_looksAlike_45 : decode b_C_looksAlike 45 = .ok (.aload_n 0, 1) := by decide +kernel
theorem d_C_looksAlike_46 : decode b_C_looksAlike 46 = .ok (.aload_n 0, 1) := by decide +kernel
theorem d_C_looksAlike_47 : decode b_C_looksAlike 47 = .ok (.getfield 18, 3) := by decide +kernel
theorem d_C_looksAlike_50 : decode b_C_looksAlike 50 = .ok (.aload_n 0, 1) := by decide +kernel
theorem d_C_looksAlike_51 : decode b_C_looksAlike 51 = .ok (.getfield 15, 3) := by decide +kernel
theorem d_C_looksAlike_54 : decode b_C_looksAlike 54 = .ok (.iload 5, 2) := by decide +kernel
theorem d_C_looksAlike_56 : decode b_C_looksAlike 56 = .ok (.iaload, 1) := by decide +kernel
theorem d_C_looksAlike_57 : decode b_C_looksAlike 57 = .ok (.invokevirtual 35, 3) := by decide +kernel
theorem d_C_looksAlike_60 : decode b_C_looksAlike 60 = .ok (.if_icmp .eq 5, 3) := by decide +kernel
theorem d_C_looksAlike_63 : decode b_C_looksAlike 63 = .ok (.iconst 0, 1) := by decide +kernel
theorem d_C_looksAlike_64 : decode b_C_looksAlike 64 = .ok (.ireturn, 1) := by decide +kernel
theorem d_C_looksAlike_65 : decode b_C_looksAlike 65 = .ok (.iinc 5 1, 3) := by decide +kernel
theorem d_C_looksAlike_68 : decode b_C_looksAlike 68 = .ok (.goto (-47), 3) := by decide +kernel
theorem d_C_looksAlike_71 : decode b_C_looksAlike 71 = .ok (.iconst 1, 1) := by decide +kernel
theorem d_C_looksAlike_72 : decode b_C_looksAlike 72 = .ok (.ireturn, 1) := by decide +kernel
theorem d_C_filledCells_0 : decode b_C_filledCells 0 = .ok (.iconst 0, 1) := by decide +kernel
theorem d_C_filledCells_1 : decode b_C_filledCells 1 = .ok (.istore_n 1, 1) := by decide +kernel
theorem d_C_filledCells_2 : decode b_C_filledCells 2 = .ok (.iconst 0, 1) := by decide +kernel
theorem d_C_filledCells_3 : decode b_C_filledCells 3 = .ok (.istore_n 2, 1) := by decide +kernel
theorem d_C_filledCells_4 : decode b_C_filledCells 4 = .ok (.iload_n 2, 1) := by decide +kernel
theorem d_C_filledCells_5 : decode b_C_filledCells 5 = .ok (.aload_n 0, 1) := by decide +kernel
theorem d_C_filledCells_6 : decode b_C_filledCells 6 = .ok (.invokevirtual 43, 3) := by decide +kernel
theorem d_C_filledCells_9 : decode b_C_filledCells 9 = .ok (.if_icmp .ge 21, 3) := by decide +kernel
theorem d_C_filledCells_12 : decode b_C_filledCells 12 = .ok (.aload_n 0, 1) := by decide +kernel
theorem d_C_filledCells_13 : decode b_C_filledCells 13 = .ok (.getfield 11, 3) := by decide +kernel
theorem d_C_filledCells_16 : decode b_C_filledCells 16 = .ok (.iload_n 2, 1) := by decide +kernel
theorem d_C_filledCells_17 : decode b_C_filledCells 17 = .ok (.iaload, 1) := by decide +kernel
theorem d_C_filledCells_18 : decode b_C_filledCells 18 = .ok (.ifCond .le 6, 3) := by decide +kernel
theorem d_C_filledCells_21 : decode b_C_filledCells 21 = .ok (.iinc 1 1, 3) := by decide +kernel
theorem d_C_filledCells_24 : decode b_C_filledCells 24 = .ok (.iinc 2 1, 3) := by decide +kernel
theorem d_C_filledCells_27 : decode b_C_filledCells 27 = .ok (.goto (-23), 3) := by decide +kernel
theorem d_C_filledCells_30 : decode b_C_filledCells 30 = .ok (.iload_n 1, 1) := by decide +kernel
theorem d_C_filledCells_31 : decode b_C_filledCells 31 = .ok (.ireturn, 1) := by decide +kernel
theorem d_C_strain_0 : decode b_C_strain 0 = .ok (.iconst 0, 1) := by decide +kernel
theorem d_C_strain_1 : decode b_C_strain 1 = .ok (.istore_n 1, 1) := by decide +kernel
theorem d_C_strain_2 : decode b_C_strain 2 = .ok (.iconst 0, 1) := by decide +kernel
theorem d_C_strain_3 : decode b_C_strain 3 = .ok (.istore_n 2, 1) := by decide +kernel
theorem d_C_strain_4 : decode b_C_strain 4 = .ok (.iload_n 2, 1) := by decide +kernel
theorem d_C_strain_5 : decode b_C_strain 5 = .ok (.aload_n 0, 1) := by decide +kernel
theorem d_C_strain_6 : decode b_C_strain 6 = .ok (.invokevirtual 43, 3) := by decide +kernel
theorem d_C_strain_9 : decode b_C_strain 9 = .ok (.if_icmp .ge 20, 3) := by decide +kernel
theorem d_C_strain_12 : decode b_C_strain 12 = .ok (.iload_n 1, 1) := by decide +kernel
theorem d_C_strain_13 : decode b_C_strain 13 = .ok (.aload_n 0, 1) := by decide +kernel
theorem d_C_strain_14 : decode b_C_strain 14 = .ok (.getfield 11, 3) := by decide +kernel
theorem d_C_strain_17 : decode b_C_strain 17 = .ok (.iload_n 2, 1) := by decide +kernel
theorem d_C_strain_18 : decode b_C_strain 18 = .ok (.iaload, 1) := by decide +kernel
theorem d_C_strain_19 : decode b_C_strain 19 = .ok (.invokestatic 47, 3) := by decide +kernel
theorem d_C_strain_22 : decode b_C_strain 22 = .ok (.istore_n 1, 1) := by decide +kernel
theorem d_C_strain_23 : decode b_C_strain 23 = .ok (.iinc 2 1, 3) := by decide +kernel
theorem d_C_strain_26 : decode b_C_strain 26 = .ok (.goto (-22), 3) := by decide +kernel
theorem d_C_strain_29 : decode b_C_strain 29 = .ok (.iload_n 1, 1) := by decide +kernel
theorem d_C_strain_30 : decode b_C_strain 30 = .ok (.ireturn, 1) := by decide +kernel
theorem d_C_look_0 : decode b_C_look 0 = .ok (.aload_n 0, 1) := by decide +kernel
theorem d_C_look_1 : decode b_C_look 1 = .ok (.getfield 11, 3) := by decide +kernel
theorem d_C_look_4 : decode b_C_look 4 = .ok (.iload_n 1, 1) := by decide +kernel
theorem d_C_look_5 : decode b_C_look 5 = .ok (.iaload, 1) := by decide +kernel
theorem d_C_look_6 : decode b_C_look 6 = .ok (.ireturn, 1) := by decide +kernel
theorem d_C_findPlaces_0 : decode b_C_findPlaces 0 = .ok (.iconst 0, 1) := by decide +kernel
theorem d_C_findPlaces_1 : decode b_C_findPlaces 1 = .ok (.istore 4, 2) := by decide +kernel
theorem d_C_findPlaces_3 : decode b_C_findPlaces 3 = .ok (.iload 4, 2) := by decide +kernel
theorem d_C_findPlaces_5 : decode b_C_findPlaces 5 = .ok (.aload_n 0, 1) := by decide +kernel
theorem d_C_findPlaces_6 : decode b_C_findPlaces 6 = .ok (.getfield 31, 3) := by decide +kernel
theorem d_C_findPlaces_9 : decode b_C_findPlaces 9 = .ok (.if_icmp .ge 23, 3) := by decide +kernel
theorem d_C_findPlaces_12 : decode b_C_findPlaces 12 = .ok (.aload_n 3, 1) := by decide +kernel
theorem d_C_findPlaces_13 : decode b_C_findPlaces 13 = .ok (.iload 4, 2) := by decide +kernel
theorem d_C_findPlaces_15 : decode b_C_findPlaces 15 = .ok (.aload_n 0, 1) := by decide +kernel
theorem d_C_findPlaces_16 : decode b_C_findPlaces 16 = .ok (.lload_n 1, 1) := by decide +kernel
theorem d_C_findPlaces_17 : decode b_C_findPlaces 17 = .ok (.iload 4, 2) := by decide +kernel
theorem d_C_findPlaces_19 : decode b_C_findPlaces 19 = .ok (.invokestatic 53, 3) := by decide +kernel
theorem d_C_findPlaces_22 : decode b_C_findPlaces 22 = .ok (.invokevirtual 57, 3) := by decide +kernel
theorem d_C_findPlaces_25 : decode b_C_findPlaces 25 = .ok (.iastore, 1) := by decide +kernel
theorem d_C_findPlaces_26 : decode b_C_findPlaces 26 = .ok (.iinc 4 1, 3) := by decide +kernel
theorem d_C_findPlaces_29 : decode b_C_findPlaces 29 = .ok (.goto (-26), 3) := by decide +kernel
theorem d_C_findPlaces_32 : decode b_C_findPlaces 32 = .ok (.return_, 1) := by decide +kernel
theorem d_C_timesIn_0 : decode b_C_timesIn 0 = .ok (.iconst 0, 1) := by decide +kernel
theorem d_C_timesIn_1 : decode b_C_timesIn 1 = .ok (.istore_n 3, 1) := by decide +kernel
theorem d_C_timesIn_2 : decode b_C_timesIn 2 = .ok (.iconst 0, 1) := by decide +kernel
theorem d_C_timesIn_3 : decode b_C_timesIn 3 = .ok (.istore 4, 2) := by decide +kernel
theorem d_C_timesIn_5 : decode b_C_timesIn 5 = .ok (.iload 4, 2) := by decide +kernel
theorem d_C_timesIn_7 : decode b_C_timesIn 7 = .ok (.aload_n 0, 1) := by decide +kernel
theorem d_C_timesIn_8 : decode b_C_timesIn 8 = .ok (.getfield 31, 3) := by decide +kernel
theorem d_C_timesIn_11 : decode b_C_timesIn 11 = .ok (.if_icmp .ge 20, 3) := by decide +kernel
theorem d_C_timesIn_14 : decode b_C_timesIn 14 = .ok (.aload_n 1, 1) := by decide +kernel
theorem d_C_timesIn_15 : decode b_C_timesIn 15 = .ok (.iload 4, 2) := by decide +kernel
theorem d_C_timesIn_17 : decode b_C_timesIn 17 = .ok (.iaload, 1) := by decide +kernel
theorem d_C_timesIn_18 : decode b_C_timesIn 18 = .ok (.iload_n 2, 1) := by decide +kernel
theorem d_C_timesIn_19 : decode b_C_timesIn 19 = .ok (.if_icmp .ne 6, 3) := by decide +kernel
theorem d_C_timesIn_22 : decode b_C_timesIn 22 = .ok (.iinc 3 1, 3) := by decide +kernel
theorem d_C_timesIn_25 : decode b_C_timesIn 25 = .ok (.iinc 4 1, 3) := by decide +kernel
theorem d_C_timesIn_28 : decode b_C_timesIn 28 = .ok (.goto (-23), 3) := by decide +kernel
theorem d_C_timesIn_31 : decode b_C_timesIn 31 = .ok (.iload_n 3, 1) := by decide +kernel
theorem d_C_timesIn_32 : decode b_C_timesIn 32 = .ok (.ireturn, 1) := by decide +kernel
theorem d_C_countBy_0 : decode b_C_countBy 0 = .ok (.iconst 0, 1) := by decide +kernel
theorem d_C_countBy_1 : decode b_C_countBy 1 = .ok (.istore_n 2, 1) := by decide +kernel
theorem d_C_countBy_2 : decode b_C_countBy 2 = .ok (.iload_n 2, 1) := by decide +kernel
theorem d_C_countBy_3 : decode b_C_countBy 3 = .ok (.aload_n 0, 1) := by decide +kernel
theorem d_C_countBy_4 : decode b_C_countBy 4 = .ok (.getfield 31, 3) := by decide +kernel
theorem d_C_countBy_7 : decode b_C_countBy 7 = .ok (.if_icmp .ge 24, 3) := by decide +kernel
theorem d_C_countBy_10 : decode b_C_countBy 10 = .ok (.aload_n 0, 1) := by decide +kernel
theorem d_C_countBy_11 : decode b_C_countBy 11 = .ok (.getfield 11, 3) := by decide +kernel
theorem d_C_countBy_14 : decode b_C_countBy 14 = .ok (.aload_n 0, 1) := by decide +kernel
theorem d_C_countBy_15 : decode b_C_countBy 15 = .ok (.getfield 15, 3) := by decide +kernel
theorem d_C_countBy_18 : decode b_C_countBy 18 = .ok (.iload_n 2, 1) := by decide +kernel
theorem d_C_countBy_19 : decode b_C_countBy 19 = .ok (.iaload, 1) := by decide +kernel
theorem d_C_countBy_20 : decode b_C_countBy 20 = .ok (.dup2, 1) := by decide +kernel
theorem d_C_countBy_21 : decode b_C_countBy 21 = .ok (.iaload, 1) := by decide +kernel
theorem d_C_countBy_22 : decode b_C_countBy 22 = .ok (.iload_n 1, 1) := by decide +kernel
theorem d_C_countBy_23 : decode b_C_countBy 23 = .ok (.iadd, 1) := by decide +kernel
theorem d_C_countBy_24 : decode b_C_countBy 24 = .ok (.iastore, 1) := by decide +kernel
theorem d_C_countBy_25 : decode b_C_countBy 25 = .ok (.iinc 2 1, 3) := by decide +kernel
theorem d_C_countBy_28 : decode b_C_countBy 28 = .ok (.goto (-26), 3) := by decide +kernel
theorem d_C_countBy_31 : decode b_C_countBy 31 = .ok (.return_, 1) := by decide +kernel
theorem d_P_init_0 : decode b_P_init 0 = .ok (.aload_n 0, 1) := by decide +kernel
theorem d_P_init_1 : decode b_P_init 1 = .ok (.invokespecial 1, 3) := by decide +kernel
theorem d_P_init_4 : decode b_P_init 4 = .ok (.return_, 1) := by decide +kernel
theorem d_P_begin_0 : decode b_P_begin 0 = .ok (.aload_n 0, 1) := by decide +kernel
theorem d_P_begin_1 : decode b_P_begin 1 = .ok (.iload_n 1, 1) := by decide +kernel
theorem d_P_begin_2 : decode b_P_begin 2 = .ok (.putfield 7, 3) := by decide +kernel
theorem d_P_begin_5 : decode b_P_begin 5 = .ok (.aload_n 0, 1) := by decide +kernel
theorem d_P_begin_6 : decode b_P_begin 6 = .ok (.iload_n 2, 1) := by decide +kernel
theorem d_P_begin_7 : decode b_P_begin 7 = .ok (.putfield 13, 3) := by decide +kernel
theorem d_P_begin_10 : decode b_P_begin 10 = .ok (.aload_n 0, 1) := by decide +kernel
theorem d_P_begin_11 : decode b_P_begin 11 = .ok (.iconst 0, 1) := by decide +kernel
theorem d_P_begin_12 : decode b_P_begin 12 = .ok (.putfield 16, 3) := by decide +kernel
theorem d_P_begin_15 : decode b_P_begin 15 = .ok (.aload_n 0, 1) := by decide +kernel
theorem d_P_begin_16 : decode b_P_begin 16 = .ok (.invokevirtual 19, 3) := by decide +kernel
theorem d_P_begin_19 : decode b_P_begin 19 = .ok (.return_, 1) := by decide +kernel
theorem d_P_accept_0 : decode b_P_accept 0 = .ok (.aload_n 0, 1) := by decide +kernel
theorem d_P_accept_1 : decode b_P_accept 1 = .ok (.lload_n 1, 1) := by decide +kernel
theorem d_P_accept_2 : decode b_P_accept 2 = .ok (.invokevirtual 22, 3) := by decide +kernel
theorem d_P_accept_5 : decode b_P_accept 5 = .ok (.ifCond .ne 5, 3) := by decide +kernel
theorem d_P_accept_8 : decode b_P_accept 8 = .ok (.iconst 0, 1) := by decide +kernel
theorem d_P_accept_9 : decode b_P_accept 9 = .ok (.ireturn, 1) := by decide +kernel
theorem d_P_accept_10 : decode b_P_accept 10 = .ok (.aload_n 0, 1) := by decide +kernel
theorem d_P_accept_11 : decode b_P_accept 11 = .ok (.dup, 1) := by decide +kernel
theorem d_P_accept_12 : decode b_P_accept 12 = .ok (.getfield 16, 3) := by decide +kernel
theorem d_P_accept_15 : decode b_P_accept 15 = .ok (.iconst 1, 1) := by decide +kernel
theorem d_P_accept_16 : decode b_P_accept 16 = .ok (.iadd, 1) := by decide +kernel
theorem d_P_accept_17 : decode b_P_accept 17 = .ok (.putfield 16, 3) := by decide +kernel
theorem d_P_accept_20 : decode b_P_accept 20 = .ok (.iconst 1, 1) := by decide +kernel
theorem d_P_accept_21 : decode b_P_accept 21 = .ok (.ireturn, 1) := by decide +kernel
theorem d_P_release_0 : decode b_P_release 0 = .ok (.aload_n 0, 1) := by decide +kernel
theorem d_P_release_1 : decode b_P_release 1 = .ok (.lload_n 1, 1) := by decide +kernel
theorem d_P_release_2 : decode b_P_release 2 = .ok (.invokevirtual 26, 3) := by decide +kernel
theorem d_P_release_5 : decode b_P_release 5 = .ok (.ifCond .ne 5, 3) := by decide +kernel
theorem d_P_release_8 : decode b_P_release 8 = .ok (.iconst 0, 1) := by decide +kernel
theorem d_P_release_9 : decode b_P_release 9 = .ok (.ireturn, 1) := by decide +kernel
theorem d_P_release_10 : decode b_P_release 10 = .ok (.aload_n 0, 1) := by decide +kernel
theorem d_P_release_11 : decode b_P_release 11 = .ok (.dup, 1) := by decide +kernel
theorem d_P_release_12 : decode b_P_release 12 = .ok (.getfield 16, 3) := by decide +kernel
theorem d_P_release_15 : decode b_P_release 15 = .ok (.iconst 1, 1) := by decide +kernel
theorem d_P_release_16 : decode b_P_release 16 = .ok (.isub, 1) := by decide +kernel
theorem d_P_release_17 : decode b_P_release 17 = .ok (.putfield 16, 3) := by decide +kernel
theorem d_P_release_20 : decode b_P_release 20 = .ok (.iconst 1, 1) := by decide +kernel
theorem d_P_release_21 : decode b_P_release 21 = .ok (.ireturn, 1) := by decide +kernel
theorem d_P_power_0 : decode b_P_power 0 = .ok (.iconst 1, 1) := by decide +kernel
theorem d_P_power_1 : decode b_P_power 1 = .ok (.aload_n 0, 1) := by decide +kernel
theorem d_P_power_2 : decode b_P_power 2 = .ok (.getfield 7, 3) := by decide +kernel
theorem d_P_power_5 : decode b_P_power 5 = .ok (.ishl, 1) := by decide +kernel
theorem d_P_power_6 : decode b_P_power 6 = .ok (.ireturn, 1) := by decide +kernel
theorem d_P_lowestBits_0 : decode b_P_lowestBits 0 = .ok (.lload_n 1, 1) := by decide +kernel
theorem d_P_lowestBits_1 : decode b_P_lowestBits 1 = .ok (.l2i, 1) := by decide +kernel
theorem d_P_lowestBits_2 : decode b_P_lowestBits 2 = .ok (.aload_n 0, 1) := by decide +kernel
theorem d_P_lowestBits_3 : decode b_P_lowestBits 3 = .ok (.invokevirtual 29, 3) := by decide +kernel
theorem d_P_lowestBits_6 : decode b_P_lowestBits 6 = .ok (.iconst 1, 1) := by decide +kernel
theorem d_P_lowestBits_7 : decode b_P_lowestBits 7 = .ok (.isub, 1) := by decide +kernel
theorem d_P_lowestBits_8 : decode b_P_lowestBits 8 = .ok (.iand, 1) := by decide +kernel
theorem d_P_lowestBits_9 : decode b_P_lowestBits 9 = .ok (.ireturn, 1) := by decide +kernel
theorem d_P_cells_0 : decode b_P_cells 0 = .ok (.aload_n 0, 1) := by decide +kernel
theorem d_P_cells_1 : decode b_P_cells 1 = .ok (.invokevirtual 29, 3) := by decide +kernel
theorem d_P_cells_4 : decode b_P_cells 4 = .ok (.ireturn, 1) := by decide +kernel
theorem d_P_filledCells_0 : decode b_P_filledCells 0 = .ok (.aload_n 0, 1) := by decide +kernel
theorem d_P_filledCells_1 : decode b_P_filledCells 1 = .ok (.getfield 16, 3) := by decide +kernel
theorem d_P_filledCells_4 : decode b_P_filledCells 4 = .ok (.ireturn, 1) := by decide +kernel
theorem d_A_fill_0 : decode b_A_fill 0 = .ok (.iconst 0, 1) := by decide +kernel
theorem d_A_fill_1 : decode b_A_fill 1 = .ok (.istore_n 2, 1) := by decide +kernel
theorem d_A_fill_2 : decode b_A_fill 2 = .ok (.aload_n 0, 1) := by decide +kernel
theorem d_A_fill_3 : decode b_A_fill 3 = .ok (.arraylength, 1) := by decide +kernel
theorem d_A_fill_4 : decode b_A_fill 4 = .ok (.istore_n 3, 1) := by decide +kernel
theorem d_A_fill_5 : decode b_A_fill 5 = .ok (.iload_n 2, 1) := by decide +kernel
theorem d_A_fill_6 : decode b_A_fill 6 = .ok (.iload_n 3, 1) := by decide +kernel
theorem d_A_fill_7 : decode b_A_fill 7 = .ok (.if_icmp .ge 13, 3) := by decide +kernel
theorem d_A_fill_10 : decode b_A_fill 10 = .ok (.aload_n 0, 1) := by decide +kernel
theorem d_A_fill_11 : decode b_A_fill 11 = .ok (.iload_n 2, 1) := by decide +kernel
theorem d_A_fill_12 : decode b_A_fill 12 = .ok (.iload_n 1, 1) := by decide +kernel
theorem d_A_fill_13 : decode b_A_fill 13 = .ok (.iastore, 1) := by decide +kernel
theorem d_A_fill_14 : decode b_A_fill 14 = .ok (.iinc 2 1, 3) := by decide +kernel
theorem d_A_fill_17 : decode b_A_fill 17 = .ok (.goto (-12), 3) := by decide +kernel
theorem d_A_fill_20 : decode b_A_fill 20 = .ok (.return_, 1) := by decide +kernel
end
section
theorem d_B_init_0 : decode b_B_init 0 = .ok (.aload_n 0, 1) := by decide +kernel
theorem d_B_init_1 : decode b_B_init 1 = .ok (.invokespecial 3, 3) := by decide +kernel
theorem d_B_init_4 : decode b_B_init 4 = .ok (.aload_n 0, 1) := by decide +kernel
theorem d_B_init_5 : decode b_B_init 5 = .ok (.sipush 1024, 3) := by decide +kernel
theorem d_B_init_8 : decode b_B_init 8 = .ok (.newarray .int, 2) := by decide +kernel
theorem d_B_init_10 : decode b_B_init 10 = .ok (.putfield 11, 3) := by decide +kernel
theorem d_B_init_13 : decode b_B_init 13 = .ok (.aload_n 0, 1) := by decide +kernel
theorem d_B_init_14 : decode b_B_init 14 = .ok (.bipush 64, 2) := by decide +kernel
theorem d_B_init_16 : decode b_B_init 16 = .ok (.newarray .int, 2) := by decide +kernel
theorem d_B_init_18 : decode b_B_init 18 = .ok (.putfield 15, 3) := by decide +kernel
theorem d_B_init_21 : decode b_B_init 21 = .ok (.return_, 1) := by decide +kernel
theorem d_B_kind_0 : decode b_B_kind 0 = .ok (.iconst 2, 1) := by decide +kernel
theorem d_B_kind_1 : decode b_B_kind 1 = .ok (.ireturn, 1) := by decide +kernel
theorem d_B_cells_0 : decode b_B_cells 0 = .ok (.iconst 4, 1) := by decide +kernel
theorem d_B_cells_1 : decode b_B_cells 1 = .ok (.aload_n 0, 1) := by decide +kernel
theorem d_B_cells_2 : decode b_B_cells 2 = .ok (.invokevirtual 18, 3) := by decide +kernel
theorem d_B_cells_5 : decode b_B_cells 5 = .ok (.imul, 1) := by decide +kernel
theorem d_B_cells_6 : decode b_B_cells 6 = .ok (.ireturn, 1) := by decide +kernel
theorem d_B_wipe_0 : decode b_B_wipe 0 = .ok (.aload_n 0, 1) := by decide +kernel
theorem d_B_wipe_1 : decode b_B_wipe 1 = .ok (.getfield 11, 3) := by decide +kernel
theorem d_B_wipe_4 : decode b_B_wipe 4 = .ok (.iconst 0, 1) := by decide +kernel
theorem d_B_wipe_5 : decode b_B_wipe 5 = .ok (.invokestatic 22, 3) := by decide +kernel
theorem d_B_wipe_8 : decode b_B_wipe 8 = .ok (.aload_n 0, 1) := by decide +kernel
theorem d_B_wipe_9 : decode b_B_wipe 9 = .ok (.iconst 0, 1) := by decide +kernel
theorem d_B_wipe_10 : decode b_B_wipe 10 = .ok (.putfield 28, 3) := by decide +kernel
theorem d_B_wipe_13 : decode b_B_wipe 13 = .ok (.return_, 1) := by decide +kernel
theorem d_B_put_0 : decode b_B_put 0 = .ok (.aload_n 0, 1) := by decide +kernel
theorem d_B_put_1 : decode b_B_put 1 = .ok (.lload_n 1, 1) := by decide +kernel
theorem d_B_put_2 : decode b_B_put 2 = .ok (.invokevirtual 32, 3) := by decide +kernel
theorem d_B_put_5 : decode b_B_put 5 = .ok (.istore_n 3, 1) := by decide +kernel
theorem d_B_put_6 : decode b_B_put 6 = .ok (.aload_n 0, 1) := by decide +kernel
theorem d_B_put_7 : decode b_B_put 7 = .ok (.lload_n 1, 1) := by decide +kernel
theorem d_B_put_8 : decode b_B_put 8 = .ok (.invokevirtual 36, 3) := by decide +kernel
theorem d_B_put_11 : decode b_B_put 11 = .ok (.istore 4, 2) := by decide +kernel
theorem d_B_put_13 : decode b_B_put 13 = .ok (.aload_n 0, 1) := by decide +kernel
theorem d_B_put_14 : decode b_B_put 14 = .ok (.iload 4, 2) := by decide +kernel
theorem d_B_put_16 : decode b_B_put 16 = .ok (.iload_n 3, 1) := by decide +kernel
theorem d_B_put_17 : decode b_B_put 17 = .ok (.invokevirtual 39, 3) := by decide +kernel
theorem d_B_put_20 : decode b_B_put 20 = .ok (.istore 5, 2) := by decide +kernel
theorem d_B_put_22 : decode b_B_put 22 = .ok (.aload_n 0, 1) := by decide +kernel
theorem d_B_put_23 : decode b_B_put 23 = .ok (.iload 4, 2) := by decide +kernel
theorem d_B_put_25 : decode b_B_put 25 = .ok (.iload_n 3, 1) := by decide +kernel
theorem d_B_put_26 : decode b_B_put 26 = .ok (.invokevirtual 43, 3) := by decide +kernel
theorem d_B_put_29 : decode b_B_put 29 = .ok (.ifCond .ne 23, 3) := by decide +kernel
theorem d_B_put_32 : decode b_B_put 32 = .ok (.aload_n 0, 1) := by decide +kernel
theorem d_B_put_33 : decode b_B_put 33 = .ok (.iload 5, 2) := by decide +kernel
theorem d_B_put_35 : decode b_B_put 35 = .ok (.iload_n 3, 1) := by decide +kernel
theorem d_B_put_36 : decode b_B_put 36 = .ok (.invokevirtual 43, 3) := by decide +kernel
theorem d_B_put_39 : decode b_B_put 39 = .ok (.ifCond .ne 13, 3) := by decide +kernel
theorem d_B_put_42 : decode b_B_put 42 = .ok (.aload_n 0, 1) := by decide +kernel
theorem d_B_put_43 : decode b_B_put 43 = .ok (.iload 5, 2) := by decide +kernel
theorem d_B_put_45 : decode b_B_put 45 = .ok (.iload_n 3, 1) := by decide +kernel
theorem d_B_put_46 : decode b_B_put 46 = .ok (.invokevirtual 47, 3) := by decide +kernel
theorem d_B_put_49 : decode b_B_put 49 = .ok (.ifCond .eq 7, 3) := by decide +kernel
theorem d_B_put_52 : decode b_B_put 52 = .ok (.iconst 1, 1) := by decide +kernel
theorem d_B_put_53 : decode b_B_put 53 = .ok (.goto 4, 3) := by decide +kernel
theorem d_B_put_56 : decode b_B_put 56 = .ok (.iconst 0, 1) := by decide +kernel
theorem d_B_put_57 : decode b_B_put 57 = .ok (.ireturn, 1) := by decide +kernel
theorem d_B_take_0 : decode b_B_take 0 = .ok (.aload_n 0, 1) := by decide +kernel
theorem d_B_take_1 : decode b_B_take 1 = .ok (.lload_n 1, 1) := by decide +kernel
theorem d_B_take_2 : decode b_B_take 2 = .ok (.invokevirtual 50, 3) := by decide +kernel
theorem d_B_take_5 : decode b_B_take 5 = .ok (.istore_n 3, 1) := by decide +kernel
theorem d_B_take_6 : decode b_B_take 6 = .ok (.iload_n 3, 1) := by decide +kernel
theorem d_B_take_7 : decode b_B_take 7 = .ok (.iconst (-1), 1) := by decide +kernel
theorem d_B_take_8 : decode b_B_take 8 = .ok (.if_icmp .ne 5, 3) := by decide +kernel
theorem d_B_take_11 : decode b_B_take 11 = .ok (.iconst 0, 1) := by decide +kernel
theorem d_B_take_12 : decode b_B_take 12 = .ok (.ireturn, 1) := by decide +kernel
theorem d_B_take_13 : decode b_B_take 13 = .ok (.aload_n 0, 1) := by decide +kernel
theorem d_B_take_14 : decode b_B_take 14 = .ok (.getfield 11, 3) := by decide +kernel
theorem d_B_take_17 : decode b_B_take 17 = .ok (.iload_n 3, 1) := by decide +kernel
theorem d_B_take_18 : decode b_B_take 18 = .ok (.iconst 0, 1) := by decide +kernel
theorem d_B_take_19 : decode b_B_take 19 = .ok (.iastore, 1) := by decide +kernel
theorem d_B_take_20 : decode b_B_take 20 = .ok (.iconst 1, 1) := by decide +kernel
theorem d_B_take_21 : decode b_B_take 21 = .ok (.ireturn, 1) := by decide +kernel
theorem d_B_holds_0 : decode b_B_holds 0 = .ok (.aload_n 0, 1) := by decide +kernel
theorem d_B_holds_1 : decode b_B_holds 1 = .ok (.lload_n 1, 1) := by decide +kernel
theorem d_B_holds_2 : decode b_B_holds 2 = .ok (.invokevirtual 50, 3) := by decide +kernel
theorem d_B_holds_5 : decode b_B_holds 5 = .ok (.iconst (-1), 1) := by decide +kernel
theorem d_B_holds_6 : decode b_B_holds 6 = .ok (.if_icmp .eq 7, 3) := by decide +kernel
theorem d_B_holds_9 : decode b_B_holds 9 = .ok (.iconst 1, 1) := by decide +kernel
theorem d_B_holds_10 : decode b_B_holds 10 = .ok (.goto 4, 3) := by decide +kernel
theorem d_B_holds_13 : decode b_B_holds 13 = .ok (.iconst 0, 1) := by decide +kernel
theorem d_B_holds_14 : decode b_B_holds 14 = .ok (.ireturn, 1) := by decide +kernel
theorem d_B_looksAlike_0 : decode b_B_looksAlike 0 = .ok (.aload_n 0, 1) := by decide +kernel
theorem d_B_looksAlike_1 : decode b_B_looksAlike 1 = .ok (.lload_n 1, 1) := by decide +kernel
theorem d_B_looksAlike_2 : decode b_B_looksAlike 2 = .ok (.invokevirtual 32, 3) := by decide +kernel
theorem d_B_looksAlike_5 : decode b_B_looksAlike 5 = .ok (.istore 5, 2) := by decide +kernel
theorem d_B_looksAlike_7 : decode b_B_looksAlike 7 = .ok (.iload 5, 2) := by decide +kernel
theorem d_B_looksAlike_9 : decode b_B_looksAlike 9 = .ok (.aload_n 0, 1) := by decide +kernel
theorem d_B_looksAlike_10 : decode b_B_looksAlike 10 = .ok (.lload_n 3, 1) := by decide +kernel
theorem d_B_looksAlike_11 : decode b_B_looksAlike 11 = .ok (.invokevirtual 32, 3) := by decide +kernel
theorem d_B_looksAlike_14 : decode b_B_looksAlike 14 = .ok (.if_icmp .eq 5, 3) := by decide +kernel
theorem d_B_looksAlike_17 : decode b_B_looksAlike 17 = .ok (.iconst 0, 1) := by decide +kernel
theorem d_B_looksAlike_18 : decode b_B_looksAlike 18 = .ok (.ireturn, 1) := by decide +kernel
theorem d_B_looksAlike_19 : decode b_B_looksAlike 19 = .ok (.aload_n 0, 1) := by decide +kernel
theorem d_B_looksAlike_20 : decode b_B_looksAlike 20 = .ok (.lload_n 1, 1) := by decide +kernel
theorem d_B_looksAlike_21 : decode b_B_looksAlike 21 = .ok (.invokevirtual 36, 3) := by decide +kernel
theorem d_B_looksAlike_24 : decode b_B_looksAlike 24 = .ok (.istore 6, 2) := by decide +kernel
theorem d_B_looksAlike_26 : decode b_B_looksAlike 26 = .ok (.aload_n 0, 1) := by decide +kernel
theorem d_B_looksAlike_27 : decode b_B_looksAlike 27 = .ok (.lload_n 3, 1) := by decide +kernel
theorem d_B_looksAlike_28 : decode b_B_looksAlike 28 = .ok (.invokevirtual 36, 3) := by decide +kernel
theorem d_B_looksAlike_31 : decode b_B_looksAlike 31 = .ok (.istore 7, 2) := by decide +kernel
theorem d_B_looksAlike_33 : decode b_B_looksAlike 33 = .ok (.iload 6, 2) := by decide +kernel
theorem d_B_looksAlike_35 : decode b_B_looksAlike 35 = .ok (.iload 7, 2) := by decide +kernel
theorem d_B_looksAlike_37 : decode b_B_looksAlike 37 = .ok (.if_icmp .eq 16, 3) := by decide +kernel
theorem d_B_looksAlike_40 : decode b_B_looksAlike 40 = .ok (.aload_n 0, 1) := by decide +kernel
theorem d_B_looksAlike_41 : decode b_B_looksAlike 41 = .ok (.iload 6, 2) := by decide +kernel
theorem d_B_looksAlike_43 : decode b_B_looksAlike 43 = .ok (.iload 5, 2) := by decide +kernel
theorem d_B_looksAlike_45 : decode b_B_looksAlike 45 = .ok (.invokevirtual 39, 3) := by decide +kernel
theorem d_B_looksAlike_48 : decode b_B_looksAlike 48 = .ok (.iload 7, 2) := by decide +kernel
theorem d_B_looksAlike_50 : decode b_B_looksAlike 50 = .ok (.if_icmp .ne 7, 3) := by decide +kernel
theorem d_B_looksAlike_53 : decode b_B_looksAlike 53 = .ok (.iconst 1, 1) := by decide +kernel
theorem d_B_looksAlike_54 : decode b_B_looksAlike 54 = .ok (.goto 4, 3) := by decide +kernel
theorem d_B_looksAlike_57 : decode b_B_looksAlike 57 = .ok (.iconst 0, 1) := by decide +kernel
theorem d_B_looksAlike_58 : decode b_B_looksAlike 58 = .ok (.ireturn, 1) := by decide +kernel
theorem d_B_strain_0 : decode b_B_strain 0 = .ok (.aload_n 0, 1) := by decide +kernel
theorem d_B_strain_1 : decode b_B_strain 1 = .ok (.getfield 28, 3) := by decide +kernel
theorem d_B_strain_4 : decode b_B_strain 4 = .ok (.ireturn, 1) := by decide +kernel
theorem d_B_look_0 : decode b_B_look 0 = .ok (.aload_n 0, 1) := by decide +kernel
theorem d_B_look_1 : decode b_B_look 1 = .ok (.getfield 11, 3) := by decide +kernel
theorem d_B_look_4 : decode b_B_look 4 = .ok (.iload_n 1, 1) := by decide +kernel
theorem d_B_look_5 : decode b_B_look 5 = .ok (.iaload, 1) := by decide +kernel
theorem d_B_look_6 : decode b_B_look 6 = .ok (.ireturn, 1) := by decide +kernel
theorem d_B_fingerprint_0 : decode b_B_fingerprint 0 = .ok (.lload_n 1, 1) := by decide +kernel
theorem d_B_fingerprint_1 : decode b_B_fingerprint 1 = .ok (.iconst 0, 1) := by decide +kernel
theorem d_B_fingerprint_2 : decode b_B_fingerprint 2 = .ok (.invokestatic 53, 3) := by decide +kernel
theorem d_B_fingerprint_5 : decode b_B_fingerprint 5 = .ok (.bipush 64, 2) := by decide +kernel
theorem d_B_fingerprint_7 : decode b_B_fingerprint 7 = .ok (.aload_n 0, 1) := by decide +kernel
theorem d_B_fingerprint_8 : decode b_B_fingerprint 8 = .ok (.getfield 57, 3) := by decide +kernel
theorem d_B_fingerprint_11 : decode b_B_fingerprint 11 = .ok (.isub, 1) := by decide +kernel
theorem d_B_fingerprint_12 : decode b_B_fingerprint 12 = .ok (.lushr, 1) := by decide +kernel
theorem d_B_fingerprint_13 : decode b_B_fingerprint 13 = .ok (.l2i, 1) := by decide +kernel
theorem d_B_fingerprint_14 : decode b_B_fingerprint 14 = .ok (.istore_n 3, 1) := by decide +kernel
theorem d_B_fingerprint_15 : decode b_B_fingerprint 15 = .ok (.iload_n 3, 1) := by decide +kernel
theorem d_B_fingerprint_16 : decode b_B_fingerprint 16 = .ok (.ifCond .ne 7, 3) := by decide +kernel
theorem d_B_fingerprint_19 : decode b_B_fingerprint 19 = .ok (.iconst 1, 1) := by decide +kernel
theorem d_B_fingerprint_20 : decode b_B_fingerprint 20 = .ok (.goto 4, 3) := by decide +kernel
theorem d_B_fingerprint_23 : decode b_B_fingerprint 23 = .ok (.iload_n 3, 1) := by decide +kernel
theorem d_B_fingerprint_24 : decode b_B_fingerprint 24 = .ok (.ireturn, 1) := by decide +kernel
theorem d_B_firstBucket_0 : decode b_B_firstBucket 0 = .ok (.aload_n 0, 1) := by decide +kernel
theorem d_B_firstBucket_1 : decode b_B_firstBucket 1 = .ok (.lload_n 1, 1) := by decide +kernel
theorem d_B_firstBucket_2 : decode b_B_firstBucket 2 = .ok (.iconst 1, 1) := by decide +kernel
theorem d_B_firstBucket_3 : decode b_B_firstBucket 3 = .ok (.invokestatic 53, 3) := by decide +kernel
theorem d_B_firstBucket_6 : decode b_B_firstBucket 6 = .ok (.invokevirtual 60, 3) := by decide +kernel
theorem d_B_firstBucket_9 : decode b_B_firstBucket 9 = .ok (.ireturn, 1) := by decide +kernel
theorem d_B_otherBucket_0 : decode b_B_otherBucket 0 = .ok (.iload_n 1, 1) := by decide +kernel
theorem d_B_otherBucket_1 : decode b_B_otherBucket 1 = .ok (.aload_n 0, 1) := by decide +kernel
theorem d_B_otherBucket_2 : decode b_B_otherBucket 2 = .ok (.iload_n 2, 1) := by decide +kernel
theorem d_B_otherBucket_3 : decode b_B_otherBucket 3 = .ok (.i2l, 1) := by decide +kernel
theorem d_B_otherBucket_4 : decode b_B_otherBucket 4 = .ok (.iconst 2, 1) := by decide +kernel
theorem d_B_otherBucket_5 : decode b_B_otherBucket 5 = .ok (.invokestatic 53, 3) := by decide +kernel
theorem d_B_otherBucket_8 : decode b_B_otherBucket 8 = .ok (.invokevirtual 60, 3) := by decide +kernel
theorem d_B_otherBucket_11 : decode b_B_otherBucket 11 = .ok (.ixor, 1) := by decide +kernel
theorem d_B_otherBucket_12 : decode b_B_otherBucket 12 = .ok (.ireturn, 1) := by decide +kernel
theorem d_B_slotOf_0 : decode b_B_slotOf 0 = .ok (.aload_n 0, 1) := by decide +kernel
theorem d_B_slotOf_1 : decode b_B_slotOf 1 = .ok (.lload_n 1, 1) := by decide +kernel
theorem d_B_slotOf_2 : decode b_B_slotOf 2 = .ok (.invokevirtual 32, 3) := by decide +kernel
theorem d_B_slotOf_5 : decode b_B_slotOf 5 = .ok (.istore_n 3, 1) := by decide +kernel
theorem d_B_slotOf_6 : decode b_B_slotOf 6 = .ok (.aload_n 0, 1) := by decide +kernel
theorem d_B_slotOf_7 : decode b_B_slotOf 7 = .ok (.lload_n 1, 1) := by decide +kernel
theorem d_B_slotOf_8 : decode b_B_slotOf 8 = .ok (.invokevirtual 36, 3) := by decide +kernel
theorem d_B_slotOf_11 : decode b_B_slotOf 11 = .ok (.istore 4, 2) := by decide +kernel
theorem d_B_slotOf_13 : decode b_B_slotOf 13 = .ok (.aload_n 0, 1) := by decide +kernel
theorem d_B_slotOf_14 : decode b_B_slotOf 14 = .ok (.iload 4, 2) := by decide +kernel
theorem d_B_slotOf_16 : decode b_B_slotOf 16 = .ok (.iload_n 3, 1) := by decide +kernel
theorem d_B_slotOf_17 : decode b_B_slotOf 17 = .ok (.invokevirtual 63, 3) := by decide +kernel
theorem d_B_slotOf_20 : decode b_B_slotOf 20 = .ok (.istore 5, 2) := by decide +kernel
theorem d_B_slotOf_22 : decode b_B_slotOf 22 = .ok (.iload 5, 2) := by decide +kernel
theorem d_B_slotOf_24 : decode b_B_slotOf 24 = .ok (.iconst (-1), 1) := by decide +kernel
theorem d_B_slotOf_25 : decode b_B_slotOf 25 = .ok (.if_icmp .eq 8, 3) := by decide +kernel
theorem d_B_slotOf_28 : decode b_B_slotOf 28 = .ok (.iload 5, 2) := by decide +kernel
theorem d_B_slotOf_30 : decode b_B_slotOf 30 = .ok (.goto 15, 3) := by decide +kernel
theorem d_B_slotOf_33 : decode b_B_slotOf 33 = .ok (.aload_n 0, 1) := by decide +kernel
theorem d_B_slotOf_34 : decode b_B_slotOf 34 = .ok (.aload_n 0, 1) := by decide +kernel
theorem d_B_slotOf_35 : decode b_B_slotOf 35 = .ok (.iload 4, 2) := by decide +kernel
theorem d_B_slotOf_37 : decode b_B_slotOf 37 = .ok (.iload_n 3, 1) := by decide +kernel
theorem d_B_slotOf_38 : decode b_B_slotOf 38 = .ok (.invokevirtual 39, 3) := by decide +kernel
theorem d_B_slotOf_41 : decode b_B_slotOf 41 = .ok (.iload_n 3, 1) := by decide +kernel
theorem d_B_slotOf_42 : decode b_B_slotOf 42 = .ok (.invokevirtual 63, 3) := by decide +kernel
theorem d_B_slotOf_45 : decode b_B_slotOf 45 = .ok (.ireturn, 1) := by decide +kernel
theorem d_B_slotWith_0 : decode b_B_slotWith 0 = .ok (.iload_n 1, 1) := by decide +kernel
theorem d_B_slotWith_1 : decode b_B_slotWith 1 = .ok (.iconst 4, 1) := by decide +kernel
theorem d_B_slotWith_2 : decode b_B_slotWith 2 = .ok (.imul, 1) := by decide +kernel
theorem d_B_slotWith_3 : decode b_B_slotWith 3 = .ok (.istore_n 3, 1) := by decide +kernel
theorem d_B_slotWith_4 : decode b_B_slotWith 4 = .ok (.iload_n 3, 1) := by decide +kernel
theorem d_B_slotWith_5 : decode b_B_slotWith 5 = .ok (.istore 4, 2) := by decide +kernel
theorem d_B_slotWith_7 : decode b_B_slotWith 7 = .ok (.iload 4, 2) := by decide +kernel
theorem d_B_slotWith_9 : decode b_B_slotWith 9 = .ok (.iload_n 3, 1) := by decide +kernel
theorem d_B_slotWith_10 : decode b_B_slotWith 10 = .ok (.iconst 4, 1) := by decide +kernel
theorem d_B_slotWith_11 : decode b_B_slotWith 11 = .ok (.iadd, 1) := by decide +kernel
theorem d_B_slotWith_12 : decode b_B_slotWith 12 = .ok (.if_icmp .ge 23, 3) := by decide +kernel
theorem d_B_slotWith_15 : decode b_B_slotWith 15 = .ok (.aload_n 0, 1) := by decide +kernel
theorem d_B_slotWith_16 : decode b_B_slotWith 16 = .ok (.getfield 11, 3) := by decide +kernel
theorem d_B_slotWith_19 : decode b_B_slotWith 19 = .ok (.iload 4, 2) := by decide +kernel
theorem d_B_slotWith_21 : decode b_B_slotWith 21 = .ok (.iaload, 1) := by decide +kernel
theorem d_B_slotWith_22 : decode b_B_slotWith 22 = .ok (.iload_n 2, 1) := by decide +kernel
theorem d_B_slotWith_23 : decode b_B_slotWith 23 = .ok (.if_icmp .ne 6, 3) := by decide +kernel
theorem d_B_slotWith_26 : decode b_B_slotWith 26 = .ok (.iload 4, 2) := by decide +kernel
theorem d_B_slotWith_28 : decode b_B_slotWith 28 = .ok (.ireturn, 1) := by decide +kernel
theorem d_B_slotWith_29 : decode b_B_slotWith 29 = .ok (.iinc 4 1, 3) := by decide +kernel
theorem d_B_slotWith_32 : decode b_B_slotWith 32 = .ok (.goto (-25), 3) := by decide +kernel
theorem d_B_slotWith_35 : decode b_B_slotWith 35 = .ok (.iconst (-1), 1) := by decide +kernel
theorem d_B_slotWith_36 : decode b_B_slotWith 36 = .ok (.ireturn, 1) := by decide +kernel
theorem d_B_putFree_0 : decode b_B_putFree 0 = .ok (.aload_n 0, 1) := by decide +kernel
theorem d_B_putFree_1 : decode b_B_putFree 1 = .ok (.iload_n 1, 1) := by decide +kernel
theorem d_B_putFree_2 : decode b_B_putFree 2 = .ok (.iconst 0, 1) := by decide +kernel
theorem d_B_putFree_3 : decode b_B_putFree 3 = .ok (.invokevirtual 63, 3) := by decide +kernel
theorem d_B_putFree_6 : decode b_B_putFree 6 = .ok (.istore_n 3, 1) := by decide +kernel
theorem d_B_putFree_7 : decode b_B_putFree 7 = .ok (.iload_n 3, 1) := by decide +kernel
theorem d_B_putFree_8 : decode b_B_putFree 8 = .ok (.iconst (-1), 1) := by decide +kernel
theorem d_B_putFree_9 : decode b_B_putFree 9 = .ok (.if_icmp .ne 5, 3) := by decide +kernel
theorem d_B_putFree_12 : decode b_B_putFree 12 = .ok (.iconst 0, 1) := by decide +kernel
theorem d_B_putFree_13 : decode b_B_putFree 13 = .ok (.ireturn, 1) := by decide +kernel
theorem d_B_putFree_14 : decode b_B_putFree 14 = .ok (.aload_n 0, 1) := by decide +kernel
theorem d_B_putFree_15 : decode b_B_putFree 15 = .ok (.getfield 11, 3) := by decide +kernel
theorem d_B_putFree_18 : decode b_B_putFree 18 = .ok (.iload_n 3, 1) := by decide +kernel
theorem d_B_putFree_19 : decode b_B_putFree 19 = .ok (.iload_n 2, 1) := by decide +kernel
theorem d_B_putFree_20 : decode b_B_putFree 20 = .ok (.iastore, 1) := by decide +kernel
theorem d_B_putFree_21 : decode b_B_putFree 21 = .ok (.iconst 1, 1) := by decide +kernel
theorem d_B_putFree_22 : decode b_B_putFree 22 = .ok (.ireturn, 1) := by decide +kernel
theorem d_B_pushInto_0 : decode b_B_pushInto 0 = .ok (.iload_n 1, 1) := by decide +kernel
theorem d_B_pushInto_1 : decode b_B_pushInto 1 = .ok (.istore_n 3, 1) := by decide +kernel
theorem d_B_pushInto_2 : decode b_B_pushInto 2 = .ok (.iload_n 2, 1) := by decide +kernel
theorem d_B_pushInto_3 : decode b_B_pushInto 3 = .ok (.istore 4, 2) := by decide +kernel
theorem d_B_pushInto_5 : decode b_B_pushInto 5 = .ok (.iconst 0, 1) := by decide +kernel
theorem d_B_pushInto_6 : decode b_B_pushInto 6 = .ok (.istore 5, 2) := by decide +kernel
theorem d_B_pushInto_8 : decode b_B_pushInto 8 = .ok (.iload 5, 2) := by decide +kernel
theorem d_B_pushInto_10 : decode b_B_pushInto 10 = .ok (.bipush 64, 2) := by decide +kernel
theorem d_B_pushInto_12 : decode b_B_pushInto 12 = .ok (.if_icmp .ge 69, 3) := by decide +kernel
theorem d_B_pushInto_15 : decode b_B_pushInto 15 = .ok (.aload_n 0, 1) := by decide +kernel
theorem d_B_pushInto_16 : decode b_B_pushInto 16 = .ok (.getfield 15, 3) := by decide +kernel
theorem d_B_pushInto_19 : decode b_B_pushInto 19 = .ok (.iload 5, 2) := by decide +kernel
theorem d_B_pushInto_21 : decode b_B_pushInto 21 = .ok (.iload_n 3, 1) := by decide +kernel
theorem d_B_pushInto_22 : decode b_B_pushInto 22 = .ok (.iconst 4, 1) := by decide +kernel
theorem d_B_pushInto_23 : decode b_B_pushInto 23 = .ok (.imul, 1) := by decide +kernel
theorem d_B_pushInto_24 : decode b_B_pushInto 24 = .ok (.iload 5, 2) := by decide +kernel
theorem d_B_pushInto_26 : decode b_B_pushInto 26 = .ok (.iconst 4, 1) := by decide +kernel
theorem d_B_pushInto_27 : decode b_B_pushInto 27 = .ok (.irem, 1) := by decide +kernel
theorem d_B_pushInto_28 : decode b_B_pushInto 28 = .ok (.iadd, 1) := by decide +kernel
theorem d_B_pushInto_29 : decode b_B_pushInto 29 = .ok (.iastore, 1) := by decide +kernel
theorem d_B_pushInto_30 : decode b_B_pushInto 30 = .ok (.aload_n 0, 1) := by decide +kernel
theorem d_B_pushInto_31 : decode b_B_pushInto 31 = .ok (.aload_n 0, 1) := by decide +kernel
theorem d_B_pushInto_32 : decode b_B_pushInto 32 = .ok (.getfield 15, 3) := by decide +kernel
theorem d_B_pushInto_35 : decode b_B_pushInto 35 = .ok (.iload 5, 2) := by decide +kernel
theorem d_B_pushInto_37 : decode b_B_pushInto 37 = .ok (.iaload, 1) := by decide +kernel
theorem d_B_pushInto_38 : decode b_B_pushInto 38 = .ok (.iload 4, 2) := by decide +kernel
theorem d_B_pushInto_40 : decode b_B_pushInto 40 = .ok (.invokevirtual 66, 3) := by decide +kernel
theorem d_B_pushInto_43 : decode b_B_pushInto 43 = .ok (.istore 4, 2) := by decide +kernel
theorem d_B_pushInto_45 : decode b_B_pushInto 45 = .ok (.aload_n 0, 1) := by decide +kernel
theorem d_B_pushInto_46 : decode b_B_pushInto 46 = .ok (.dup, 1) := by decide +kernel
theorem d_B_pushInto_47 : decode b_B_pushInto 47 = .ok (.getfield 28, 3) := by decide +kernel
theorem d_B_pushInto_50 : decode b_B_pushInto 50 = .ok (.iconst 1, 1) := by decide +kernel
theorem d_B_pushInto_51 : decode b_B_pushInto 51 = .ok (.iadd, 1) := by decide +kernel
theorem d_B_pushInto_52 : decode b_B_pushInto 52 = .ok (.putfield 28, 3) := by decide +kernel
theorem d_B_pushInto_55 : decode b_B_pushInto 55 = .ok (.aload_n 0, 1) := by decide +kernel
theorem d_B_pushInto_56 : decode b_B_pushInto 56 = .ok (.iload_n 3, 1) := by decide +kernel
theorem d_B_pushInto_57 : decode b_B_pushInto 57 = .ok (.iload 4, 2) := by decide +kernel
theorem d_B_pushInto_59 : decode b_B_pushInto 59 = .ok (.invokevirtual 39, 3) := by decide +kernel
theorem d_B_pushInto_62 : decode b_B_pushInto 62 = .ok (.istore_n 3, 1) := by decide +kernel
theorem d_B_pushInto_63 : decode b_B_pushInto 63 = .ok (.aload_n 0, 1) := by decide +kernel
theorem d_B_pushInto_64 : decode b_B_pushInto 64 = .ok (.iload_n 3, 1) := by decide +kernel
theorem d_B_pushInto_65 : decode b_B_pushInto 65 = .ok (.iload 4, 2) := by decide +kernel
theorem d_B_pushInto_67 : decode b_B_pushInto 67 = .ok (.invokevirtual 43, 3) := by decide +kernel
theorem d_B_pushInto_70 : decode b_B_pushInto 70 = .ok (.ifCond .eq 5, 3) := by decide +kernel
theorem d_B_pushInto_73 : decode b_B_pushInto 73 = .ok (.iconst 1, 1) := by decide +kernel
theorem d_B_pushInto_74 : decode b_B_pushInto 74 = .ok (.ireturn, 1) := by decide +kernel
theorem d_B_pushInto_75 : decode b_B_pushInto 75 = .ok (.iinc 5 1, 3) := by decide +kernel
theorem d_B_pushInto_78 : decode b_B_pushInto 78 = .ok (.goto (-70), 3) := by decide +kernel
theorem d_B_pushInto_81 : decode b_B_pushInto 81 = .ok (.aload_n 0, 1) := by decide +kernel
theorem d_B_pushInto_82 : decode b_B_pushInto 82 = .ok (.iload 4, 2) := by decide +kernel
theorem d_B_pushInto_84 : decode b_B_pushInto 84 = .ok (.invokevirtual 69, 3) := by decide +kernel
theorem d_B_pushInto_87 : decode b_B_pushInto 87 = .ok (.iconst 0, 1) := by decide +kernel
theorem d_B_pushInto_88 : decode b_B_pushInto 88 = .ok (.ireturn, 1) := by decide +kernel
theorem d_B_pushBack_0 : decode b_B_pushBack 0 = .ok (.iload_n 1, 1) := by decide +kernel
theorem d_B_pushBack_1 : decode b_B_pushBack 1 = .ok (.istore_n 2, 1) := by decide +kernel
theorem d_B_pushBack_2 : decode b_B_pushBack 2 = .ok (.bipush 63, 2) := by decide +kernel
theorem d_B_pushBack_4 : decode b_B_pushBack 4 = .ok (.istore_n 3, 1) := by decide +kernel
theorem d_B_pushBack_5 : decode b_B_pushBack 5 = .ok (.iload_n 3, 1) := by decide +kernel
theorem d_B_pushBack_6 : decode b_B_pushBack 6 = .ok (.ifCond .lt 21, 3) := by decide +kernel
theorem d_B_pushBack_9 : decode b_B_pushBack 9 = .ok (.aload_n 0, 1) := by decide +kernel
theorem d_B_pushBack_10 : decode b_B_pushBack 10 = .ok (.aload_n 0, 1) := by decide +kernel
theorem d_B_pushBack_11 : decode b_B_pushBack 11 = .ok (.getfield 15, 3) := by decide +kernel
theorem d_B_pushBack_14 : decode b_B_pushBack 14 = .ok (.iload_n 3, 1) := by decide +kernel
theorem d_B_pushBack_15 : decode b_B_pushBack 15 = .ok (.iaload, 1) := by decide +kernel
theorem d_B_pushBack_16 : decode b_B_pushBack 16 = .ok (.iload_n 2, 1) := by decide +kernel
theorem d_B_pushBack_17 : decode b_B_pushBack 17 = .ok (.invokevirtual 66, 3) := by decide +kernel
theorem d_B_pushBack_20 : decode b_B_pushBack 20 = .ok (.istore_n 2, 1) := by decide +kernel
theorem d_B_pushBack_21 : decode b_B_pushBack 21 = .ok (.iinc 3 (-1), 3) := by decide +kernel
theorem d_B_pushBack_24 : decode b_B_pushBack 24 = .ok (.goto (-19), 3) := by decide +kernel
theorem d_B_pushBack_27 : decode b_B_pushBack 27 = .ok (.return_, 1) := by decide +kernel
theorem d_B_exchange_0 : decode b_B_exchange 0 = .ok (.aload_n 0, 1) := by decide +kernel
theorem d_B_exchange_1 : decode b_B_exchange 1 = .ok (.getfield 11, 3) := by decide +kernel
theorem d_B_exchange_4 : decode b_B_exchange 4 = .ok (.iload_n 1, 1) := by decide +kernel
theorem d_B_exchange_5 : decode b_B_exchange 5 = .ok (.iaload, 1) := by decide +kernel
theorem d_B_exchange_6 : decode b_B_exchange 6 = .ok (.istore_n 3, 1) := by decide +kernel
theorem d_B_exchange_7 : decode b_B_exchange 7 = .ok (.aload_n 0, 1) := by decide +kernel
theorem d_B_exchange_8 : decode b_B_exchange 8 = .ok (.getfield 11, 3) := by decide +kernel
theorem d_B_exchange_11 : decode b_B_exchange 11 = .ok (.iload_n 1, 1) := by decide +kernel
theorem d_B_exchange_12 : decode b_B_exchange 12 = .ok (.iload_n 2, 1) := by decide +kernel
theorem d_B_exchange_13 : decode b_B_exchange 13 = .ok (.iastore, 1) := by decide +kernel
theorem d_B_exchange_14 : decode b_B_exchange 14 = .ok (.iload_n 3, 1) := by decide +kernel
theorem d_B_exchange_15 : decode b_B_exchange 15 = .ok (.ireturn, 1) := by decide +kernel
theorem d_R_init_0 : decode b_R_init 0 = .ok (.aload_n 0, 1) := by decide +kernel
theorem d_R_init_1 : decode b_R_init 1 = .ok (.invokespecial 3, 3) := by decide +kernel
theorem d_R_init_4 : decode b_R_init 4 = .ok (.aload_n 0, 1) := by decide +kernel
theorem d_R_init_5 : decode b_R_init 5 = .ok (.sipush 256, 3) := by decide +kernel
theorem d_R_init_8 : decode b_R_init 8 = .ok (.newarray .int, 2) := by decide +kernel
theorem d_R_init_10 : decode b_R_init 10 = .ok (.putfield 11, 3) := by decide +kernel
theorem d_R_init_13 : decode b_R_init 13 = .ok (.aload_n 0, 1) := by decide +kernel
theorem d_R_init_14 : decode b_R_init 14 = .ok (.sipush 256, 3) := by decide +kernel
theorem d_R_init_17 : decode b_R_init 17 = .ok (.newarray .int, 2) := by decide +kernel
theorem d_R_init_19 : decode b_R_init 19 = .ok (.putfield 15, 3) := by decide +kernel
theorem d_R_init_22 : decode b_R_init 22 = .ok (.return_, 1) := by decide +kernel
theorem d_R_kind_0 : decode b_R_kind 0 = .ok (.iconst 3, 1) := by decide +kernel
theorem d_R_kind_1 : decode b_R_kind 1 = .ok (.ireturn, 1) := by decide +kernel
theorem d_R_wipe_0 : decode b_R_wipe 0 = .ok (.return_, 1) := by decide +kernel
theorem d_R_put_0 : decode b_R_put 0 = .ok (.aload_n 0, 1) := by decide +kernel
theorem d_R_put_1 : decode b_R_put 1 = .ok (.getfield 18, 3) := by decide +kernel
theorem d_R_put_4 : decode b_R_put 4 = .ok (.aload_n 0, 1) := by decide +kernel
theorem d_R_put_5 : decode b_R_put 5 = .ok (.invokevirtual 22, 3) := by decide +kernel
theorem d_R_put_8 : decode b_R_put 8 = .ok (.if_icmp .lt 5, 3) := by decide +kernel
theorem d_R_put_11 : decode b_R_put 11 = .ok (.iconst 0, 1) := by decide +kernel
theorem d_R_put_12 : decode b_R_put 12 = .ok (.ireturn, 1) := by decide +kernel
theorem d_R_put_13 : decode b_R_put 13 = .ok (.aload_n 0, 1) := by decide +kernel
theorem d_R_put_14 : decode b_R_put 14 = .ok (.lload_n 1, 1) := by decide +kernel
theorem d_R_put_15 : decode b_R_put 15 = .ok (.invokevirtual 26, 3) := by decide +kernel
theorem d_R_put_18 : decode b_R_put 18 = .ok (.istore_n 3, 1) := by decide +kernel
theorem d_R_put_19 : decode b_R_put 19 = .ok (.aload_n 0, 1) := by decide +kernel
theorem d_R_put_20 : decode b_R_put 20 = .ok (.iload_n 3, 1) := by decide +kernel
theorem d_R_put_21 : decode b_R_put 21 = .ok (.invokevirtual 30, 3) := by decide +kernel
theorem d_R_put_24 : decode b_R_put 24 = .ok (.istore 4, 2) := by decide +kernel
theorem d_R_put_26 : decode b_R_put 26 = .ok (.aload_n 0, 1) := by decide +kernel
theorem d_R_put_27 : decode b_R_put 27 = .ok (.getfield 11, 3) := by decide +kernel
theorem d_R_put_30 : decode b_R_put 30 = .ok (.iload 4, 2) := by decide +kernel
theorem d_R_put_32 : decode b_R_put 32 = .ok (.aload_n 0, 1) := by decide +kernel
theorem d_R_put_33 : decode b_R_put 33 = .ok (.getfield 11, 3) := by decide +kernel
theorem d_R_put_36 : decode b_R_put 36 = .ok (.iload 4, 2) := by decide +kernel
theorem d_R_put_38 : decode b_R_put 38 = .ok (.iconst 1, 1) := by decide +kernel
theorem d_R_put_39 : decode b_R_put 39 = .ok (.iadd, 1) := by decide +kernel
theorem d_R_put_40 : decode b_R_put 40 = .ok (.aload_n 0, 1) := by decide +kernel
theorem d_R_put_41 : decode b_R_put 41 = .ok (.getfield 18, 3) := by decide +kernel
theorem d_R_put_44 : decode b_R_put 44 = .ok (.iload 4, 2) := by decide +kernel
theorem d_R_put_46 : decode b_R_put 46 = .ok (.isub, 1) := by decide +kernel
theorem d_R_put_47 : decode b_R_put 47 = .ok (.invokestatic 34, 3) := by decide +kernel
theorem d_R_put_50 : decode b_R_put 50 = .ok (.aload_n 0, 1) := by decide +kernel
theorem d_R_put_51 : decode b_R_put 51 = .ok (.getfield 11, 3) := by decide +kernel
theorem d_R_put_54 : decode b_R_put 54 = .ok (.iload 4, 2) := by decide +kernel
theorem d_R_put_56 : decode b_R_put 56 = .ok (.iload_n 3, 1) := by decide +kernel
theorem d_R_put_57 : decode b_R_put 57 = .ok (.iastore, 1) := by decide +kernel
theorem d_R_put_58 : decode b_R_put 58 = .ok (.iconst 1, 1) := by decide +kernel
theorem d_R_put_59 : decode b_R_put 59 = .ok (.ireturn, 1) := by decide +kernel
theorem d_R_take_0 : decode b_R_take 0 = .ok (.aload_n 0, 1) := by decide +kernel
theorem d_R_take_1 : decode b_R_take 1 = .ok (.lload_n 1, 1) := by decide +kernel
theorem d_R_take_2 : decode b_R_take 2 = .ok (.invokevirtual 26, 3) := by decide +kernel
theorem d_R_take_5 : decode b_R_take 5 = .ok (.istore_n 3, 1) := by decide +kernel
theorem d_R_take_6 : decode b_R_take 6 = .ok (.aload_n 0, 1) := by decide +kernel
theorem d_R_take_7 : decode b_R_take 7 = .ok (.iload_n 3, 1) := by decide +kernel
theorem d_R_take_8 : decode b_R_take 8 = .ok (.invokevirtual 30, 3) := by decide +kernel
theorem d_R_take_11 : decode b_R_take 11 = .ok (.istore 4, 2) := by decide +kernel
theorem d_R_take_13 : decode b_R_take 13 = .ok (.iload 4, 2) := by decide +kernel
theorem d_R_take_15 : decode b_R_take 15 = .ok (.aload_n 0, 1) := by decide +kernel
theorem d_R_take_16 : decode b_R_take 16 = .ok (.getfield 18, 3) := by decide +kernel
theorem d_R_take_19 : decode b_R_take 19 = .ok (.if_icmp .ge 14, 3) := by decide +kernel
theorem d_R_take_22 : decode b_R_take 22 = .ok (.aload_n 0, 1) := by decide +kernel
theorem d_R_take_23 : decode b_R_take 23 = .ok (.getfield 11, 3) := by decide +kernel
theorem d_R_take_26 : decode b_R_take 26 = .ok (.iload 4, 2) := by decide +kernel
theorem d_R_take_28 : decode b_R_take 28 = .ok (.iaload, 1) := by decide +kernel
theorem d_R_take_29 : decode b_R_take 29 = .ok (.iload_n 3, 1) := by decide +kernel
theorem d_R_take_30 : decode b_R_take 30 = .ok (.if_icmp .eq 5, 3) := by decide +kernel
theorem d_R_take_33 : decode b_R_take 33 = .ok (.iconst 0, 1) := by decide +kernel
theorem d_R_take_34 : decode b_R_take 34 = .ok (.ireturn, 1) := by decide +kernel
theorem d_R_take_35 : decode b_R_take 35 = .ok (.aload_n 0, 1) := by decide +kernel
theorem d_R_take_36 : decode b_R_take 36 = .ok (.getfield 11, 3) := by decide +kernel
theorem d_R_take_39 : decode b_R_take 39 = .ok (.iload 4, 2) := by decide +kernel
theorem d_R_take_41 : decode b_R_take 41 = .ok (.iconst 1, 1) := by decide +kernel
theorem d_R_take_42 : decode b_R_take 42 = .ok (.iadd, 1) := by decide +kernel
theorem d_R_take_43 : decode b_R_take 43 = .ok (.aload_n 0, 1) := by decide +kernel
theorem d_R_take_44 : decode b_R_take 44 = .ok (.getfield 11, 3) := by decide +kernel
theorem d_R_take_47 : decode b_R_take 47 = .ok (.iload 4, 2) := by decide +kernel
theorem d_R_take_49 : decode b_R_take 49 = .ok (.aload_n 0, 1) := by decide +kernel
theorem d_R_take_50 : decode b_R_take 50 = .ok (.getfield 18, 3) := by decide +kernel
theorem d_R_take_53 : decode b_R_take 53 = .ok (.iload 4, 2) := by decide +kernel
theorem d_R_take_55 : decode b_R_take 55 = .ok (.isub, 1) := by decide +kernel
theorem d_R_take_56 : decode b_R_take 56 = .ok (.iconst 1, 1) := by decide +kernel
theorem d_R_take_57 : decode b_R_take 57 = .ok (.isub, 1) := by decide +kernel
theorem d_R_take_58 : decode b_R_take 58 = .ok (.invokestatic 34, 3) := by decide +kernel
theorem d_R_take_61 : decode b_R_take 61 = .ok (.iconst 1, 1) := by decide +kernel
theorem d_R_take_62 : decode b_R_take 62 = .ok (.ireturn, 1) := by decide +kernel
theorem d_R_holds_0 : decode b_R_holds 0 = .ok (.aload_n 0, 1) := by decide +kernel
theorem d_R_holds_1 : decode b_R_holds 1 = .ok (.lload_n 1, 1) := by decide +kernel
theorem d_R_holds_2 : decode b_R_holds 2 = .ok (.invokevirtual 26, 3) := by decide +kernel
theorem d_R_holds_5 : decode b_R_holds 5 = .ok (.istore_n 3, 1) := by decide +kernel
theorem d_R_holds_6 : decode b_R_holds 6 = .ok (.aload_n 0, 1) := by decide +kernel
theorem d_R_holds_7 : decode b_R_holds 7 = .ok (.iload_n 3, 1) := by decide +kernel
theorem d_R_holds_8 : decode b_R_holds 8 = .ok (.invokevirtual 30, 3) := by decide +kernel
theorem d_R_holds_11 : decode b_R_holds 11 = .ok (.istore 4, 2) := by decide +kernel
theorem d_R_holds_13 : decode b_R_holds 13 = .ok (.iload 4, 2) := by decide +kernel
theorem d_R_holds_15 : decode b_R_holds 15 = .ok (.aload_n 0, 1) := by decide +kernel
theorem d_R_holds_16 : decode b_R_holds 16 = .ok (.getfield 18, 3) := by decide +kernel
theorem d_R_holds_19 : decode b_R_holds 19 = .ok (.if_icmp .ge 18, 3) := by decide +kernel
theorem d_R_holds_22 : decode b_R_holds 22 = .ok (.aload_n 0, 1) := by decide +kernel
theorem d_R_holds_23 : decode b_R_holds 23 = .ok (.getfield 11, 3) := by decide +kernel
theorem d_R_holds_26 : decode b_R_holds 26 = .ok (.iload 4, 2) := by decide +kernel
theorem d_R_holds_28 : decode b_R_holds 28 = .ok (.iaload, 1) := by decide +kernel
theorem d_R_holds_29 : decode b_R_holds 29 = .ok (.iload_n 3, 1) := by decide +kernel
theorem d_R_holds_30 : decode b_R_holds 30 = .ok (.if_icmp .ne 7, 3) := by decide +kernel
theorem d_R_holds_33 : decode b_R_holds 33 = .ok (.iconst 1, 1) := by decide +kernel
theorem d_R_holds_34 : decode b_R_holds 34 = .ok (.goto 4, 3) := by decide +kernel
theorem d_R_holds_37 : decode b_R_holds 37 = .ok (.iconst 0, 1) := by decide +kernel
theorem d_R_holds_38 : decode b_R_holds 38 = .ok (.ireturn, 1) := by decide +kernel
theorem d_R_looksAlike_0 : decode b_R_looksAlike 0 = .ok (.aload_n 0, 1) := by decide +kernel
theorem d_R_looksAlike_1 : decode b_R_looksAlike 1 = .ok (.lload_n 1, 1) := by decide +kernel
theorem d_R_looksAlike_2 : decode b_R_looksAlike 2 = .ok (.invokevirtual 26, 3) := by decide +kernel
theorem d_R_looksAlike_5 : decode b_R_looksAlike 5 = .ok (.aload_n 0, 1) := by decide +kernel
theorem d_R_looksAlike_6 : decode b_R_looksAlike 6 = .ok (.lload_n 3, 1) := by decide +kernel
theorem d_R_looksAlike_7 : decode b_R_looksAlike 7 = .ok (.invokevirtual 26, 3) := by decide +kernel
theorem d_R_looksAlike_10 : decode b_R_looksAlike 10 = .ok (.if_icmp .ne 7, 3) := by decide +kernel
theorem d_R_looksAlike_13 : decode b_R_looksAlike 13 = .ok (.iconst 1, 1) := by decide +kernel
theorem d_R_looksAlike_14 : decode b_R_looksAlike 14 = .ok (.goto 4, 3) := by decide +kernel
theorem d_R_looksAlike_17 : decode b_R_looksAlike 17 = .ok (.iconst 0, 1) := by decide +kernel
theorem d_R_looksAlike_18 : decode b_R_looksAlike 18 = .ok (.ireturn, 1) := by decide +kernel
theorem d_R_strain_0 : decode b_R_strain 0 = .ok (.aload_n 0, 1) := by decide +kernel
theorem d_R_strain_1 : decode b_R_strain 1 = .ok (.invokevirtual 40, 3) := by decide +kernel
theorem d_R_strain_4 : decode b_R_strain 4 = .ok (.iconst 0, 1) := by decide +kernel
theorem d_R_strain_5 : decode b_R_strain 5 = .ok (.istore_n 1, 1) := by decide +kernel
theorem d_R_strain_6 : decode b_R_strain 6 = .ok (.iconst 0, 1) := by decide +kernel
theorem d_R_strain_7 : decode b_R_strain 7 = .ok (.istore_n 2, 1) := by decide +kernel
theorem d_R_strain_8 : decode b_R_strain 8 = .ok (.iconst 0, 1) := by decide +kernel
theorem d_R_strain_9 : decode b_R_strain 9 = .ok (.istore_n 3, 1) := by decide +kernel
theorem d_R_strain_10 : decode b_R_strain 10 = .ok (.iload_n 3, 1) := by decide +kernel
theorem d_R_strain_11 : decode b_R_strain 11 = .ok (.iconst 2, 1) := by decide +kernel
theorem d_R_strain_12 : decode b_R_strain 12 = .ok (.aload_n 0, 1) := by decide +kernel
theorem d_R_strain_13 : decode b_R_strain 13 = .ok (.invokevirtual 22, 3) := by decide +kernel
theorem d_R_strain_16 : decode b_R_strain 16 = .ok (.imul, 1) := by decide +kernel
theorem d_R_strain_17 : decode b_R_strain 17 = .ok (.if_icmp .ge 40, 3) := by decide +kernel
theorem d_R_strain_20 : decode b_R_strain 20 = .ok (.aload_n 0, 1) := by decide +kernel
theorem d_R_strain_21 : decode b_R_strain 21 = .ok (.getfield 15, 3) := by decide +kernel
theorem d_R_strain_24 : decode b_R_strain 24 = .ok (.iload_n 3, 1) := by decide +kernel
theorem d_R_strain_25 : decode b_R_strain 25 = .ok (.aload_n 0, 1) := by decide +kernel
theorem d_R_strain_26 : decode b_R_strain 26 = .ok (.invokevirtual 22, 3) := by decide +kernel
theorem d_R_strain_29 : decode b_R_strain 29 = .ok (.iconst 1, 1) := by decide +kernel
theorem d_R_strain_30 : decode b_R_strain 30 = .ok (.isub, 1) := by decide +kernel
theorem d_R_strain_31 : decode b_R_strain 31 = .ok (.iand, 1) := by decide +kernel
theorem d_R_strain_32 : decode b_R_strain 32 = .ok (.iaload, 1) := by decide +kernel
theorem d_R_strain_33 : decode b_R_strain 33 = .ok (.iconst (-1), 1) := by decide +kernel
theorem d_R_strain_34 : decode b_R_strain 34 = .ok (.if_icmp .ne 7, 3) := by decide +kernel
theorem d_R_strain_37 : decode b_R_strain 37 = .ok (.iconst 0, 1) := by decide +kernel
theorem d_R_strain_38 : decode b_R_strain 38 = .ok (.goto 6, 3) := by decide +kernel
theorem d_R_strain_41 : decode b_R_strain 41 = .ok (.iload_n 2, 1) := by decide +kernel
theorem d_R_strain_42 : decode b_R_strain 42 = .ok (.iconst 1, 1) := by decide +kernel
theorem d_R_strain_43 : decode b_R_strain 43 = .ok (.iadd, 1) := by decide +kernel
theorem d_R_strain_44 : decode b_R_strain 44 = .ok (.istore_n 2, 1) := by decide +kernel
theorem d_R_strain_45 : decode b_R_strain 45 = .ok (.iload_n 1, 1) := by decide +kernel
theorem d_R_strain_46 : decode b_R_strain 46 = .ok (.iload_n 2, 1) := by decide +kernel
theorem d_R_strain_47 : decode b_R_strain 47 = .ok (.invokestatic 43, 3) := by decide +kernel
theorem d_R_strain_50 : decode b_R_strain 50 = .ok (.istore_n 1, 1) := by decide +kernel
theorem d_R_strain_51 : decode b_R_strain 51 = .ok (.iinc 3 1, 3) := by decide +kernel
theorem d_R_strain_54 : decode b_R_strain 54 = .ok (.goto (-44), 3) := by decide +kernel
theorem d_R_strain_57 : decode b_R_strain 57 = .ok (.iload_n 1, 1) := by decide +kernel
theorem d_R_strain_58 : decode b_R_strain 58 = .ok (.aload_n 0, 1) := by decide +kernel
theorem d_R_strain_59 : decode b_R_strain 59 = .ok (.invokevirtual 22, 3) := by decide +kernel
theorem d_R_strain_62 : decode b_R_strain 62 = .ok (.invokestatic 49, 3) := by decide +kernel
theorem d_R_strain_65 : decode b_R_strain 65 = .ok (.ireturn, 1) := by decide +kernel
theorem d_R_look_0 : decode b_R_look 0 = .ok (.aload_n 0, 1) := by decide +kernel
theorem d_R_look_1 : decode b_R_look 1 = .ok (.invokevirtual 40, 3) := by decide +kernel
theorem d_R_look_4 : decode b_R_look 4 = .ok (.aload_n 0, 1) := by decide +kernel
theorem d_R_look_5 : decode b_R_look 5 = .ok (.getfield 15, 3) := by decide +kernel
theorem d_R_look_8 : decode b_R_look 8 = .ok (.iload_n 1, 1) := by decide +kernel
theorem d_R_look_9 : decode b_R_look 9 = .ok (.iaload, 1) := by decide +kernel
theorem d_R_look_10 : decode b_R_look 10 = .ok (.istore_n 2, 1) := by decide +kernel
theorem d_R_look_11 : decode b_R_look 11 = .ok (.iload_n 2, 1) := by decide +kernel
theorem d_R_look_12 : decode b_R_look 12 = .ok (.iconst (-1), 1) := by decide +kernel
theorem d_R_look_13 : decode b_R_look 13 = .ok (.if_icmp .ne 5, 3) := by decide +kernel
theorem d_R_look_16 : decode b_R_look 16 = .ok (.iconst 0, 1) := by decide +kernel
theorem d_R_look_17 : decode b_R_look 17 = .ok (.ireturn, 1) := by decide +kernel
theorem d_R_look_18 : decode b_R_look 18 = .ok (.aload_n 0, 1) := by decide +kernel
theorem d_R_look_19 : decode b_R_look 19 = .ok (.iload_n 2, 1) := by decide +kernel
theorem d_R_look_20 : decode b_R_look 20 = .ok (.invokevirtual 52, 3) := by decide +kernel
theorem d_R_look_23 : decode b_R_look 23 = .ok (.istore_n 3, 1) := by decide +kernel
theorem d_R_look_24 : decode b_R_look 24 = .ok (.bipush 8, 2) := by decide +kernel
theorem d_R_look_26 : decode b_R_look 26 = .ok (.aload_n 0, 1) := by decide +kernel
theorem d_R_look_27 : decode b_R_look 27 = .ok (.iload_n 2, 1) := by decide +kernel
theorem d_R_look_28 : decode b_R_look 28 = .ok (.invokevirtual 55, 3) := by decide +kernel
theorem d_R_look_31 : decode b_R_look 31 = .ok (.imul, 1) := by decide +kernel
theorem d_R_look_32 : decode b_R_look 32 = .ok (.istore 4, 2) := by decide +kernel
theorem d_R_look_34 : decode b_R_look 34 = .ok (.aload_n 0, 1) := by decide +kernel
theorem d_R_look_35 : decode b_R_look 35 = .ok (.iload_n 1, 1) := by decide +kernel
theorem d_R_look_36 : decode b_R_look 36 = .ok (.invokevirtual 58, 3) := by decide +kernel
theorem d_R_look_39 : decode b_R_look 39 = .ok (.ifCond .eq 6, 3) := by decide +kernel
theorem d_R_look_42 : decode b_R_look 42 = .ok (.iinc 4 1, 3) := by decide +kernel
theorem d_R_look_45 : decode b_R_look 45 = .ok (.iload_n 2, 1) := by decide +kernel
theorem d_R_look_46 : decode b_R_look 46 = .ok (.ifCond .le 17, 3) := by decide +kernel
theorem d_R_look_49 : decode b_R_look 49 = .ok (.aload_n 0, 1) := by decide +kernel
theorem d_R_look_50 : decode b_R_look 50 = .ok (.iload_n 2, 1) := by decide +kernel
theorem d_R_look_51 : decode b_R_look 51 = .ok (.iconst 1, 1) := by decide +kernel
theorem d_R_look_52 : decode b_R_look 52 = .ok (.isub, 1) := by decide +kernel
theorem d_R_look_53 : decode b_R_look 53 = .ok (.invokevirtual 52, 3) := by decide +kernel
theorem d_R_look_56 : decode b_R_look 56 = .ok (.iload_n 3, 1) := by decide +kernel
theorem d_R_look_57 : decode b_R_look 57 = .ok (.if_icmp .ne 6, 3) := by decide +kernel
theorem d_R_look_60 : decode b_R_look 60 = .ok (.iinc 4 2, 3) := by decide +kernel
theorem d_R_look_63 : decode b_R_look 63 = .ok (.iload_n 3, 1) := by decide +kernel
theorem d_R_look_64 : decode b_R_look 64 = .ok (.iload_n 1, 1) := by decide +kernel
theorem d_R_look_65 : decode b_R_look 65 = .ok (.if_icmp .eq 6, 3) := by decide +kernel
theorem d_R_look_68 : decode b_R_look 68 = .ok (.iinc 4 4, 3) := by decide +kernel
theorem d_R_look_71 : decode b_R_look 71 = .ok (.iload 4, 2) := by decide +kernel
theorem d_R_look_73 : decode b_R_look 73 = .ok (.ireturn, 1) := by decide +kernel
theorem d_R_acceptPairs_0 : decode b_R_acceptPairs 0 = .ok (.aload_n 0, 1) := by decide +kernel
theorem d_R_acceptPairs_1 : decode b_R_acceptPairs 1 = .ok (.getfield 18, 3) := by decide +kernel
theorem d_R_acceptPairs_4 : decode b_R_acceptPairs 4 = .ok (.iconst 1, 1) := by decide +kernel
theorem d_R_acceptPairs_5 : decode b_R_acceptPairs 5 = .ok (.isub, 1) := by decide +kernel
theorem d_R_acceptPairs_6 : decode b_R_acceptPairs 6 = .ok (.istore_n 2, 1) := by decide +kernel
theorem d_R_acceptPairs_7 : decode b_R_acceptPairs 7 = .ok (.aload_n 1, 1) := by decide +kernel
theorem d_R_acceptPairs_8 : decode b_R_acceptPairs 8 = .ok (.getfield 18, 3) := by decide +kernel
theorem d_R_acceptPairs_11 : decode b_R_acceptPairs 11 = .ok (.iconst 1, 1) := by decide +kernel
theorem d_R_acceptPairs_12 : decode b_R_acceptPairs 12 = .ok (.isub, 1) := by decide +kernel
theorem d_R_acceptPairs_13 : decode b_R_acceptPairs 13 = .ok (.istore_n 3, 1) := by decide +kernel
theorem d_R_acceptPairs_14 : decode b_R_acceptPairs 14 = .ok (.aload_n 0, 1) := by decide +kernel
theorem d_R_acceptPairs_15 : decode b_R_acceptPairs 15 = .ok (.getfield 18, 3) := by decide +kernel
theorem d_R_acceptPairs_18 : decode b_R_acceptPairs 18 = .ok (.aload_n 1, 1) := by decide +kernel
theorem d_R_acceptPairs_19 : decode b_R_acceptPairs 19 = .ok (.getfield 18, 3) := by decide +kernel
theorem d_R_acceptPairs_22 : decode b_R_acceptPairs 22 = .ok (.iadd, 1) := by decide +kernel
theorem d_R_acceptPairs_23 : decode b_R_acceptPairs 23 = .ok (.istore 4, 2) := by decide +kernel
theorem d_R_acceptPairs_25 : decode b_R_acceptPairs 25 = .ok (.iload 4, 2) := by decide +kernel
theorem d_R_acceptPairs_27 : decode b_R_acceptPairs 27 = .ok (.aload_n 0, 1) := by decide +kernel
theorem d_R_acceptPairs_28 : decode b_R_acceptPairs 28 = .ok (.invokevirtual 22, 3) := by decide +kernel
theorem d_R_acceptPairs_31 : decode b_R_acceptPairs 31 = .ok (.if_icmp .le 5, 3) := by decide +kernel
theorem d_R_acceptPairs_34 : decode b_R_acceptPairs 34 = .ok (.iconst 0, 1) := by decide +kernel
theorem d_R_acceptPairs_35 : decode b_R_acceptPairs 35 = .ok (.ireturn, 1) := by decide +kernel
theorem d_R_acceptPairs_36 : decode b_R_acceptPairs 36 = .ok (.iload 4, 2) := by decide +kernel
theorem d_R_acceptPairs_38 : decode b_R_acceptPairs 38 = .ok (.iconst 1, 1) := by decide +kernel
theorem d_R_acceptPairs_39 : decode b_R_acceptPairs 39 = .ok (.isub, 1) := by decide +kernel
theorem d_R_acceptPairs_40 : decode b_R_acceptPairs 40 = .ok (.istore 5, 2) := by decide +kernel
theorem d_R_acceptPairs_42 : decode b_R_acceptPairs 42 = .ok (.iload 5, 2) := by decide +kernel
theorem d_R_acceptPairs_44 : decode b_R_acceptPairs 44 = .ok (.ifCond .lt 67, 3) := by decide +kernel
theorem d_R_acceptPairs_47 : decode b_R_acceptPairs 47 = .ok (.iload_n 3, 1) := by decide +kernel
theorem d_R_acceptPairs_48 : decode b_R_acceptPairs 48 = .ok (.ifCond .lt 63, 3) := by decide +kernel
theorem d_R_acceptPairs_51 : decode b_R_acceptPairs 51 = .ok (.iload_n 2, 1) := by decide +kernel
theorem d_R_acceptPairs_52 : decode b_R_acceptPairs 52 = .ok (.ifCond .lt 37, 3) := by decide +kernel
theorem d_R_acceptPairs_55 : decode b_R_acceptPairs 55 = .ok (.aload_n 0, 1) := by decide +kernel
theorem d_R_acceptPairs_56 : decode b_R_acceptPairs 56 = .ok (.getfield 11, 3) := by decide +kernel
theorem d_R_acceptPairs_59 : decode b_R_acceptPairs 59 = .ok (.iload_n 2, 1) := by decide +kernel
theorem d_R_acceptPairs_60 : decode b_R_acceptPairs 60 = .ok (.iaload, 1) := by decide +kernel
theorem d_R_acceptPairs_61 : decode b_R_acceptPairs 61 = .ok (.aload_n 1, 1) := by decide +kernel
theorem d_R_acceptPairs_62 : decode b_R_acceptPairs 62 = .ok (.getfield 11, 3) := by decide +kernel
theorem d_R_acceptPairs_65 : decode b_R_acceptPairs 65 = .ok (.iload_n 3, 1) := by decide +kernel
theorem d_R_acceptPairs_66 : decode b_R_acceptPairs 66 = .ok (.iaload, 1) := by decide +kernel
theorem d_R_acceptPairs_67 : decode b_R_acceptPairs 67 = .ok (.if_icmp .le 22, 3) := by decide +kernel
theorem d_R_acceptPairs_70 : decode b_R_acceptPairs 70 = .ok (.aload_n 0, 1) := by decide +kernel
theorem d_R_acceptPairs_71 : decode b_R_acceptPairs 71 = .ok (.getfield 11, 3) := by decide +kernel
theorem d_R_acceptPairs_74 : decode b_R_acceptPairs 74 = .ok (.iload 5, 2) := by decide +kernel
theorem d_R_acceptPairs_76 : decode b_R_acceptPairs 76 = .ok (.aload_n 0, 1) := by decide +kernel
theorem d_R_acceptPairs_77 : decode b_R_acceptPairs 77 = .ok (.getfield 11, 3) := by decide +kernel
theorem d_R_acceptPairs_80 : decode b_R_acceptPairs 80 = .ok (.iload_n 2, 1) := by decide +kernel
theorem d_R_acceptPairs_81 : decode b_R_acceptPairs 81 = .ok (.iaload, 1) := by decide +kernel
theorem d_R_acceptPairs_82 : decode b_R_acceptPairs 82 = .ok (.iastore, 1) := by decide +kernel
theorem d_R_acceptPairs_83 : decode b_R_acceptPairs 83 = .ok (.iinc 2 (-1), 3) := by decide +kernel
theorem d_R_acceptPairs_86 : decode b_R_acceptPairs 86 = .ok (.goto 19, 3) := by decide +kernel
theorem d_R_acceptPairs_89 : decode b_R_acceptPairs 89 = .ok (.aload_n 0, 1) := by decide +kernel
theorem d_R_acceptPairs_90 : decode b_R_acceptPairs 90 = .ok (.getfield 11, 3) := by decide +kernel
theorem d_R_acceptPairs_93 : decode b_R_acceptPairs 93 = .ok (.iload 5, 2) := by decide +kernel
theorem d_R_acceptPairs_95 : decode b_R_acceptPairs 95 = .ok (.aload_n 1, 1) := by decide +kernel
theorem d_R_acceptPairs_96 : decode b_R_acceptPairs 96 = .ok (.getfield 11, 3) := by decide +kernel
theorem d_R_acceptPairs_99 : decode b_R_acceptPairs 99 = .ok (.iload_n 3, 1) := by decide +kernel
theorem d_R_acceptPairs_100 : decode b_R_acceptPairs 100 = .ok (.iaload, 1) := by decide +kernel
theorem d_R_acceptPairs_101 : decode b_R_acceptPairs 101 = .ok (.iastore, 1) := by decide +kernel
theorem d_R_acceptPairs_102 : decode b_R_acceptPairs 102 = .ok (.iinc 3 (-1), 3) := by decide +kernel
theorem d_R_acceptPairs_105 : decode b_R_acceptPairs 105 = .ok (.iinc 5 (-1), 3) := by decide +kernel
theorem d_R_acceptPairs_108 : decode b_R_acceptPairs 108 = .ok (.goto (-66), 3) := by decide +kernel
theorem d_R_acceptPairs_111 : decode b_R_acceptPairs 111 = .ok (.aload_n 0, 1) := by decide +kernel
theorem d_R_acceptPairs_112 : decode b_R_acceptPairs 112 = .ok (.iload 4, 2) := by decide +kernel
theorem d_R_acceptPairs_114 : decode b_R_acceptPairs 114 = .ok (.putfield 18, 3) := by decide +kernel
theorem d_R_acceptPairs_117 : decode b_R_acceptPairs 117 = .ok (.iconst 1, 1) := by decide +kernel
theorem d_R_acceptPairs_118 : decode b_R_acceptPairs 118 = .ok (.ireturn, 1) := by decide +kernel
theorem d_R_moveOneBit_0 : decode b_R_moveOneBit 0 = .ok (.aload_n 0, 1) := by decide +kernel
theorem d_R_moveOneBit_1 : decode b_R_moveOneBit 1 = .ok (.dup, 1) := by decide +kernel
theorem d_R_moveOneBit_2 : decode b_R_moveOneBit 2 = .ok (.getfield 62, 3) := by decide +kernel
theorem d_R_moveOneBit_5 : decode b_R_moveOneBit 5 = .ok (.iconst 1, 1) := by decide +kernel
theorem d_R_moveOneBit_6 : decode b_R_moveOneBit 6 = .ok (.iadd, 1) := by decide +kernel
theorem d_R_moveOneBit_7 : decode b_R_moveOneBit 7 = .ok (.putfield 62, 3) := by decide +kernel
theorem d_R_moveOneBit_10 : decode b_R_moveOneBit 10 = .ok (.aload_n 0, 1) := by decide +kernel
theorem d_R_moveOneBit_11 : decode b_R_moveOneBit 11 = .ok (.dup, 1) := by decide +kernel
theorem d_R_moveOneBit_12 : decode b_R_moveOneBit 12 = .ok (.getfield 65, 3) := by decide +kernel
theorem d_R_moveOneBit_15 : decode b_R_moveOneBit 15 = .ok (.iconst 1, 1) := by decide +kernel
theorem d_R_moveOneBit_16 : decode b_R_moveOneBit 16 = .ok (.isub, 1) := by decide +kernel
theorem d_R_moveOneBit_17 : decode b_R_moveOneBit 17 = .ok (.putfield 65, 3) := by decide +kernel
theorem d_R_moveOneBit_20 : decode b_R_moveOneBit 20 = .ok (.return_, 1) := by decide +kernel
theorem d_R_pairOf_0 : decode b_R_pairOf 0 = .ok (.lload_n 1, 1) := by decide +kernel
theorem d_R_pairOf_1 : decode b_R_pairOf 1 = .ok (.iconst 0, 1) := by decide +kernel
theorem d_R_pairOf_2 : decode b_R_pairOf 2 = .ok (.invokestatic 68, 3) := by decide +kernel
theorem d_R_pairOf_5 : decode b_R_pairOf 5 = .ok (.bipush 64, 2) := by decide +kernel
theorem d_R_pairOf_7 : decode b_R_pairOf 7 = .ok (.aload_n 0, 1) := by decide +kernel
theorem d_R_pairOf_8 : decode b_R_pairOf 8 = .ok (.getfield 62, 3) := by decide +kernel
theorem d_R_pairOf_11 : decode b_R_pairOf 11 = .ok (.isub, 1) := by decide +kernel
theorem d_R_pairOf_12 : decode b_R_pairOf 12 = .ok (.aload_n 0, 1) := by decide +kernel
theorem d_R_pairOf_13 : decode b_R_pairOf 13 = .ok (.getfield 65, 3) := by decide +kernel
theorem d_R_pairOf_16 : decode b_R_pairOf 16 = .ok (.isub, 1) := by decide +kernel
theorem d_R_pairOf_17 : decode b_R_pairOf 17 = .ok (.lushr, 1) := by decide +kernel
theorem d_R_pairOf_18 : decode b_R_pairOf 18 = .ok (.l2i, 1) := by decide +kernel
theorem d_R_pairOf_19 : decode b_R_pairOf 19 = .ok (.ireturn, 1) := by decide +kernel
theorem d_R_quotient_0 : decode b_R_quotient 0 = .ok (.aload_n 0, 1) := by decide +kernel
theorem d_R_quotient_1 : decode b_R_quotient 1 = .ok (.getfield 11, 3) := by decide +kernel
theorem d_R_quotient_4 : decode b_R_quotient 4 = .ok (.iload_n 1, 1) := by decide +kernel
theorem d_R_quotient_5 : decode b_R_quotient 5 = .ok (.iaload, 1) := by decide +kernel
theorem d_R_quotient_6 : decode b_R_quotient 6 = .ok (.aload_n 0, 1) := by decide +kernel
theorem d_R_quotient_7 : decode b_R_quotient 7 = .ok (.getfield 65, 3) := by decide +kernel
theorem d_R_quotient_10 : decode b_R_quotient 10 = .ok (.ishr, 1) := by decide +kernel
theorem d_R_quotient_11 : decode b_R_quotient 11 = .ok (.ireturn, 1) := by decide +kernel
theorem d_R_remainder_0 : decode b_R_remainder 0 = .ok (.aload_n 0, 1) := by decide +kernel
theorem d_R_remainder_1 : decode b_R_remainder 1 = .ok (.getfield 11, 3) := by decide +kernel
theorem d_R_remainder_4 : decode b_R_remainder 4 = .ok (.iload_n 1, 1) := by decide +kernel
theorem d_R_remainder_5 : decode b_R_remainder 5 = .ok (.iaload, 1) := by decide +kernel
theorem d_R_remainder_6 : decode b_R_remainder 6 = .ok (.iconst 1, 1) := by decide +kernel
theorem d_R_remainder_7 : decode b_R_remainder 7 = .ok (.aload_n 0, 1) := by decide +kernel
theorem d_R_remainder_8 : decode b_R_remainder 8 = .ok (.getfield 65, 3) := by decide +kernel
theorem d_R_remainder_11 : decode b_R_remainder 11 = .ok (.ishl, 1) := by decide +kernel
theorem d_R_remainder_12 : decode b_R_remainder 12 = .ok (.iconst 1, 1) := by decide +kernel
theorem d_R_remainder_13 : decode b_R_remainder 13 = .ok (.isub, 1) := by decide +kernel
theorem d_R_remainder_14 : decode b_R_remainder 14 = .ok (.iand, 1) := by decide +kernel
theorem d_R_remainder_15 : decode b_R_remainder 15 = .ok (.ireturn, 1) := by decide +kernel
theorem d_R_isClaimed_0 : decode b_R_isClaimed 0 = .ok (.aload_n 0, 1) := by decide +kernel
theorem d_R_isClaimed_1 : decode b_R_isClaimed 1 = .ok (.iload_n 1, 1) := by decide +kernel
theorem d_R_isClaimed_2 : decode b_R_isClaimed 2 = .ok (.aload_n 0, 1) := by decide +kernel
theorem d_R_isClaimed_3 : decode b_R_isClaimed 3 = .ok (.getfield 65, 3) := by decide +kernel
theorem d_R_isClaimed_6 : decode b_R_isClaimed 6 = .ok (.ishl, 1) := by decide +kernel
theorem d_R_isClaimed_7 : decode b_R_isClaimed 7 = .ok (.invokevirtual 30, 3) := by decide +kernel
theorem d_R_isClaimed_10 : decode b_R_isClaimed 10 = .ok (.istore_n 2, 1) := by decide +kernel
theorem d_R_isClaimed_11 : decode b_R_isClaimed 11 = .ok (.iload_n 2, 1) := by decide +kernel
theorem d_R_isClaimed_12 : decode b_R_isClaimed 12 = .ok (.aload_n 0, 1) := by decide +kernel
theorem d_R_isClaimed_13 : decode b_R_isClaimed 13 = .ok (.getfield 18, 3) := by decide +kernel
theorem d_R_isClaimed_16 : decode b_R_isClaimed 16 = .ok (.if_icmp .ge 16, 3) := by decide +kernel
theorem d_R_isClaimed_19 : decode b_R_isClaimed 19 = .ok (.aload_n 0, 1) := by decide +kernel
theorem d_R_isClaimed_20 : decode b_R_isClaimed 20 = .ok (.iload_n 2, 1) := by decide +kernel
theorem d_R_isClaimed_21 : decode b_R_isClaimed 21 = .ok (.invokevirtual 52, 3) := by decide +kernel
theorem d_R_isClaimed_24 : decode b_R_isClaimed 24 = .ok (.iload_n 1, 1) := by decide +kernel
theorem d_R_isClaimed_25 : decode b_R_isClaimed 25 = .ok (.if_icmp .ne 7, 3) := by decide +kernel
theorem d_R_isClaimed_28 : decode b_R_isClaimed 28 = .ok (.iconst 1, 1) := by decide +kernel
theorem d_R_isClaimed_29 : decode b_R_isClaimed 29 = .ok (.goto 4, 3) := by decide +kernel
theorem d_R_isClaimed_32 : decode b_R_isClaimed 32 = .ok (.iconst 0, 1) := by decide +kernel
theorem d_R_isClaimed_33 : decode b_R_isClaimed 33 = .ok (.ireturn, 1) := by decide +kernel
theorem d_R_firstNotBelow_0 : decode b_R_firstNotBelow 0 = .ok (.iconst 0, 1) := by decide +kernel
theorem d_R_firstNotBelow_1 : decode b_R_firstNotBelow 1 = .ok (.istore_n 2, 1) := by decide +kernel
theorem d_R_firstNotBelow_2 : decode b_R_firstNotBelow 2 = .ok (.sipush 256, 3) := by decide +kernel
theorem d_R_firstNotBelow_5 : decode b_R_firstNotBelow 5 = .ok (.istore_n 3, 1) := by decide +kernel
theorem d_R_firstNotBelow_6 : decode b_R_firstNotBelow 6 = .ok (.iload_n 3, 1) := by decide +kernel
theorem d_R_firstNotBelow_7 : decode b_R_firstNotBelow 7 = .ok (.ifCond .le 38, 3) := by decide +kernel
theorem d_R_firstNotBelow_10 : decode b_R_firstNotBelow 10 = .ok (.iload_n 2, 1) := by decide +kernel
theorem d_R_firstNotBelow_11 : decode b_R_firstNotBelow 11 = .ok (.iload_n 3, 1) := by decide +kernel
theorem d_R_firstNotBelow_12 : decode b_R_firstNotBelow 12 = .ok (.iadd, 1) := by decide +kernel
theorem d_R_firstNotBelow_13 : decode b_R_firstNotBelow 13 = .ok (.aload_n 0, 1) := by decide +kernel
theorem d_R_firstNotBelow_14 : decode b_R_firstNotBelow 14 = .ok (.getfield 18, 3) := by decide +kernel
theorem d_R_firstNotBelow_17 : decode b_R_firstNotBelow 17 = .ok (.if_icmp .gt 21, 3) := by decide +kernel
theorem d_R_firstNotBelow_20 : decode b_R_firstNotBelow 20 = .ok (.aload_n 0, 1) := by decide +kernel
theorem d_R_firstNotBelow_21 : decode b_R_firstNotBelow 21 = .ok (.getfield 11, 3) := by decide +kernel
theorem d_R_firstNotBelow_24 : decode b_R_firstNotBelow 24 = .ok (.iload_n 2, 1) := by decide +kernel
theorem d_R_firstNotBelow_25 : decode b_R_firstNotBelow 25 = .ok (.iload_n 3, 1) := by decide +kernel
theorem d_R_firstNotBelow_26 : decode b_R_firstNotBelow 26 = .ok (.iadd, 1) := by decide +kernel
theorem d_R_firstNotBelow_27 : decode b_R_firstNotBelow 27 = .ok (.iconst 1, 1) := by decide +kernel
theorem d_R_firstNotBelow_28 : decode b_R_firstNotBelow 28 = .ok (.isub, 1) := by decide +kernel
theorem d_R_firstNotBelow_29 : decode b_R_firstNotBelow 29 = .ok (.iaload, 1) := by decide +kernel
theorem d_R_firstNotBelow_30 : decode b_R_firstNotBelow 30 = .ok (.iload_n 1, 1) := by decide +kernel
theorem d_R_firstNotBelow_31 : decode b_R_firstNotBelow 31 = .ok (.if_icmp .ge 7, 3) := by decide +kernel
theorem d_R_firstNotBelow_34 : decode b_R_firstNotBelow 34 = .ok (.iload_n 2, 1) := by decide +kernel
theorem d_R_firstNotBelow_35 : decode b_R_firstNotBelow 35 = .ok (.iload_n 3, 1) := by decide +kernel
theorem d_R_firstNotBelow_36 : decode b_R_firstNotBelow 36 = .ok (.iadd, 1) := by decide +kernel
theorem d_R_firstNotBelow_37 : decode b_R_firstNotBelow 37 = .ok (.istore_n 2, 1) := by decide +kernel
theorem d_R_firstNotBelow_38 : decode b_R_firstNotBelow 38 = .ok (.iload_n 3, 1) := by decide +kernel
theorem d_R_firstNotBelow_39 : decode b_R_firstNotBelow 39 = .ok (.iconst 1, 1) := by decide +kernel
theorem d_R_firstNotBelow_40 : decode b_R_firstNotBelow 40 = .ok (.ishr, 1) := by decide +kernel
theorem d_R_firstNotBelow_41 : decode b_R_firstNotBelow 41 = .ok (.istore_n 3, 1) := by decide +kernel
theorem d_R_firstNotBelow_42 : decode b_R_firstNotBelow 42 = .ok (.goto (-36), 3) := by decide +kernel
theorem d_R_firstNotBelow_45 : decode b_R_firstNotBelow 45 = .ok (.iload_n 2, 1) := by decide +kernel
theorem d_R_firstNotBelow_46 : decode b_R_firstNotBelow 46 = .ok (.ireturn, 1) := by decide +kernel
theorem d_R_layOut_0 : decode b_R_layOut 0 = .ok (.aload_n 0, 1) := by decide +kernel
theorem d_R_layOut_1 : decode b_R_layOut 1 = .ok (.getfield 15, 3) := by decide +kernel
theorem d_R_layOut_4 : decode b_R_layOut 4 = .ok (.iconst (-1), 1) := by decide +kernel
theorem d_R_layOut_5 : decode b_R_layOut 5 = .ok (.invokestatic 72, 3) := by decide +kernel
theorem d_R_layOut_8 : decode b_R_layOut 8 = .ok (.aload_n 0, 1) := by decide +kernel
theorem d_R_layOut_9 : decode b_R_layOut 9 = .ok (.invokevirtual 78, 3) := by decide +kernel
theorem d_R_layOut_12 : decode b_R_layOut 12 = .ok (.istore_n 1, 1) := by decide +kernel
theorem d_R_layOut_13 : decode b_R_layOut 13 = .ok (.iconst 0, 1) := by decide +kernel
theorem d_R_layOut_14 : decode b_R_layOut 14 = .ok (.istore_n 2, 1) := by decide +kernel
theorem d_R_layOut_15 : decode b_R_layOut 15 = .ok (.iload_n 2, 1) := by decide +kernel
theorem d_R_layOut_16 : decode b_R_layOut 16 = .ok (.aload_n 0, 1) := by decide +kernel
theorem d_R_layOut_17 : decode b_R_layOut 17 = .ok (.getfield 18, 3) := by decide +kernel
theorem d_R_layOut_20 : decode b_R_layOut 20 = .ok (.if_icmp .ge 37, 3) := by decide +kernel
theorem d_R_layOut_23 : decode b_R_layOut 23 = .ok (.iload_n 1, 1) := by decide +kernel
theorem d_R_layOut_24 : decode b_R_layOut 24 = .ok (.aload_n 0, 1) := by decide +kernel
theorem d_R_layOut_25 : decode b_R_layOut 25 = .ok (.iload_n 2, 1) := by decide +kernel
theorem d_R_layOut_26 : decode b_R_layOut 26 = .ok (.invokevirtual 52, 3) := by decide +kernel
theorem d_R_layOut_29 : decode b_R_layOut 29 = .ok (.invokestatic 43, 3) := by decide +kernel
theorem d_R_layOut_32 : decode b_R_layOut 32 = .ok (.istore_n 3, 1) := by decide +kernel
theorem d_R_layOut_33 : decode b_R_layOut 33 = .ok (.aload_n 0, 1) := by decide +kernel
theorem d_R_layOut_34 : decode b_R_layOut 34 = .ok (.getfield 15, 3) := by decide +kernel
theorem d_R_layOut_37 : decode b_R_layOut 37 = .ok (.iload_n 3, 1) := by decide +kernel
theorem d_R_layOut_38 : decode b_R_layOut 38 = .ok (.aload_n 0, 1) := by decide +kernel
theorem d_R_layOut_39 : decode b_R_layOut 39 = .ok (.invokevirtual 22, 3) := by decide +kernel
theorem d_R_layOut_42 : decode b_R_layOut 42 = .ok (.iconst 1, 1) := by decide +kernel
theorem d_R_layOut_43 : decode b_R_layOut 43 = .ok (.isub, 1) := by decide +kernel
theorem d_R_layOut_44 : decode b_R_layOut 44 = .ok (.iand, 1) := by decide +kernel
theorem d_R_layOut_45 : decode b_R_layOut 45 = .ok (.iload_n 2, 1) := by decide +kernel
theorem d_R_layOut_46 : decode b_R_layOut 46 = .ok (.iastore, 1) := by decide +kernel
theorem d_R_layOut_47 : decode b_R_layOut 47 = .ok (.iload_n 3, 1) := by decide +kernel
theorem d_R_layOut_48 : decode b_R_layOut 48 = .ok (.iconst 1, 1) := by decide +kernel
theorem d_R_layOut_49 : decode b_R_layOut 49 = .ok (.iadd, 1) := by decide +kernel
theorem d_R_layOut_50 : decode b_R_layOut 50 = .ok (.istore_n 1, 1) := by decide +kernel
theorem d_R_layOut_51 : decode b_R_layOut 51 = .ok (.iinc 2 1, 3) := by decide +kernel
theorem d_R_layOut_54 : decode b_R_layOut 54 = .ok (.goto (-39), 3) := by decide +kernel
theorem d_R_layOut_57 : decode b_R_layOut 57 = .ok (.return_, 1) := by decide +kernel
theorem d_R_overEnd_0 : decode b_R_overEnd 0 = .ok (.iconst 0, 1) := by decide +kernel
theorem d_R_overEnd_1 : decode b_R_overEnd 1 = .ok (.istore_n 1, 1) := by decide +kernel
theorem d_R_overEnd_2 : decode b_R_overEnd 2 = .ok (.iconst 0, 1) := by decide +kernel
theorem d_R_overEnd_3 : decode b_R_overEnd 3 = .ok (.istore_n 2, 1) := by decide +kernel
theorem d_R_overEnd_4 : decode b_R_overEnd 4 = .ok (.iload_n 2, 1) := by decide +kernel
theorem d_R_overEnd_5 : decode b_R_overEnd 5 = .ok (.aload_n 0, 1) := by decide +kernel
theorem d_R_overEnd_6 : decode b_R_overEnd 6 = .ok (.getfield 18, 3) := by decide +kernel
theorem d_R_overEnd_9 : decode b_R_overEnd 9 = .ok (.if_icmp .ge 21, 3) := by decide +kernel
theorem d_R_overEnd_12 : decode b_R_overEnd 12 = .ok (.iload_n 1, 1) := by decide +kernel
theorem d_R_overEnd_13 : decode b_R_overEnd 13 = .ok (.aload_n 0, 1) := by decide +kernel
theorem d_R_overEnd_14 : decode b_R_overEnd 14 = .ok (.iload_n 2, 1) := by decide +kernel
theorem d_R_overEnd_15 : decode b_R_overEnd 15 = .ok (.invokevirtual 52, 3) := by decide +kernel
theorem d_R_overEnd_18 : decode b_R_overEnd 18 = .ok (.invokestatic 43, 3) := by decide +kernel
theorem d_R_overEnd_21 : decode b_R_overEnd 21 = .ok (.iconst 1, 1) := by decide +kernel
theorem d_R_overEnd_22 : decode b_R_overEnd 22 = .ok (.iadd, 1) := by decide +kernel
theorem d_R_overEnd_23 : decode b_R_overEnd 23 = .ok (.istore_n 1, 1) := by decide +kernel
theorem d_R_overEnd_24 : decode b_R_overEnd 24 = .ok (.iinc 2 1, 3) := by decide +kernel
theorem d_R_overEnd_27 : decode b_R_overEnd 27 = .ok (.goto (-23), 3) := by decide +kernel
theorem d_R_overEnd_30 : decode b_R_overEnd 30 = .ok (.iconst 0, 1) := by decide +kernel
theorem d_R_overEnd_31 : decode b_R_overEnd 31 = .ok (.iload_n 1, 1) := by decide +kernel
theorem d_R_overEnd_32 : decode b_R_overEnd 32 = .ok (.aload_n 0, 1) := by decide +kernel
theorem d_R_overEnd_33 : decode b_R_overEnd 33 = .ok (.invokevirtual 22, 3) := by decide +kernel
theorem d_R_overEnd_36 : decode b_R_overEnd 36 = .ok (.isub, 1) := by decide +kernel
theorem d_R_overEnd_37 : decode b_R_overEnd 37 = .ok (.invokestatic 43, 3) := by decide +kernel
theorem d_R_overEnd_40 : decode b_R_overEnd 40 = .ok (.ireturn, 1) := by decide +kernel
theorem d_L_make_0 : decode b_L_make 0 = .ok (.aload_n 0, 1) := by decide +kernel
theorem d_L_make_1 : decode b_L_make 1 = .ok (.iload_n 1, 1) := by decide +kernel
theorem d_L_make_2 : decode b_L_make 2 = .ok (.iload_n 2, 1) := by decide +kernel
theorem d_L_make_3 : decode b_L_make 3 = .ok (.iload_n 3, 1) := by decide +kernel
theorem d_L_make_4 : decode b_L_make 4 = .ok (.iload 4, 2) := by decide +kernel
theorem d_L_make_6 : decode b_L_make 6 = .ok (.invokevirtual 7, 3) := by decide +kernel
theorem d_L_make_9 : decode b_L_make 9 = .ok (.goto 11, 3) := by decide +kernel
theorem d_L_make_12 : decode b_L_make 12 = .ok (.astore 5, 2) := by decide +kernel
theorem d_L_make_14 : decode b_L_make 14 = .ok (.iconst 1, 1) := by decide +kernel
theorem d_L_make_15 : decode b_L_make 15 = .ok (.ireturn, 1) := by decide +kernel
theorem d_L_make_16 : decode b_L_make 16 = .ok (.astore 5, 2) := by decide +kernel
theorem d_L_make_18 : decode b_L_make 18 = .ok (.iconst 2, 1) := by decide +kernel
theorem d_L_make_19 : decode b_L_make 19 = .ok (.ireturn, 1) := by decide +kernel
theorem d_L_make_20 : decode b_L_make 20 = .ok (.iconst 0, 1) := by decide +kernel
theorem d_L_make_21 : decode b_L_make 21 = .ok (.ireturn, 1) := by decide +kernel
theorem d_L_add_0 : decode b_L_add 0 = .ok (.aload 4, 2) := by decide +kernel
theorem d_L_add_2 : decode b_L_add 2 = .ok (.iconst 0, 1) := by decide +kernel
theorem d_L_add_3 : decode b_L_add 3 = .ok (.aload_n 0, 1) := by decide +kernel
theorem d_L_add_4 : decode b_L_add 4 = .ok (.iload_n 1, 1) := by decide +kernel
theorem d_L_add_5 : decode b_L_add 5 = .ok (.lload_n 2, 1) := by decide +kernel
theorem d_L_add_6 : decode b_L_add 6 = .ok (.invokevirtual 17, 3) := by decide +kernel
theorem d_L_add_9 : decode b_L_add 9 = .ok (.i2l, 1) := by decide +kernel
theorem d_L_add_10 : decode b_L_add 10 = .ok (.lastore, 1) := by decide +kernel
theorem d_L_add_11 : decode b_L_add 11 = .ok (.goto 15, 3) := by decide +kernel
theorem d_L_add_14 : decode b_L_add 14 = .ok (.astore 5, 2) := by decide +kernel
theorem d_L_add_16 : decode b_L_add 16 = .ok (.iconst 1, 1) := by decide +kernel
theorem d_L_add_17 : decode b_L_add 17 = .ok (.ireturn, 1) := by decide +kernel
theorem d_L_add_18 : decode b_L_add 18 = .ok (.astore 5, 2) := by decide +kernel
theorem d_L_add_20 : decode b_L_add 20 = .ok (.iconst 2, 1) := by decide +kernel
theorem d_L_add_21 : decode b_L_add 21 = .ok (.ireturn, 1) := by decide +kernel
theorem d_L_add_22 : decode b_L_add 22 = .ok (.astore 5, 2) := by decide +kernel
theorem d_L_add_24 : decode b_L_add 24 = .ok (.iconst 3, 1) := by decide +kernel
theorem d_L_add_25 : decode b_L_add 25 = .ok (.ireturn, 1) := by decide +kernel
theorem d_L_add_26 : decode b_L_add 26 = .ok (.iconst 0, 1) := by decide +kernel
theorem d_L_add_27 : decode b_L_add 27 = .ok (.ireturn, 1) := by decide +kernel
theorem d_L_addAll_0 : decode b_L_addAll 0 = .ok (.aload 7, 2) := by decide +kernel
theorem d_L_addAll_2 : decode b_L_addAll 2 = .ok (.iconst 0, 1) := by decide +kernel
theorem d_L_addAll_3 : decode b_L_addAll 3 = .ok (.aload_n 0, 1) := by decide +kernel
theorem d_L_addAll_4 : decode b_L_addAll 4 = .ok (.iload_n 1, 1) := by decide +kernel
theorem d_L_addAll_5 : decode b_L_addAll 5 = .ok (.lload_n 2, 1) := by decide +kernel
theorem d_L_addAll_6 : decode b_L_addAll 6 = .ok (.lload 4, 2) := by decide +kernel
theorem d_L_addAll_8 : decode b_L_addAll 8 = .ok (.iload 6, 2) := by decide +kernel
theorem d_L_addAll_10 : decode b_L_addAll 10 = .ok (.invokevirtual 25, 3) := by decide +kernel
theorem d_L_addAll_13 : decode b_L_addAll 13 = .ok (.i2l, 1) := by decide +kernel
theorem d_L_addAll_14 : decode b_L_addAll 14 = .ok (.lastore, 1) := by decide +kernel
theorem d_L_addAll_15 : decode b_L_addAll 15 = .ok (.goto 15, 3) := by decide +kernel
theorem d_L_addAll_18 : decode b_L_addAll 18 = .ok (.astore 8, 2) := by decide +kernel
theorem d_L_addAll_20 : decode b_L_addAll 20 = .ok (.iconst 1, 1) := by decide +kernel
theorem d_L_addAll_21 : decode b_L_addAll 21 = .ok (.ireturn, 1) := by decide +kernel
theorem d_L_addAll_22 : decode b_L_addAll 22 = .ok (.astore 8, 2) := by decide +kernel
theorem d_L_addAll_24 : decode b_L_addAll 24 = .ok (.iconst 2, 1) := by decide +kernel
theorem d_L_addAll_25 : decode b_L_addAll 25 = .ok (.ireturn, 1) := by decide +kernel
theorem d_L_addAll_26 : decode b_L_addAll 26 = .ok (.astore 8, 2) := by decide +kernel
theorem d_L_addAll_28 : decode b_L_addAll 28 = .ok (.iconst 3, 1) := by decide +kernel
theorem d_L_addAll_29 : decode b_L_addAll 29 = .ok (.ireturn, 1) := by decide +kernel
theorem d_L_addAll_30 : decode b_L_addAll 30 = .ok (.iconst 0, 1) := by decide +kernel
theorem d_L_addAll_31 : decode b_L_addAll 31 = .ok (.ireturn, 1) := by decide +kernel
theorem d_L_remove_0 : decode b_L_remove 0 = .ok (.aload 4, 2) := by decide +kernel
theorem d_L_remove_2 : decode b_L_remove 2 = .ok (.iconst 0, 1) := by decide +kernel
theorem d_L_remove_3 : decode b_L_remove 3 = .ok (.aload_n 0, 1) := by decide +kernel
theorem d_L_remove_4 : decode b_L_remove 4 = .ok (.iload_n 1, 1) := by decide +kernel
theorem d_L_remove_5 : decode b_L_remove 5 = .ok (.lload_n 2, 1) := by decide +kernel
theorem d_L_remove_6 : decode b_L_remove 6 = .ok (.invokevirtual 29, 3) := by decide +kernel
theorem d_L_remove_9 : decode b_L_remove 9 = .ok (.i2l, 1) := by decide +kernel
theorem d_L_remove_10 : decode b_L_remove 10 = .ok (.lastore, 1) := by decide +kernel
theorem d_L_remove_11 : decode b_L_remove 11 = .ok (.goto 15, 3) := by decide +kernel
theorem d_L_remove_14 : decode b_L_remove 14 = .ok (.astore 5, 2) := by decide +kernel
theorem d_L_remove_16 : decode b_L_remove 16 = .ok (.iconst 1, 1) := by decide +kernel
theorem d_L_remove_17 : decode b_L_remove 17 = .ok (.ireturn, 1) := by decide +kernel
theorem d_L_remove_18 : decode b_L_remove 18 = .ok (.astore 5, 2) := by decide +kernel
theorem d_L_remove_20 : decode b_L_remove 20 = .ok (.iconst 2, 1) := by decide +kernel
theorem d_L_remove_21 : decode b_L_remove 21 = .ok (.ireturn, 1) := by decide +kernel
theorem d_L_remove_22 : decode b_L_remove 22 = .ok (.astore 5, 2) := by decide +kernel
theorem d_L_remove_24 : decode b_L_remove 24 = .ok (.iconst 3, 1) := by decide +kernel
theorem d_L_remove_25 : decode b_L_remove 25 = .ok (.ireturn, 1) := by decide +kernel
theorem d_L_remove_26 : decode b_L_remove 26 = .ok (.iconst 0, 1) := by decide +kernel
theorem d_L_remove_27 : decode b_L_remove 27 = .ok (.ireturn, 1) := by decide +kernel
theorem d_L_has_0 : decode b_L_has 0 = .ok (.aload 4, 2) := by decide +kernel
theorem d_L_has_2 : decode b_L_has 2 = .ok (.iconst 0, 1) := by decide +kernel
theorem d_L_has_3 : decode b_L_has 3 = .ok (.aload_n 0, 1) := by decide +kernel
theorem d_L_has_4 : decode b_L_has 4 = .ok (.iload_n 1, 1) := by decide +kernel
theorem d_L_has_5 : decode b_L_has 5 = .ok (.lload_n 2, 1) := by decide +kernel
theorem d_L_has_6 : decode b_L_has 6 = .ok (.invokevirtual 34, 3) := by decide +kernel
theorem d_L_has_9 : decode b_L_has 9 = .ok (.ifCond .eq 7, 3) := by decide +kernel
theorem d_L_has_12 : decode b_L_has 12 = .ok (.lconst 1, 1) := by decide +kernel
theorem d_L_has_13 : decode b_L_has 13 = .ok (.goto 4, 3) := by decide +kernel
theorem d_L_has_16 : decode b_L_has 16 = .ok (.lconst 0, 1) := by decide +kernel
theorem d_L_has_17 : decode b_L_has 17 = .ok (.lastore, 1) := by decide +kernel
theorem d_L_has_18 : decode b_L_has 18 = .ok (.goto 11, 3) := by decide +kernel
theorem d_L_has_21 : decode b_L_has 21 = .ok (.astore 5, 2) := by decide +kernel
theorem d_L_has_23 : decode b_L_has 23 = .ok (.iconst 1, 1) := by decide +kernel
theorem d_L_has_24 : decode b_L_has 24 = .ok (.ireturn, 1) := by decide +kernel
theorem d_L_has_25 : decode b_L_has 25 = .ok (.astore 5, 2) := by decide +kernel
theorem d_L_has_27 : decode b_L_has 27 = .ok (.iconst 2, 1) := by decide +kernel
theorem d_L_has_28 : decode b_L_has 28 = .ok (.ireturn, 1) := by decide +kernel
theorem d_L_has_29 : decode b_L_has 29 = .ok (.iconst 0, 1) := by decide +kernel
theorem d_L_has_30 : decode b_L_has 30 = .ok (.ireturn, 1) := by decide +kernel
theorem d_L_hasAll_0 : decode b_L_hasAll 0 = .ok (.aload 7, 2) := by decide +kernel
theorem d_L_hasAll_2 : decode b_L_hasAll 2 = .ok (.iconst 0, 1) := by decide +kernel
theorem d_L_hasAll_3 : decode b_L_hasAll 3 = .ok (.aload_n 0, 1) := by decide +kernel
theorem d_L_hasAll_4 : decode b_L_hasAll 4 = .ok (.iload_n 1, 1) := by decide +kernel
theorem d_L_hasAll_5 : decode b_L_hasAll 5 = .ok (.lload_n 2, 1) := by decide +kernel
theorem d_L_hasAll_6 : decode b_L_hasAll 6 = .ok (.lload 4, 2) := by decide +kernel
theorem d_L_hasAll_8 : decode b_L_hasAll 8 = .ok (.iload 6, 2) := by decide +kernel
theorem d_L_hasAll_10 : decode b_L_hasAll 10 = .ok (.invokevirtual 38, 3) := by decide +kernel
theorem d_L_hasAll_13 : decode b_L_hasAll 13 = .ok (.i2l, 1) := by decide +kernel
theorem d_L_hasAll_14 : decode b_L_hasAll 14 = .ok (.lastore, 1) := by decide +kernel
theorem d_L_hasAll_15 : decode b_L_hasAll 15 = .ok (.goto 15, 3) := by decide +kernel
theorem d_L_hasAll_18 : decode b_L_hasAll 18 = .ok (.astore 8, 2) := by decide +kernel
theorem d_L_hasAll_20 : decode b_L_hasAll 20 = .ok (.iconst 1, 1) := by decide +kernel
theorem d_L_hasAll_21 : decode b_L_hasAll 21 = .ok (.ireturn, 1) := by decide +kernel
theorem d_L_hasAll_22 : decode b_L_hasAll 22 = .ok (.astore 8, 2) := by decide +kernel
theorem d_L_hasAll_24 : decode b_L_hasAll 24 = .ok (.iconst 2, 1) := by decide +kernel
theorem d_L_hasAll_25 : decode b_L_hasAll 25 = .ok (.ireturn, 1) := by decide +kernel
theorem d_L_hasAll_26 : decode b_L_hasAll 26 = .ok (.astore 8, 2) := by decide +kernel
theorem d_L_hasAll_28 : decode b_L_hasAll 28 = .ok (.iconst 3, 1) := by decide +kernel
theorem d_L_hasAll_29 : decode b_L_hasAll 29 = .ok (.ireturn, 1) := by decide +kernel
theorem d_L_hasAll_30 : decode b_L_hasAll 30 = .ok (.iconst 0, 1) := by decide +kernel
theorem d_L_hasAll_31 : decode b_L_hasAll 31 = .ok (.ireturn, 1) := by decide +kernel
theorem d_L_same_0 : decode b_L_same 0 = .ok (.aload 6, 2) := by decide +kernel
theorem d_L_same_2 : decode b_L_same 2 = .ok (.iconst 0, 1) := by decide +kernel
theorem d_L_same_3 : decode b_L_same 3 = .ok (.aload_n 0, 1) := by decide +kernel
theorem d_L_same_4 : decode b_L_same 4 = .ok (.iload_n 1, 1) := by decide +kernel
theorem d_L_same_5 : decode b_L_same 5 = .ok (.lload_n 2, 1) := by decide +kernel
theorem d_L_same_6 : decode b_L_same 6 = .ok (.lload 4, 2) := by decide +kernel
theorem d_L_same_8 : decode b_L_same 8 = .ok (.invokevirtual 41, 3) := by decide +kernel
theorem d_L_same_11 : decode b_L_same 11 = .ok (.ifCond .eq 7, 3) := by decide +kernel
theorem d_L_same_14 : decode b_L_same 14 = .ok (.lconst 1, 1) := by decide +kernel
theorem d_L_same_15 : decode b_L_same 15 = .ok (.goto 4, 3) := by decide +kernel
theorem d_L_same_18 : decode b_L_same 18 = .ok (.lconst 0, 1) := by decide +kernel
theorem d_L_same_19 : decode b_L_same 19 = .ok (.lastore, 1) := by decide +kernel
theorem d_L_same_20 : decode b_L_same 20 = .ok (.goto 11, 3) := by decide +kernel
theorem d_L_same_23 : decode b_L_same 23 = .ok (.astore 7, 2) := by decide +kernel
theorem d_L_same_25 : decode b_L_same 25 = .ok (.iconst 1, 1) := by decide +kernel
theorem d_L_same_26 : decode b_L_same 26 = .ok (.ireturn, 1) := by decide +kernel
theorem d_L_same_27 : decode b_L_same 27 = .ok (.astore 7, 2) := by decide +kernel
theorem d_L_same_29 : decode b_L_same 29 = .ok (.iconst 2, 1) := by decide +kernel
theorem d_L_same_30 : decode b_L_same 30 = .ok (.ireturn, 1) := by decide +kernel
theorem d_L_same_31 : decode b_L_same 31 = .ok (.iconst 0, 1) := by decide +kernel
theorem d_L_same_32 : decode b_L_same 32 = .ok (.ireturn, 1) := by decide +kernel
theorem d_L_count_0 : decode b_L_count 0 = .ok (.aload_n 3, 1) := by decide +kernel
theorem d_L_count_1 : decode b_L_count 1 = .ok (.iconst 0, 1) := by decide +kernel
theorem d_L_count_2 : decode b_L_count 2 = .ok (.aload_n 0, 1) := by decide +kernel
theorem d_L_count_3 : decode b_L_count 3 = .ok (.iload_n 1, 1) := by decide +kernel
theorem d_L_count_4 : decode b_L_count 4 = .ok (.iload_n 2, 1) := by decide +kernel
theorem d_L_count_5 : decode b_L_count 5 = .ok (.invokevirtual 45, 3) := by decide +kernel
theorem d_L_count_8 : decode b_L_count 8 = .ok (.i2l, 1) := by decide +kernel
theorem d_L_count_9 : decode b_L_count 9 = .ok (.lastore, 1) := by decide +kernel
theorem d_L_count_10 : decode b_L_count 10 = .ok (.goto 15, 3) := by decide +kernel
theorem d_L_count_13 : decode b_L_count 13 = .ok (.astore 4, 2) := by decide +kernel
theorem d_L_count_15 : decode b_L_count 15 = .ok (.iconst 1, 1) := by decide +kernel
theorem d_L_count_16 : decode b_L_count 16 = .ok (.ireturn, 1) := by decide +kernel
theorem d_L_count_17 : decode b_L_count 17 = .ok (.astore 4, 2) := by decide +kernel
theorem d_L_count_19 : decode b_L_count 19 = .ok (.iconst 2, 1) := by decide +kernel
theorem d_L_count_20 : decode b_L_count 20 = .ok (.ireturn, 1) := by decide +kernel
theorem d_L_count_21 : decode b_L_count 21 = .ok (.astore 4, 2) := by decide +kernel
theorem d_L_count_23 : decode b_L_count 23 = .ok (.iconst 3, 1) := by decide +kernel
theorem d_L_count_24 : decode b_L_count 24 = .ok (.ireturn, 1) := by decide +kernel
theorem d_L_count_25 : decode b_L_count 25 = .ok (.iconst 0, 1) := by decide +kernel
theorem d_L_count_26 : decode b_L_count 26 = .ok (.ireturn, 1) := by decide +kernel
theorem d_L_cell_0 : decode b_L_cell 0 = .ok (.aload_n 3, 1) := by decide +kernel
theorem d_L_cell_1 : decode b_L_cell 1 = .ok (.iconst 0, 1) := by decide +kernel
theorem d_L_cell_2 : decode b_L_cell 2 = .ok (.aload_n 0, 1) := by decide +kernel
theorem d_L_cell_3 : decode b_L_cell 3 = .ok (.iload_n 1, 1) := by decide +kernel
theorem d_L_cell_4 : decode b_L_cell 4 = .ok (.iload_n 2, 1) := by decide +kernel
theorem d_L_cell_5 : decode b_L_cell 5 = .ok (.invokevirtual 49, 3) := by decide +kernel
theorem d_L_cell_8 : decode b_L_cell 8 = .ok (.i2l, 1) := by decide +kernel
theorem d_L_cell_9 : decode b_L_cell 9 = .ok (.lastore, 1) := by decide +kernel
theorem d_L_cell_10 : decode b_L_cell 10 = .ok (.goto 11, 3) := by decide +kernel
theorem d_L_cell_13 : decode b_L_cell 13 = .ok (.astore 4, 2) := by decide +kernel
theorem d_L_cell_15 : decode b_L_cell 15 = .ok (.iconst 1, 1) := by decide +kernel
theorem d_L_cell_16 : decode b_L_cell 16 = .ok (.ireturn, 1) := by decide +kernel
theorem d_L_cell_17 : decode b_L_cell 17 = .ok (.astore 4, 2) := by decide +kernel
theorem d_L_cell_19 : decode b_L_cell 19 = .ok (.iconst 2, 1) := by decide +kernel
theorem d_L_cell_20 : decode b_L_cell 20 = .ok (.ireturn, 1) := by decide +kernel
theorem d_L_cell_21 : decode b_L_cell 21 = .ok (.iconst 0, 1) := by decide +kernel
theorem d_L_cell_22 : decode b_L_cell 22 = .ok (.ireturn, 1) := by decide +kernel
theorem d_L_merge_0 : decode b_L_merge 0 = .ok (.aload_n 3, 1) := by decide +kernel
theorem d_L_merge_1 : decode b_L_merge 1 = .ok (.iconst 0, 1) := by decide +kernel
theorem d_L_merge_2 : decode b_L_merge 2 = .ok (.aload_n 0, 1) := by decide +kernel
theorem d_L_merge_3 : decode b_L_merge 3 = .ok (.iload_n 1, 1) := by decide +kernel
theorem d_L_merge_4 : decode b_L_merge 4 = .ok (.iload_n 2, 1) := by decide +kernel
theorem d_L_merge_5 : decode b_L_merge 5 = .ok (.invokevirtual 52, 3) := by decide +kernel
theorem d_L_merge_8 : decode b_L_merge 8 = .ok (.i2l, 1) := by decide +kernel
theorem d_L_merge_9 : decode b_L_merge 9 = .ok (.lastore, 1) := by decide +kernel
theorem d_L_merge_10 : decode b_L_merge 10 = .ok (.goto 19, 3) := by decide +kernel
theorem d_L_merge_13 : decode b_L_merge 13 = .ok (.astore 4, 2) := by decide +kernel
theorem d_L_merge_15 : decode b_L_merge 15 = .ok (.iconst 1, 1) := by decide +kernel
theorem d_L_merge_16 : decode b_L_merge 16 = .ok (.ireturn, 1) := by decide +kernel
theorem d_L_merge_17 : decode b_L_merge 17 = .ok (.astore 4, 2) := by decide +kernel
theorem d_L_merge_19 : decode b_L_merge 19 = .ok (.iconst 2, 1) := by decide +kernel
theorem d_L_merge_20 : decode b_L_merge 20 = .ok (.ireturn, 1) := by decide +kernel
theorem d_L_merge_21 : decode b_L_merge 21 = .ok (.astore 4, 2) := by decide +kernel
theorem d_L_merge_23 : decode b_L_merge 23 = .ok (.iconst 3, 1) := by decide +kernel
theorem d_L_merge_24 : decode b_L_merge 24 = .ok (.ireturn, 1) := by decide +kernel
theorem d_L_merge_25 : decode b_L_merge 25 = .ok (.astore 4, 2) := by decide +kernel
theorem d_L_merge_27 : decode b_L_merge 27 = .ok (.iconst 4, 1) := by decide +kernel
theorem d_L_merge_28 : decode b_L_merge 28 = .ok (.ireturn, 1) := by decide +kernel
theorem d_L_merge_29 : decode b_L_merge 29 = .ok (.iconst 0, 1) := by decide +kernel
theorem d_L_merge_30 : decode b_L_merge 30 = .ok (.ireturn, 1) := by decide +kernel
theorem d_L_grow_0 : decode b_L_grow 0 = .ok (.aload_n 0, 1) := by decide +kernel
theorem d_L_grow_1 : decode b_L_grow 1 = .ok (.iload_n 1, 1) := by decide +kernel
theorem d_L_grow_2 : decode b_L_grow 2 = .ok (.invokevirtual 55, 3) := by decide +kernel
theorem d_L_grow_5 : decode b_L_grow 5 = .ok (.goto 12, 3) := by decide +kernel
theorem d_L_grow_8 : decode b_L_grow 8 = .ok (.astore_n 2, 1) := by decide +kernel
theorem d_L_grow_9 : decode b_L_grow 9 = .ok (.iconst 1, 1) := by decide +kernel
theorem d_L_grow_10 : decode b_L_grow 10 = .ok (.ireturn, 1) := by decide +kernel
theorem d_L_grow_11 : decode b_L_grow 11 = .ok (.astore_n 2, 1) := by decide +kernel
theorem d_L_grow_12 : decode b_L_grow 12 = .ok (.iconst 2, 1) := by decide +kernel
theorem d_L_grow_13 : decode b_L_grow 13 = .ok (.ireturn, 1) := by decide +kernel
theorem d_L_grow_14 : decode b_L_grow 14 = .ok (.astore_n 2, 1) := by decide +kernel
theorem d_L_grow_15 : decode b_L_grow 15 = .ok (.iconst 3, 1) := by decide +kernel
theorem d_L_grow_16 : decode b_L_grow 16 = .ok (.ireturn, 1) := by decide +kernel
theorem d_L_grow_17 : decode b_L_grow 17 = .ok (.iconst 0, 1) := by decide +kernel
theorem d_L_grow_18 : decode b_L_grow 18 = .ok (.ireturn, 1) := by decide +kernel
theorem d_L_clear_0 : decode b_L_clear 0 = .ok (.aload_n 2, 1) := by decide +kernel
theorem d_L_clear_1 : decode b_L_clear 1 = .ok (.iconst 0, 1) := by decide +kernel
theorem d_L_clear_2 : decode b_L_clear 2 = .ok (.aload_n 0, 1) := by decide +kernel
theorem d_L_clear_3 : decode b_L_clear 3 = .ok (.iload_n 1, 1) := by decide +kernel
theorem d_L_clear_4 : decode b_L_clear 4 = .ok (.invokevirtual 59, 3) := by decide +kernel
theorem d_L_clear_7 : decode b_L_clear 7 = .ok (.i2l, 1) := by decide +kernel
theorem d_L_clear_8 : decode b_L_clear 8 = .ok (.lastore, 1) := by decide +kernel
theorem d_L_clear_9 : decode b_L_clear 9 = .ok (.goto 9, 3) := by decide +kernel
theorem d_L_clear_12 : decode b_L_clear 12 = .ok (.astore_n 3, 1) := by decide +kernel
theorem d_L_clear_13 : decode b_L_clear 13 = .ok (.iconst 1, 1) := by decide +kernel
theorem d_L_clear_14 : decode b_L_clear 14 = .ok (.ireturn, 1) := by decide +kernel
theorem d_L_clear_15 : decode b_L_clear 15 = .ok (.astore_n 3, 1) := by decide +kernel
theorem d_L_clear_16 : decode b_L_clear 16 = .ok (.iconst 2, 1) := by decide +kernel
theorem d_L_clear_17 : decode b_L_clear 17 = .ok (.ireturn, 1) := by decide +kernel
theorem d_L_clear_18 : decode b_L_clear 18 = .ok (.iconst 0, 1) := by decide +kernel
theorem d_L_clear_19 : decode b_L_clear 19 = .ok (.ireturn, 1) := by decide +kernel
end
section
theorem d_M_init_0 : decode b_M_init 0 = .ok (.aload_n 0, 1) := by decide +kernel
theorem d_M_init_1 : decode b_M_init 1 = .ok (.invokespecial 1, 3) := by decide +kernel
theorem d_M_init_4 : decode b_M_init 4 = .ok (.aload_n 0, 1) := by decide +kernel
theorem d_M_init_5 : decode b_M_init 5 = .ok (.iconst 4, 1) := by decide +kernel
theorem d_M_init_6 : decode b_M_init 6 = .ok (.newarray .int, 2) := by decide +kernel
theorem d_M_init_8 : decode b_M_init 8 = .ok (.putfield 7, 3) := by decide +kernel
theorem d_M_init_11 : decode b_M_init 11 = .ok (.aload_n 0, 1) := by decide +kernel
theorem d_M_init_12 : decode b_M_init 12 = .ok (.iconst 4, 1) := by decide +kernel
theorem d_M_init_13 : decode b_M_init 13 = .ok (.newarray .int, 2) := by decide +kernel
theorem d_M_init_15 : decode b_M_init 15 = .ok (.putfield 13, 3) := by decide +kernel
theorem d_M_init_18 : decode b_M_init 18 = .ok (.aload_n 0, 1) := by decide +kernel
theorem d_M_init_19 : decode b_M_init 19 = .ok (.iconst 4, 1) := by decide +kernel
theorem d_M_init_20 : decode b_M_init 20 = .ok (.newarray .int, 2) := by decide +kernel
theorem d_M_init_22 : decode b_M_init 22 = .ok (.putfield 16, 3) := by decide +kernel
theorem d_M_init_25 : decode b_M_init 25 = .ok (.aload_n 0, 1) := by decide +kernel
theorem d_M_init_26 : decode b_M_init 26 = .ok (.iconst 4, 1) := by decide +kernel
theorem d_M_init_27 : decode b_M_init 27 = .ok (.newarray .int, 2) := by decide +kernel
theorem d_M_init_29 : decode b_M_init 29 = .ok (.putfield 19, 3) := by decide +kernel
theorem d_M_init_32 : decode b_M_init 32 = .ok (.aload_n 0, 1) := by decide +kernel
theorem d_M_init_33 : decode b_M_init 33 = .ok (.iconst 4, 1) := by decide +kernel
theorem d_M_init_34 : decode b_M_init 34 = .ok (.newarray .int, 2) := by decide +kernel
theorem d_M_init_36 : decode b_M_init 36 = .ok (.putfield 22, 3) := by decide +kernel
theorem d_M_init_39 : decode b_M_init 39 = .ok (.aload_n 0, 1) := by decide +kernel
theorem d_M_init_40 : decode b_M_init 40 = .ok (.sipush 4096, 3) := by decide +kernel
theorem d_M_init_43 : decode b_M_init 43 = .ok (.newarray .int, 2) := by decide +kernel
theorem d_M_init_45 : decode b_M_init 45 = .ok (.putfield 25, 3) := by decide +kernel
theorem d_M_init_48 : decode b_M_init 48 = .ok (.aload_n 0, 1) := by decide +kernel
theorem d_M_init_49 : decode b_M_init 49 = .ok (.sipush 1024, 3) := by decide +kernel
theorem d_M_init_52 : decode b_M_init 52 = .ok (.newarray .int, 2) := by decide +kernel
theorem d_M_init_54 : decode b_M_init 54 = .ok (.putfield 28, 3) := by decide +kernel
theorem d_M_init_57 : decode b_M_init 57 = .ok (.aload_n 0, 1) := by decide +kernel
theorem d_M_init_58 : decode b_M_init 58 = .ok (.sipush 1024, 3) := by decide +kernel
theorem d_M_init_61 : decode b_M_init 61 = .ok (.newarray .int, 2) := by decide +kernel
theorem d_M_init_63 : decode b_M_init 63 = .ok (.putfield 31, 3) := by decide +kernel
theorem d_M_init_66 : decode b_M_init 66 = .ok (.aload_n 0, 1) := by decide +kernel
theorem d_M_init_67 : decode b_M_init 67 = .ok (.sipush 256, 3) := by decide +kernel
theorem d_M_init_70 : decode b_M_init 70 = .ok (.newarray .int, 2) := by decide +kernel
theorem d_M_init_72 : decode b_M_init 72 = .ok (.putfield 34, 3) := by decide +kernel
theorem d_M_init_75 : decode b_M_init 75 = .ok (.aload_n 0, 1) := by decide +kernel
theorem d_M_init_76 : decode b_M_init 76 = .ok (.bipush 6, 2) := by decide +kernel
theorem d_M_init_78 : decode b_M_init 78 = .ok (.newarray .int, 2) := by decide +kernel
theorem d_M_init_80 : decode b_M_init 80 = .ok (.putfield 37, 3) := by decide +kernel
theorem d_M_init_83 : decode b_M_init 83 = .ok (.aload_n 0, 1) := by decide +kernel
theorem d_M_init_84 : decode b_M_init 84 = .ok (.bipush 6, 2) := by decide +kernel
theorem d_M_init_86 : decode b_M_init 86 = .ok (.newarray .int, 2) := by decide +kernel
theorem d_M_init_88 : decode b_M_init 88 = .ok (.putfield 40, 3) := by decide +kernel
theorem d_M_init_91 : decode b_M_init 91 = .ok (.return_, 1) := by decide +kernel
theorem d_M_thrown_0 : decode b_M_thrown 0 = .ok (.aload_n 0, 1) := by decide +kernel
theorem d_M_thrown_1 : decode b_M_thrown 1 = .ok (.getfield 43, 3) := by decide +kernel
theorem d_M_thrown_4 : decode b_M_thrown 4 = .ok (.ireturn, 1) := by decide +kernel
theorem d_M_mixed_0 : decode b_M_mixed 0 = .ok (.lload_n 0, 1) := by decide +kernel
theorem d_M_mixed_1 : decode b_M_mixed 1 = .ok (.lload_n 2, 1) := by decide +kernel
theorem d_M_mixed_2 : decode b_M_mixed 2 = .ok (.lconst 1, 1) := by decide +kernel
theorem d_M_mixed_3 : decode b_M_mixed 3 = .ok (.ladd, 1) := by decide +kernel
theorem d_M_mixed_4 : decode b_M_mixed 4 = .ok (.ldc2_w 47, 3) := by decide +kernel
theorem d_M_mixed_7 : decode b_M_mixed 7 = .ok (.lmul, 1) := by decide +kernel
theorem d_M_mixed_8 : decode b_M_mixed 8 = .ok (.ladd, 1) := by decide +kernel
theorem d_M_mixed_9 : decode b_M_mixed 9 = .ok (.lstore 4, 2) := by decide +kernel
theorem d_M_mixed_11 : decode b_M_mixed 11 = .ok (.lload 4, 2) := by decide +kernel
theorem d_M_mixed_13 : decode b_M_mixed 13 = .ok (.lload 4, 2) := by decide +kernel
theorem d_M_mixed_15 : decode b_M_mixed 15 = .ok (.bipush 30, 2) := by decide +kernel
theorem d_M_mixed_17 : decode b_M_mixed 17 = .ok (.lushr, 1) := by decide +kernel
theorem d_M_mixed_18 : decode b_M_mixed 18 = .ok (.lxor, 1) := by decide +kernel
theorem d_M_mixed_19 : decode b_M_mixed 19 = .ok (.ldc2_w 49, 3) := by decide +kernel
theorem d_M_mixed_22 : decode b_M_mixed 22 = .ok (.lmul, 1) := by decide +kernel
theorem d_M_mixed_23 : decode b_M_mixed 23 = .ok (.lstore 4, 2) := by decide +kernel
theorem d_M_mixed_25 : decode b_M_mixed 25 = .ok (.lload 4, 2) := by decide +kernel
theorem d_M_mixed_27 : decode b_M_mixed 27 = .ok (.lload 4, 2) := by decide +kernel
theorem d_M_mixed_29 : decode b_M_mixed 29 = .ok (.bipush 27, 2) := by decide +kernel
theorem d_M_mixed_31 : decode b_M_mixed 31 = .ok (.lushr, 1) := by decide +kernel
theorem d_M_mixed_32 : decode b_M_mixed 32 = .ok (.lxor, 1) := by decide +kernel
theorem d_M_mixed_33 : decode b_M_mixed 33 = .ok (.ldc2_w 51, 3) := by decide +kernel
theorem d_M_mixed_36 : decode b_M_mixed 36 = .ok (.lmul, 1) := by decide +kernel
theorem d_M_mixed_37 : decode b_M_mixed 37 = .ok (.lstore 4, 2) := by decide +kernel
theorem d_M_mixed_39 : decode b_M_mixed 39 = .ok (.lload 4, 2) := by decide +kernel
theorem d_M_mixed_41 : decode b_M_mixed 41 = .ok (.lload 4, 2) := by decide +kernel
theorem d_M_mixed_43 : decode b_M_mixed 43 = .ok (.bipush 31, 2) := by decide +kernel
theorem d_M_mixed_45 : decode b_M_mixed 45 = .ok (.lushr, 1) := by decide +kernel
theorem d_M_mixed_46 : decode b_M_mixed 46 = .ok (.lxor, 1) := by decide +kernel
theorem d_M_mixed_47 : decode b_M_mixed 47 = .ok (.lreturn, 1) := by decide +kernel
theorem d_M_mix_0 : decode b_M_mix 0 = .ok (.aload_n 0, 1) := by decide +kernel
theorem d_M_mix_1 : decode b_M_mix 1 = .ok (.iconst 0, 1) := by decide +kernel
theorem d_M_mix_2 : decode b_M_mix 2 = .ok (.putfield 43, 3) := by decide +kernel
theorem d_M_mix_5 : decode b_M_mix 5 = .ok (.lload_n 1, 1) := by decide +kernel
theorem d_M_mix_6 : decode b_M_mix 6 = .ok (.iload_n 3, 1) := by decide +kernel
theorem d_M_mix_7 : decode b_M_mix 7 = .ok (.i2l, 1) := by decide +kernel
theorem d_M_mix_8 : decode b_M_mix 8 = .ok (.invokestatic 53, 3) := by decide +kernel
theorem d_M_mix_11 : decode b_M_mix 11 = .ok (.lreturn, 1) := by decide +kernel
theorem d_M_lowest_0 : decode b_M_lowest 0 = .ok (.lload_n 0, 1) := by decide +kernel
theorem d_M_lowest_1 : decode b_M_lowest 1 = .ok (.lconst 1, 1) := by decide +kernel
theorem d_M_lowest_2 : decode b_M_lowest 2 = .ok (.iload_n 2, 1) := by decide +kernel
theorem d_M_lowest_3 : decode b_M_lowest 3 = .ok (.lshl, 1) := by decide +kernel
theorem d_M_lowest_4 : decode b_M_lowest 4 = .ok (.lconst 1, 1) := by decide +kernel
theorem d_M_lowest_5 : decode b_M_lowest 5 = .ok (.lsub, 1) := by decide +kernel
theorem d_M_lowest_6 : decode b_M_lowest 6 = .ok (.land, 1) := by decide +kernel
theorem d_M_lowest_7 : decode b_M_lowest 7 = .ok (.l2i, 1) := by decide +kernel
theorem d_M_lowest_8 : decode b_M_lowest 8 = .ok (.ireturn, 1) := by decide +kernel
theorem d_M_isNumber_0 : decode b_M_isNumber 0 = .ok (.iload_n 0, 1) := by decide +kernel
theorem d_M_isNumber_1 : decode b_M_isNumber 1 = .ok (.ifCond .lt 12, 3) := by decide +kernel
theorem d_M_isNumber_4 : decode b_M_isNumber 4 = .ok (.iload_n 0, 1) := by decide +kernel
theorem d_M_isNumber_5 : decode b_M_isNumber 5 = .ok (.iconst 4, 1) := by decide +kernel
theorem d_M_isNumber_6 : decode b_M_isNumber 6 = .ok (.if_icmp .ge 7, 3) := by decide +kernel
theorem d_M_isNumber_9 : decode b_M_isNumber 9 = .ok (.iconst 1, 1) := by decide +kernel
theorem d_M_isNumber_10 : decode b_M_isNumber 10 = .ok (.goto 4, 3) := by decide +kernel
theorem d_M_isNumber_13 : decode b_M_isNumber 13 = .ok (.iconst 0, 1) := by decide +kernel
theorem d_M_isNumber_14 : decode b_M_isNumber 14 = .ok (.ireturn, 1) := by decide +kernel
theorem d_M_wrong_0 : decode b_M_wrong 0 = .ok (.iload_n 1, 1) := by decide +kernel
theorem d_M_wrong_1 : decode b_M_wrong 1 = .ok (.invokestatic 57, 3) := by decide +kernel
theorem d_M_wrong_4 : decode b_M_wrong 4 = .ok (.ifCond .ne 7, 3) := by decide +kernel
theorem d_M_wrong_7 : decode b_M_wrong 7 = .ok (.iconst 1, 1) := by decide +kernel
theorem d_M_wrong_8 : decode b_M_wrong 8 = .ok (.goto 17, 3) := by decide +kernel
theorem d_M_wrong_11 : decode b_M_wrong 11 = .ok (.aload_n 0, 1) := by decide +kernel
theorem d_M_wrong_12 : decode b_M_wrong 12 = .ok (.getfield 7, 3) := by decide +kernel
theorem d_M_wrong_15 : decode b_M_wrong 15 = .ok (.iload_n 1, 1) := by decide +kernel
theorem d_M_wrong_16 : decode b_M_wrong 16 = .ok (.iaload, 1) := by decide +kernel
theorem d_M_wrong_17 : decode b_M_wrong 17 = .ok (.ifCond .ne 7, 3) := by decide +kernel
theorem d_M_wrong_20 : decode b_M_wrong 20 = .ok (.iconst 2, 1) := by decide +kernel
theorem d_M_wrong_21 : decode b_M_wrong 21 = .ok (.goto 4, 3) := by decide +kernel
theorem d_M_wrong_24 : decode b_M_wrong 24 = .ok (.iconst 0, 1) := by decide +kernel
theorem d_M_wrong_25 : decode b_M_wrong 25 = .ok (.ireturn, 1) := by decide +kernel
theorem d_M_fingerprint_0 : decode b_M_fingerprint 0 = .ok (.lload_n 2, 1) := by decide +kernel
theorem d_M_fingerprint_1 : decode b_M_fingerprint 1 = .ok (.lconst 0, 1) := by decide +kernel
theorem d_M_fingerprint_2 : decode b_M_fingerprint 2 = .ok (.invokestatic 53, 3) := by decide +kernel
theorem d_M_fingerprint_5 : decode b_M_fingerprint 5 = .ok (.bipush 64, 2) := by decide +kernel
theorem d_M_fingerprint_7 : decode b_M_fingerprint 7 = .ok (.aload_n 0, 1) := by decide +kernel
theorem d_M_fingerprint_8 : decode b_M_fingerprint 8 = .ok (.getfield 16, 3) := by decide +kernel
theorem d_M_fingerprint_11 : decode b_M_fingerprint 11 = .ok (.iload_n 1, 1) := by decide +kernel
theorem d_M_fingerprint_12 : decode b_M_fingerprint 12 = .ok (.iaload, 1) := by decide +kernel
theorem d_M_fingerprint_13 : decode b_M_fingerprint 13 = .ok (.isub, 1) := by decide +kernel
theorem d_M_fingerprint_14 : decode b_M_fingerprint 14 = .ok (.lushr, 1) := by decide +kernel
theorem d_M_fingerprint_15 : decode b_M_fingerprint 15 = .ok (.l2i, 1) := by decide +kernel
theorem d_M_fingerprint_16 : decode b_M_fingerprint 16 = .ok (.istore 4, 2) := by decide +kernel
theorem d_M_fingerprint_18 : decode b_M_fingerprint 18 = .ok (.iload 4, 2) := by decide +kernel
theorem d_M_fingerprint_20 : decode b_M_fingerprint 20 = .ok (.ifCond .ne 7, 3) := by decide +kernel
theorem d_M_fingerprint_23 : decode b_M_fingerprint 23 = .ok (.iconst 1, 1) := by decide +kernel
theorem d_M_fingerprint_24 : decode b_M_fingerprint 24 = .ok (.goto 5, 3) := by decide +kernel
theorem d_M_fingerprint_27 : decode b_M_fingerprint 27 = .ok (.iload 4, 2) := by decide +kernel
theorem d_M_fingerprint_29 : decode b_M_fingerprint 29 = .ok (.ireturn, 1) := by decide +kernel
theorem d_M_firstBucket_0 : decode b_M_firstBucket 0 = .ok (.lload_n 2, 1) := by decide +kernel
theorem d_M_firstBucket_1 : decode b_M_firstBucket 1 = .ok (.lconst 1, 1) := by decide +kernel
theorem d_M_firstBucket_2 : decode b_M_firstBucket 2 = .ok (.invokestatic 53, 3) := by decide +kernel
theorem d_M_firstBucket_5 : decode b_M_firstBucket 5 = .ok (.aload_n 0, 1) := by decide +kernel
theorem d_M_firstBucket_6 : decode b_M_firstBucket 6 = .ok (.getfield 13, 3) := by decide +kernel
theorem d_M_firstBucket_9 : decode b_M_firstBucket 9 = .ok (.iload_n 1, 1) := by decide +kernel
theorem d_M_firstBucket_10 : decode b_M_firstBucket 10 = .ok (.iaload, 1) := by decide +kernel
theorem d_M_firstBucket_11 : decode b_M_firstBucket 11 = .ok (.invokestatic 61, 3) := by decide +kernel
theorem d_M_firstBucket_14 : decode b_M_firstBucket 14 = .ok (.ireturn, 1) := by decide +kernel
theorem d_M_otherBucket_0 : decode b_M_otherBucket 0 = .ok (.iload_n 3, 1) := by decide +kernel
theorem d_M_otherBucket_1 : decode b_M_otherBucket 1 = .ok (.iload_n 2, 1) := by decide +kernel
theorem d_M_otherBucket_2 : decode b_M_otherBucket 2 = .ok (.i2l, 1) := by decide +kernel
theorem d_M_otherBucket_3 : decode b_M_otherBucket 3 = .ok (.ldc2_w 65, 3) := by decide +kernel
theorem d_M_otherBucket_6 : decode b_M_otherBucket 6 = .ok (.invokestatic 53, 3) := by decide +kernel
theorem d_M_otherBucket_9 : decode b_M_otherBucket 9 = .ok (.aload_n 0, 1) := by decide +kernel
theorem d_M_otherBucket_10 : decode b_M_otherBucket 10 = .ok (.getfield 13, 3) := by decide +kernel
theorem d_M_otherBucket_13 : decode b_M_otherBucket 13 = .ok (.iload_n 1, 1) := by decide +kernel
theorem d_M_otherBucket_14 : decode b_M_otherBucket 14 = .ok (.iaload, 1) := by decide +kernel
theorem d_M_otherBucket_15 : decode b_M_otherBucket 15 = .ok (.invokestatic 61, 3) := by decide +kernel
theorem d_M_otherBucket_18 : decode b_M_otherBucket 18 = .ok (.ixor, 1) := by decide +kernel
theorem d_M_otherBucket_19 : decode b_M_otherBucket 19 = .ok (.ireturn, 1) := by decide +kernel
theorem d_M_pair_0 : decode b_M_pair 0 = .ok (.lload_n 2, 1) := by decide +kernel
theorem d_M_pair_1 : decode b_M_pair 1 = .ok (.lconst 0, 1) := by decide +kernel
theorem d_M_pair_2 : decode b_M_pair 2 = .ok (.invokestatic 53, 3) := by decide +kernel
theorem d_M_pair_5 : decode b_M_pair 5 = .ok (.lstore 4, 2) := by decide +kernel
theorem d_M_pair_7 : decode b_M_pair 7 = .ok (.lload 4, 2) := by decide +kernel
theorem d_M_pair_9 : decode b_M_pair 9 = .ok (.bipush 64, 2) := by decide +kernel
theorem d_M_pair_11 : decode b_M_pair 11 = .ok (.aload_n 0, 1) := by decide +kernel
theorem d_M_pair_12 : decode b_M_pair 12 = .ok (.getfield 13, 3) := by decide +kernel
theorem d_M_pair_15 : decode b_M_pair 15 = .ok (.iload_n 1, 1) := by decide +kernel
theorem d_M_pair_16 : decode b_M_pair 16 = .ok (.iaload, 1) := by decide +kernel
theorem d_M_pair_17 : decode b_M_pair 17 = .ok (.isub, 1) := by decide +kernel
theorem d_M_pair_18 : decode b_M_pair 18 = .ok (.lushr, 1) := by decide +kernel
theorem d_M_pair_19 : decode b_M_pair 19 = .ok (.l2i, 1) := by decide +kernel
theorem d_M_pair_20 : decode b_M_pair 20 = .ok (.istore 6, 2) := by decide +kernel
theorem d_M_pair_22 : decode b_M_pair 22 = .ok (.lload 4, 2) := by decide +kernel
theorem d_M_pair_24 : decode b_M_pair 24 = .ok (.aload_n 0, 1) := by decide +kernel
theorem d_M_pair_25 : decode b_M_pair 25 = .ok (.getfield 13, 3) := by decide +kernel
theorem d_M_pair_28 : decode b_M_pair 28 = .ok (.iload_n 1, 1) := by decide +kernel
theorem d_M_pair_29 : decode b_M_pair 29 = .ok (.iaload, 1) := by decide +kernel
theorem d_M_pair_30 : decode b_M_pair 30 = .ok (.lshl, 1) := by decide +kernel
theorem d_M_pair_31 : decode b_M_pair 31 = .ok (.bipush 64, 2) := by decide +kernel
theorem d_M_pair_33 : decode b_M_pair 33 = .ok (.aload_n 0, 1) := by decide +kernel
theorem d_M_pair_34 : decode b_M_pair 34 = .ok (.getfield 16, 3) := by decide +kernel
theorem d_M_pair_37 : decode b_M_pair 37 = .ok (.iload_n 1, 1) := by decide +kernel
theorem d_M_pair_38 : decode b_M_pair 38 = .ok (.iaload, 1) := by decide +kernel
theorem d_M_pair_39 : decode b_M_pair 39 = .ok (.isub, 1) := by decide +kernel
theorem d_M_pair_40 : decode b_M_pair 40 = .ok (.lushr, 1) := by decide +kernel
theorem d_M_pair_41 : decode b_M_pair 41 = .ok (.l2i, 1) := by decide +kernel
theorem d_M_pair_42 : decode b_M_pair 42 = .ok (.istore 7, 2) := by decide +kernel
theorem d_M_pair_44 : decode b_M_pair 44 = .ok (.iload 6, 2) := by decide +kernel
theorem d_M_pair_46 : decode b_M_pair 46 = .ok (.bipush 20, 2) := by decide +kernel
theorem d_M_pair_48 : decode b_M_pair 48 = .ok (.ishl, 1) := by decide +kernel
theorem d_M_pair_49 : decode b_M_pair 49 = .ok (.iload 7, 2) := by decide +kernel
theorem d_M_pair_51 : decode b_M_pair 51 = .ok (.ior, 1) := by decide +kernel
theorem d_M_pair_52 : decode b_M_pair 52 = .ok (.ireturn, 1) := by decide +kernel
theorem d_M_findPlaces_0 : decode b_M_findPlaces 0 = .ok (.iconst 0, 1) := by decide +kernel
theorem d_M_findPlaces_1 : decode b_M_findPlaces 1 = .ok (.istore 5, 2) := by decide +kernel
theorem d_M_findPlaces_3 : decode b_M_findPlaces 3 = .ok (.iload 5, 2) := by decide +kernel
theorem d_M_findPlaces_5 : decode b_M_findPlaces 5 = .ok (.aload_n 0, 1) := by decide +kernel
theorem d_M_findPlaces_6 : decode b_M_findPlaces 6 = .ok (.getfield 16, 3) := by decide +kernel
theorem d_M_findPlaces_9 : decode b_M_findPlaces 9 = .ok (.iload_n 1, 1) := by decide +kernel
theorem d_M_findPlaces_10 : decode b_M_findPlaces 10 = .ok (.iaload, 1) := by decide +kernel
theorem d_M_findPlaces_11 : decode b_M_findPlaces 11 = .ok (.if_icmp .ge 30, 3) := by decide +kernel
theorem d_M_findPlaces_14 : decode b_M_findPlaces 14 = .ok (.aload 4, 2) := by decide +kernel
theorem d_M_findPlaces_16 : decode b_M_findPlaces 16 = .ok (.iload 5, 2) := by decide +kernel
theorem d_M_findPlaces_18 : decode b_M_findPlaces 18 = .ok (.lload_n 2, 1) := by decide +kernel
theorem d_M_findPlaces_19 : decode b_M_findPlaces 19 = .ok (.iload 5, 2) := by decide +kernel
theorem d_M_findPlaces_21 : decode b_M_findPlaces 21 = .ok (.i2l, 1) := by decide +kernel
theorem d_M_findPlaces_22 : decode b_M_findPlaces 22 = .ok (.invokestatic 53, 3) := by decide +kernel
theorem d_M_findPlaces_25 : decode b_M_findPlaces 25 = .ok (.aload_n 0, 1) := by decide +kernel
theorem d_M_findPlaces_26 : decode b_M_findPlaces 26 = .ok (.getfield 13, 3) := by decide +kernel
theorem d_M_findPlaces_29 : decode b_M_findPlaces 29 = .ok (.iload_n 1, 1) := by decide +kernel
theorem d_M_findPlaces_30 : decode b_M_findPlaces 30 = .ok (.iaload, 1) := by decide +kernel
theorem d_M_findPlaces_31 : decode b_M_findPlaces 31 = .ok (.invokestatic 61, 3) := by decide +kernel
theorem d_M_findPlaces_34 : decode b_M_findPlaces 34 = .ok (.iastore, 1) := by decide +kernel
theorem d_M_findPlaces_35 : decode b_M_findPlaces 35 = .ok (.iinc 5 1, 3) := by decide +kernel
theorem d_M_findPlaces_38 : decode b_M_findPlaces 38 = .ok (.goto (-35), 3) := by decide +kernel
theorem d_M_findPlaces_41 : decode b_M_findPlaces 41 = .ok (.return_, 1) := by decide +kernel
theorem d_M_howOften_0 : decode b_M_howOften 0 = .ok (.iconst 0, 1) := by decide +kernel
theorem d_M_howOften_1 : decode b_M_howOften 1 = .ok (.istore_n 3, 1) := by decide +kernel
theorem d_M_howOften_2 : decode b_M_howOften 2 = .ok (.iconst 0, 1) := by decide +kernel
theorem d_M_howOften_3 : decode b_M_howOften 3 = .ok (.istore 4, 2) := by decide +kernel
theorem d_M_howOften_5 : decode b_M_howOften 5 = .ok (.iload 4, 2) := by decide +kernel
theorem d_M_howOften_7 : decode b_M_howOften 7 = .ok (.iload_n 1, 1) := by decide +kernel
theorem d_M_howOften_8 : decode b_M_howOften 8 = .ok (.if_icmp .ge 25, 3) := by decide +kernel
theorem d_M_howOften_11 : decode b_M_howOften 11 = .ok (.aload_n 0, 1) := by decide +kernel
theorem d_M_howOften_12 : decode b_M_howOften 12 = .ok (.iload 4, 2) := by decide +kernel
theorem d_M_howOften_14 : decode b_M_howOften 14 = .ok (.iaload, 1) := by decide +kernel
theorem d_M_howOften_15 : decode b_M_howOften 15 = .ok (.iload_n 2, 1) := by decide +kernel
theorem d_M_howOften_16 : decode b_M_howOften 16 = .ok (.if_icmp .ne 9, 3) := by decide +kernel
theorem d_M_howOften_19 : decode b_M_howOften 19 = .ok (.iload_n 3, 1) := by decide +kernel
theorem d_M_howOften_20 : decode b_M_howOften 20 = .ok (.iconst 1, 1) := by decide +kernel
theorem d_M_howOften_21 : decode b_M_howOften 21 = .ok (.iadd, 1) := by decide +kernel
theorem d_M_howOften_22 : decode b_M_howOften 22 = .ok (.goto 4, 3) := by decide +kernel
theorem d_M_howOften_25 : decode b_M_howOften 25 = .ok (.iload_n 3, 1) := by decide +kernel
theorem d_M_howOften_26 : decode b_M_howOften 26 = .ok (.istore_n 3, 1) := by decide +kernel
theorem d_M_howOften_27 : decode b_M_howOften 27 = .ok (.iinc 4 1, 3) := by decide +kernel
theorem d_M_howOften_30 : decode b_M_howOften 30 = .ok (.goto (-25), 3) := by decide +kernel
theorem d_M_howOften_33 : decode b_M_howOften 33 = .ok (.iload_n 3, 1) := by decide +kernel
theorem d_M_howOften_34 : decode b_M_howOften 34 = .ok (.ireturn, 1) := by decide +kernel
theorem d_M_slotWith_0 : decode b_M_slotWith 0 = .ok (.iconst 0, 1) := by decide +kernel
theorem d_M_slotWith_1 : decode b_M_slotWith 1 = .ok (.istore 5, 2) := by decide +kernel
theorem d_M_slotWith_3 : decode b_M_slotWith 3 = .ok (.iload 5, 2) := by decide +kernel
theorem d_M_slotWith_5 : decode b_M_slotWith 5 = .ok (.iconst 4, 1) := by decide +kernel
theorem d_M_slotWith_6 : decode b_M_slotWith 6 = .ok (.if_icmp .ge 33, 3) := by decide +kernel
theorem d_M_slotWith_9 : decode b_M_slotWith 9 = .ok (.aload_n 1, 1) := by decide +kernel
theorem d_M_slotWith_10 : decode b_M_slotWith 10 = .ok (.iload_n 2, 1) := by decide +kernel
theorem d_M_slotWith_11 : decode b_M_slotWith 11 = .ok (.iconst 4, 1) := by decide +kernel
theorem d_M_slotWith_12 : decode b_M_slotWith 12 = .ok (.iload_n 3, 1) := by decide +kernel
theorem d_M_slotWith_13 : decode b_M_slotWith 13 = .ok (.imul, 1) := by decide +kernel
theorem d_M_slotWith_14 : decode b_M_slotWith 14 = .ok (.iadd, 1) := by decide +kernel
theorem d_M_slotWith_15 : decode b_M_slotWith 15 = .ok (.iload 5, 2) := by decide +kernel
theorem d_M_slotWith_17 : decode b_M_slotWith 17 = .ok (.iadd, 1) := by decide +kernel
theorem d_M_slotWith_18 : decode b_M_slotWith 18 = .ok (.iaload, 1) := by decide +kernel
theorem d_M_slotWith_19 : decode b_M_slotWith 19 = .ok (.iload 4, 2) := by decide +kernel
theorem d_M_slotWith_21 : decode b_M_slotWith 21 = .ok (.if_icmp .ne 12, 3) := by decide +kernel
theorem d_M_slotWith_24 : decode b_M_slotWith 24 = .ok (.iload_n 2, 1) := by decide +kernel
theorem d_M_slotWith_25 : decode b_M_slotWith 25 = .ok (.iconst 4, 1) := by decide +kernel
theorem d_M_slotWith_26 : decode b_M_slotWith 26 = .ok (.iload_n 3, 1) := by decide +kernel
theorem d_M_slotWith_27 : decode b_M_slotWith 27 = .ok (.imul, 1) := by decide +kernel
theorem d_M_slotWith_28 : decode b_M_slotWith 28 = .ok (.iadd, 1) := by decide +kernel
theorem d_M_slotWith_29 : decode b_M_slotWith 29 = .ok (.iload 5, 2) := by decide +kernel
theorem d_M_slotWith_31 : decode b_M_slotWith 31 = .ok (.iadd, 1) := by decide +kernel
theorem d_M_slotWith_32 : decode b_M_slotWith 32 = .ok (.ireturn, 1) := by decide +kernel
theorem d_M_slotWith_33 : decode b_M_slotWith 33 = .ok (.iinc 5 1, 3) := by decide +kernel
theorem d_M_slotWith_36 : decode b_M_slotWith 36 = .ok (.goto (-33), 3) := by decide +kernel
theorem d_M_slotWith_39 : decode b_M_slotWith 39 = .ok (.iconst (-1), 1) := by decide +kernel
theorem d_M_slotWith_40 : decode b_M_slotWith 40 = .ok (.ireturn, 1) := by decide +kernel
theorem d_M_isThere_0 : decode b_M_isThere 0 = .ok (.sipush 1024, 3) := by decide +kernel
theorem d_M_isThere_3 : decode b_M_isThere 3 = .ok (.iload_n 1, 1) := by decide +kernel
theorem d_M_isThere_4 : decode b_M_isThere 4 = .ok (.imul, 1) := by decide +kernel
theorem d_M_isThere_5 : decode b_M_isThere 5 = .ok (.istore 4, 2) := by decide +kernel
theorem d_M_isThere_7 : decode b_M_isThere 7 = .ok (.aload_n 0, 1) := by decide +kernel
theorem d_M_isThere_8 : decode b_M_isThere 8 = .ok (.getfield 7, 3) := by decide +kernel
theorem d_M_isThere_11 : decode b_M_isThere 11 = .ok (.iload_n 1, 1) := by decide +kernel
theorem d_M_isThere_12 : decode b_M_isThere 12 = .ok (.iaload, 1) := by decide +kernel
theorem d_M_isThere_13 : decode b_M_isThere 13 = .ok (.iconst 1, 1) := by decide +kernel
theorem d_M_isThere_14 : decode b_M_isThere 14 = .ok (.if_icmp .ne 68, 3) := by decide +kernel
theorem d_M_isThere_17 : decode b_M_isThere 17 = .ok (.iconst 1, 1) := by decide +kernel
theorem d_M_isThere_18 : decode b_M_isThere 18 = .ok (.istore 5, 2) := by decide +kernel
theorem d_M_isThere_20 : decode b_M_isThere 20 = .ok (.iconst 0, 1) := by decide +kernel
theorem d_M_isThere_21 : decode b_M_isThere 21 = .ok (.istore 6, 2) := by decide +kernel
theorem d_M_isThere_23 : decode b_M_isThere 23 = .ok (.iload 6, 2) := by decide +kernel
theorem d_M_isThere_25 : decode b_M_isThere 25 = .ok (.aload_n 0, 1) := by decide +kernel
theorem d_M_isThere_26 : decode b_M_isThere 26 = .ok (.getfield 16, 3) := by decide +kernel
theorem d_M_isThere_29 : decode b_M_isThere 29 = .ok (.iload_n 1, 1) := by decide +kernel
theorem d_M_isThere_30 : decode b_M_isThere 30 = .ok (.iaload, 1) := by decide +kernel
theorem d_M_isThere_31 : decode b_M_isThere 31 = .ok (.if_icmp .ge 48, 3) := by decide +kernel
theorem d_M_isThere_34 : decode b_M_isThere 34 = .ok (.iload 5, 2) := by decide +kernel
theorem d_M_isThere_36 : decode b_M_isThere 36 = .ok (.ifCond .eq 34, 3) := by decide +kernel
theorem d_M_isThere_39 : decode b_M_isThere 39 = .ok (.aload_n 0, 1) := by decide +kernel
theorem d_M_isThere_40 : decode b_M_isThere 40 = .ok (.getfield 25, 3) := by decide +kernel
theorem d_M_isThere_43 : decode b_M_isThere 43 = .ok (.iload 4, 2) := by decide +kernel
theorem d_M_isThere_45 : decode b_M_isThere 45 = .ok (.lload_n 2, 1) := by decide +kernel
theorem d_M_isThere_46 : decode b_M_isThere 46 = .ok (.iload 6, 2) := by decide +kernel
theorem d_M_isThere_48 : decode b_M_isThere 48 = .ok (.i2l, 1) := by decide +kernel
theorem d_M_isThere_49 : decode b_M_isThere 49 = .ok (.invokestatic 53, 3) := by decide +kernel
theorem d_M_isThere_52 : decode b_M_isThere 52 = .ok (.aload_n 0, 1) := by decide +kernel
theorem d_M_isThere_53 : decode b_M_isThere 53 = .ok (.getfield 13, 3) := by decide +kernel
theorem d_M_isThere_56 : decode b_M_isThere 56 = .ok (.iload_n 1, 1) := by decide +kernel
theorem d_M_isThere_57 : decode b_M_isThere 57 = .ok (.iaload, 1) := by decide +kernel
theorem d_M_isThere_58 : decode b_M_isThere 58 = .ok (.invokestatic 61, 3) := by decide +kernel
theorem d_M_isThere_61 : decode b_M_isThere 61 = .ok (.iadd, 1) := by decide +kernel
theorem d_M_isThere_62 : decode b_M_isThere 62 = .ok (.iaload, 1) := by decide +kernel
theorem d_M_isThere_63 : decode b_M_isThere 63 = .ok (.ifCond .le 7, 3) := by decide +kernel
theorem d_M_isThere_66 : decode b_M_isThere 66 = .ok (.iconst 1, 1) := by decide +kernel
theorem d_M_isThere_67 : decode b_M_isThere 67 = .ok (.goto 4, 3) := by decide +kernel
theorem d_M_isThere_70 : decode b_M_isThere 70 = .ok (.iconst 0, 1) := by decide +kernel
theorem d_M_isThere_71 : decode b_M_isThere 71 = .ok (.istore 5, 2) := by decide +kernel
theorem d_M_isThere_73 : decode b_M_isThere 73 = .ok (.iinc 6 1, 3) := by decide +kernel
theorem d_M_isThere_76 : decode b_M_isThere 76 = .ok (.goto (-53), 3) := by decide +kernel
theorem d_M_isThere_79 : decode b_M_isThere 79 = .ok (.iload 5, 2) := by decide +kernel
theorem d_M_isThere_81 : decode b_M_isThere 81 = .ok (.ireturn, 1) := by decide +kernel
theorem d_M_isThere_82 : decode b_M_isThere 82 = .ok (.aload_n 0, 1) := by decide +kernel
theorem d_M_isThere_83 : decode b_M_isThere 83 = .ok (.getfield 7, 3) := by decide +kernel
theorem d_M_isThere_86 : decode b_M_isThere 86 = .ok (.iload_n 1, 1) := by decide +kernel
theorem d_M_isThere_87 : decode b_M_isThere 87 = .ok (.iaload, 1) := by decide +kernel
theorem d_M_isThere_88 : decode b_M_isThere 88 = .ok (.iconst 2, 1) := by decide +kernel
theorem d_M_isThere_89 : decode b_M_isThere 89 = .ok (.if_icmp .ne 66, 3) := by decide +kernel
theorem d_M_isThere_92 : decode b_M_isThere 92 = .ok (.aload_n 0, 1) := by decide +kernel
theorem d_M_isThere_93 : decode b_M_isThere 93 = .ok (.iload_n 1, 1) := by decide +kernel
theorem d_M_isThere_94 : decode b_M_isThere 94 = .ok (.lload_n 2, 1) := by decide +kernel
theorem d_M_isThere_95 : decode b_M_isThere 95 = .ok (.invokevirtual 67, 3) := by decide +kernel
theorem d_M_isThere_98 : decode b_M_isThere 98 = .ok (.istore 5, 2) := by decide +kernel
theorem d_M_isThere_100 : decode b_M_isThere 100 = .ok (.aload_n 0, 1) := by decide +kernel
theorem d_M_isThere_101 : decode b_M_isThere 101 = .ok (.iload_n 1, 1) := by decide +kernel
theorem d_M_isThere_102 : decode b_M_isThere 102 = .ok (.lload_n 2, 1) := by decide +kernel
theorem d_M_isThere_103 : decode b_M_isThere 103 = .ok (.invokevirtual 71, 3) := by decide +kernel
theorem d_M_isThere_106 : decode b_M_isThere 106 = .ok (.istore 6, 2) := by decide +kernel
theorem d_M_isThere_108 : decode b_M_isThere 108 = .ok (.aload_n 0, 1) := by decide +kernel
theorem d_M_isThere_109 : decode b_M_isThere 109 = .ok (.aload_n 0, 1) := by decide +kernel
theorem d_M_isThere_110 : decode b_M_isThere 110 = .ok (.getfield 25, 3) := by decide +kernel
theorem d_M_isThere_113 : decode b_M_isThere 113 = .ok (.iload 4, 2) := by decide +kernel
theorem d_M_isThere_115 : decode b_M_isThere 115 = .ok (.iload 6, 2) := by decide +kernel
theorem d_M_isThere_117 : decode b_M_isThere 117 = .ok (.iload 5, 2) := by decide +kernel
theorem d_M_isThere_119 : decode b_M_isThere 119 = .ok (.invokevirtual 74, 3) := by decide +kernel
theorem d_M_isThere_122 : decode b_M_isThere 122 = .ok (.ifCond .ge 27, 3) := by decide +kernel
theorem d_M_isThere_125 : decode b_M_isThere 125 = .ok (.aload_n 0, 1) := by decide +kernel
theorem d_M_isThere_126 : decode b_M_isThere 126 = .ok (.aload_n 0, 1) := by decide +kernel
theorem d_M_isThere_127 : decode b_M_isThere 127 = .ok (.getfield 25, 3) := by decide +kernel
theorem d_M_isThere_130 : decode b_M_isThere 130 = .ok (.iload 4, 2) := by decide +kernel
theorem d_M_isThere_132 : decode b_M_isThere 132 = .ok (.aload_n 0, 1) := by decide +kernel
theorem d_M_isThere_133 : decode b_M_isThere 133 = .ok (.iload_n 1, 1) := by decide +kernel
theorem d_M_isThere_134 : decode b_M_isThere 134 = .ok (.iload 5, 2) := by decide +kernel
theorem d_M_isThere_136 : decode b_M_isThere 136 = .ok (.iload 6, 2) := by decide +kernel
theorem d_M_isThere_138 : decode b_M_isThere 138 = .ok (.invokevirtual 78, 3) := by decide +kernel
theorem d_M_isThere_141 : decode b_M_isThere 141 = .ok (.iload 5, 2) := by decide +kernel
theorem d_M_isThere_143 : decode b_M_isThere 143 = .ok (.invokevirtual 74, 3) := by decide +kernel
theorem d_M_isThere_146 : decode b_M_isThere 146 = .ok (.ifCond .lt 7, 3) := by decide +kernel
theorem d_M_isThere_149 : decode b_M_isThere 149 = .ok (.iconst 1, 1) := by decide +kernel
theorem d_M_isThere_150 : decode b_M_isThere 150 = .ok (.goto 4, 3) := by decide +kernel
theorem d_M_isThere_153 : decode b_M_isThere 153 = .ok (.iconst 0, 1) := by decide +kernel
theorem d_M_isThere_154 : decode b_M_isThere 154 = .ok (.ireturn, 1) := by decide +kernel
theorem d_M_isThere_155 : decode b_M_isThere 155 = .ok (.aload_n 0, 1) := by decide +kernel
theorem d_M_isThere_156 : decode b_M_isThere 156 = .ok (.iload_n 1, 1) := by decide +kernel
theorem d_M_isThere_157 : decode b_M_isThere 157 = .ok (.aload_n 0, 1) := by decide +kernel
theorem d_M_isThere_158 : decode b_M_isThere 158 = .ok (.iload_n 1, 1) := by decide +kernel
theorem d_M_isThere_159 : decode b_M_isThere 159 = .ok (.lload_n 2, 1) := by decide +kernel
theorem d_M_isThere_160 : decode b_M_isThere 160 = .ok (.invokevirtual 82, 3) := by decide +kernel
theorem d_M_isThere_163 : decode b_M_isThere 163 = .ok (.invokevirtual 85, 3) := by decide +kernel
theorem d_M_isThere_166 : decode b_M_isThere 166 = .ok (.ifCond .lt 7, 3) := by decide +kernel
theorem d_M_isThere_169 : decode b_M_isThere 169 = .ok (.iconst 1, 1) := by decide +kernel
theorem d_M_isThere_170 : decode b_M_isThere 170 = .ok (.goto 4, 3) := by decide +kernel
theorem d_M_isThere_173 : decode b_M_isThere 173 = .ok (.iconst 0, 1) := by decide +kernel
theorem d_M_isThere_174 : decode b_M_isThere 174 = .ok (.ireturn, 1) := by decide +kernel
theorem d_M_findPair_0 : decode b_M_findPair 0 = .ok (.iconst 0, 1) := by decide +kernel
theorem d_M_findPair_1 : decode b_M_findPair 1 = .ok (.istore_n 3, 1) := by decide +kernel
theorem d_M_findPair_2 : decode b_M_findPair 2 = .ok (.iload_n 3, 1) := by decide +kernel
theorem d_M_findPair_3 : decode b_M_findPair 3 = .ok (.aload_n 0, 1) := by decide +kernel
theorem d_M_findPair_4 : decode b_M_findPair 4 = .ok (.getfield 19, 3) := by decide +kernel
theorem d_M_findPair_7 : decode b_M_findPair 7 = .ok (.iload_n 1, 1) := by decide +kernel
theorem d_M_findPair_8 : decode b_M_findPair 8 = .ok (.iaload, 1) := by decide +kernel
theorem d_M_findPair_9 : decode b_M_findPair 9 = .ok (.if_icmp .ge 27, 3) := by decide +kernel
theorem d_M_findPair_12 : decode b_M_findPair 12 = .ok (.aload_n 0, 1) := by decide +kernel
theorem d_M_findPair_13 : decode b_M_findPair 13 = .ok (.getfield 28, 3) := by decide +kernel
theorem d_M_findPair_16 : decode b_M_findPair 16 = .ok (.sipush 256, 3) := by decide +kernel
theorem d_M_findPair_19 : decode b_M_findPair 19 = .ok (.iload_n 1, 1) := by decide +kernel
theorem d_M_findPair_20 : decode b_M_findPair 20 = .ok (.imul, 1) := by decide +kernel
theorem d_M_findPair_21 : decode b_M_findPair 21 = .ok (.iload_n 3, 1) := by decide +kernel
theorem d_M_findPair_22 : decode b_M_findPair 22 = .ok (.iadd, 1) := by decide +kernel
theorem d_M_findPair_23 : decode b_M_findPair 23 = .ok (.iaload, 1) := by decide +kernel
theorem d_M_findPair_24 : decode b_M_findPair 24 = .ok (.iload_n 2, 1) := by decide +kernel
theorem d_M_findPair_25 : decode b_M_findPair 25 = .ok (.if_icmp .ne 5, 3) := by decide +kernel
theorem d_M_findPair_28 : decode b_M_findPair 28 = .ok (.iload_n 3, 1) := by decide +kernel
theorem d_M_findPair_29 : decode b_M_findPair 29 = .ok (.ireturn, 1) := by decide +kernel
theorem d_M_findPair_30 : decode b_M_findPair 30 = .ok (.iinc 3 1, 3) := by decide +kernel
theorem d_M_findPair_33 : decode b_M_findPair 33 = .ok (.goto (-31), 3) := by decide +kernel
theorem d_M_findPair_36 : decode b_M_findPair 36 = .ok (.iconst (-1), 1) := by decide +kernel
theorem d_M_findPair_37 : decode b_M_findPair 37 = .ok (.ireturn, 1) := by decide +kernel
theorem d_M_addCounted_0 : decode b_M_addCounted 0 = .ok (.aload_n 0, 1) := by decide +kernel
theorem d_M_addCounted_1 : decode b_M_addCounted 1 = .ok (.iload_n 1, 1) := by decide +kernel
theorem d_M_addCounted_2 : decode b_M_addCounted 2 = .ok (.lload_n 2, 1) := by decide +kernel
theorem d_M_addCounted_3 : decode b_M_addCounted 3 = .ok (.aload_n 0, 1) := by decide +kernel
theorem d_M_addCounted_4 : decode b_M_addCounted 4 = .ok (.getfield 37, 3) := by decide +kernel
theorem d_M_addCounted_7 : decode b_M_addCounted 7 = .ok (.invokevirtual 89, 3) := by decide +kernel
theorem d_M_addCounted_10 : decode b_M_addCounted 10 = .ok (.iconst 1, 1) := by decide +kernel
theorem d_M_addCounted_11 : decode b_M_addCounted 11 = .ok (.istore 5, 2) := by decide +kernel
theorem d_M_addCounted_13 : decode b_M_addCounted 13 = .ok (.iconst 0, 1) := by decide +kernel
theorem d_M_addCounted_14 : decode b_M_addCounted 14 = .ok (.istore 6, 2) := by decide +kernel
theorem d_M_addCounted_16 : decode b_M_addCounted 16 = .ok (.iload 6, 2) := by decide +kernel
theorem d_M_addCounted_18 : decode b_M_addCounted 18 = .ok (.aload_n 0, 1) := by decide +kernel
theorem d_M_addCounted_19 : decode b_M_addCounted 19 = .ok (.getfield 16, 3) := by decide +kernel
theorem d_M_addCounted_22 : decode b_M_addCounted 22 = .ok (.iload_n 1, 1) := by decide +kernel
theorem d_M_addCounted_23 : decode b_M_addCounted 23 = .ok (.iaload, 1) := by decide +kernel
theorem d_M_addCounted_24 : decode b_M_addCounted 24 = .ok (.if_icmp .ge 77, 3) := by decide +kernel
theorem d_M_addCounted_27 : decode b_M_addCounted 27 = .ok (.aload_n 0, 1) := by decide +kernel
theorem d_M_addCounted_28 : decode b_M_addCounted 28 = .ok (.getfield 25, 3) := by decide +kernel
theorem d_M_addCounted_31 : decode b_M_addCounted 31 = .ok (.sipush 1024, 3) := by decide +kernel
theorem d_M_addCounted_34 : decode b_M_addCounted 34 = .ok (.iload_n 1, 1) := by decide +kernel
theorem d_M_addCounted_35 : decode b_M_addCounted 35 = .ok (.imul, 1) := by decide +kernel
theorem d_M_addCounted_36 : decode b_M_addCounted 36 = .ok (.aload_n 0, 1) := by decide +kernel
theorem d_M_addCounted_37 : decode b_M_addCounted 37 = .ok (.getfield 37, 3) := by decide +kernel
theorem d_M_addCounted_40 : decode b_M_addCounted 40 = .ok (.iload 6, 2) := by decide +kernel
theorem d_M_addCounted_42 : decode b_M_addCounted 42 = .ok (.iaload, 1) := by decide +kernel
theorem d_M_addCounted_43 : decode b_M_addCounted 43 = .ok (.iadd, 1) := by decide +kernel
theorem d_M_addCounted_44 : decode b_M_addCounted 44 = .ok (.iaload, 1) := by decide +kernel
theorem d_M_addCounted_45 : decode b_M_addCounted 45 = .ok (.iload 4, 2) := by decide +kernel
theorem d_M_addCounted_47 : decode b_M_addCounted 47 = .ok (.aload_n 0, 1) := by decide +kernel
theorem d_M_addCounted_48 : decode b_M_addCounted 48 = .ok (.getfield 37, 3) := by decide +kernel
theorem d_M_addCounted_51 : decode b_M_addCounted 51 = .ok (.aload_n 0, 1) := by decide +kernel
theorem d_M_addCounted_52 : decode b_M_addCounted 52 = .ok (.getfield 16, 3) := by decide +kernel
theorem d_M_addCounted_55 : decode b_M_addCounted 55 = .ok (.iload_n 1, 1) := by decide +kernel
theorem d_M_addCounted_56 : decode b_M_addCounted 56 = .ok (.iaload, 1) := by decide +kernel
theorem d_M_addCounted_57 : decode b_M_addCounted 57 = .ok (.aload_n 0, 1) := by decide +kernel
theorem d_M_addCounted_58 : decode b_M_addCounted 58 = .ok (.getfield 37, 3) := by decide +kernel
theorem d_M_addCounted_61 : decode b_M_addCounted 61 = .ok (.iload 6, 2) := by decide +kernel
theorem d_M_addCounted_63 : decode b_M_addCounted 63 = .ok (.iaload, 1) := by decide +kernel
theorem d_M_addCounted_64 : decode b_M_addCounted 64 = .ok (.invokestatic 93, 3) := by decide +kernel
theorem d_M_addCounted_67 : decode b_M_addCounted 67 = .ok (.imul, 1) := by decide +kernel
theorem d_M_addCounted_68 : decode b_M_addCounted 68 = .ok (.iadd, 1) := by decide +kernel
theorem d_M_addCounted_69 : decode b_M_addCounted 69 = .ok (.istore 7, 2) := by decide +kernel
theorem d_M_addCounted_71 : decode b_M_addCounted 71 = .ok (.iload 5, 2) := by decide +kernel
theorem d_M_addCounted_73 : decode b_M_addCounted 73 = .ok (.ifCond .eq 19, 3) := by decide +kernel
theorem d_M_addCounted_76 : decode b_M_addCounted 76 = .ok (.iload 7, 2) := by decide +kernel
theorem d_M_addCounted_78 : decode b_M_addCounted 78 = .ok (.ifCond .lt 14, 3) := by decide +kernel
theorem d_M_addCounted_81 : decode b_M_addCounted 81 = .ok (.iload 7, 2) := by decide +kernel
theorem d_M_addCounted_83 : decode b_M_addCounted 83 = .ok (.bipush 15, 2) := by decide +kernel
theorem d_M_addCounted_85 : decode b_M_addCounted 85 = .ok (.if_icmp .gt 7, 3) := by decide +kernel
theorem d_M_addCounted_88 : decode b_M_addCounted 88 = .ok (.iconst 1, 1) := by decide +kernel
theorem d_M_addCounted_89 : decode b_M_addCounted 89 = .ok (.goto 4, 3) := by decide +kernel
theorem d_M_addCounted_92 : decode b_M_addCounted 92 = .ok (.iconst 0, 1) := by decide +kernel
theorem d_M_addCounted_93 : decode b_M_addCounted 93 = .ok (.istore 5, 2) := by decide +kernel
theorem d_M_addCounted_95 : decode b_M_addCounted 95 = .ok (.iinc 6 1, 3) := by decide +kernel
theorem d_M_addCounted_98 : decode b_M_addCounted 98 = .ok (.goto (-82), 3) := by decide +kernel
theorem d_M_addCounted_101 : decode b_M_addCounted 101 = .ok (.iconst 0, 1) := by decide +kernel
theorem d_M_addCounted_102 : decode b_M_addCounted 102 = .ok (.istore 6, 2) := by decide +kernel
theorem d_M_addCounted_104 : decode b_M_addCounted 104 = .ok (.iload 6, 2) := by decide +kernel
theorem d_M_addCounted_106 : decode b_M_addCounted 106 = .ok (.aload_n 0, 1) := by decide +kernel
theorem d_M_addCounted_107 : decode b_M_addCounted 107 = .ok (.getfield 16, 3) := by decide +kernel
theorem d_M_addCounted_110 : decode b_M_addCounted 110 = .ok (.iload_n 1, 1) := by decide +kernel
theorem d_M_addCounted_111 : decode b_M_addCounted 111 = .ok (.iaload, 1) := by decide +kernel
theorem d_M_addCounted_112 : decode b_M_addCounted 112 = .ok (.if_icmp .ge 37, 3) := by decide +kernel
theorem d_M_addCounted_115 : decode b_M_addCounted 115 = .ok (.iload 5, 2) := by decide +kernel
theorem d_M_addCounted_117 : decode b_M_addCounted 117 = .ok (.ifCond .eq 32, 3) := by decide +kernel
theorem d_M_addCounted_120 : decode b_M_addCounted 120 = .ok (.aload_n 0, 1) := by decide +kernel
theorem d_M_addCounted_121 : decode b_M_addCounted 121 = .ok (.getfield 25, 3) := by decide +kernel
theorem d_M_addCounted_124 : decode b_M_addCounted 124 = .ok (.sipush 1024, 3) := by decide +kernel
theorem d_M_addCounted_127 : decode b_M_addCounted 127 = .ok (.iload_n 1, 1) := by decide +kernel
theorem d_M_addCounted_128 : decode b_M_addCounted 128 = .ok (.imul, 1) := by decide +kernel
theorem d_M_addCounted_129 : decode b_M_addCounted 129 = .ok (.aload_n 0, 1) := by decide +kernel
theorem d_M_addCounted_130 : decode b_M_addCounted 130 = .ok (.getfield 37, 3) := by decide +kernel
theorem d_M_addCounted_133 : decode b_M_addCounted 133 = .ok (.iload 6, 2) := by decide +kernel
theorem d_M_addCounted_135 : decode b_M_addCounted 135 = .ok (.iaload, 1) := by decide +kernel
theorem d_M_addCounted_136 : decode b_M_addCounted 136 = .ok (.iadd, 1) := by decide +kernel
theorem d_M_addCounted_137 : decode b_M_addCounted 137 = .ok (.dup2, 1) := by decide +kernel
theorem d_M_addCounted_138 : decode b_M_addCounted 138 = .ok (.iaload, 1) := by decide +kernel
theorem d_M_addCounted_139 : decode b_M_addCounted 139 = .ok (.iload 4, 2) := by decide +kernel
theorem d_M_addCounted_141 : decode b_M_addCounted 141 = .ok (.iadd, 1) := by decide +kernel
theorem d_M_addCounted_142 : decode b_M_addCounted 142 = .ok (.iastore, 1) := by decide +kernel
theorem d_M_addCounted_143 : decode b_M_addCounted 143 = .ok (.iinc 6 1, 3) := by decide +kernel
theorem d_M_addCounted_146 : decode b_M_addCounted 146 = .ok (.goto (-42), 3) := by decide +kernel
theorem d_M_addCounted_149 : decode b_M_addCounted 149 = .ok (.iload 5, 2) := by decide +kernel
theorem d_M_addCounted_151 : decode b_M_addCounted 151 = .ok (.ireturn, 1) := by decide +kernel
theorem d_M_addPrint_0 : decode b_M_addPrint 0 = .ok (.sipush 1024, 3) := by decide +kernel
theorem d_M_addPrint_3 : decode b_M_addPrint 3 = .ok (.iload_n 1, 1) := by decide +kernel
theorem d_M_addPrint_4 : decode b_M_addPrint 4 = .ok (.imul, 1) := by decide +kernel
theorem d_M_addPrint_5 : decode b_M_addPrint 5 = .ok (.istore 4, 2) := by decide +kernel
theorem d_M_addPrint_7 : decode b_M_addPrint 7 = .ok (.aload_n 0, 1) := by decide +kernel
theorem d_M_addPrint_8 : decode b_M_addPrint 8 = .ok (.iload_n 1, 1) := by decide +kernel
theorem d_M_addPrint_9 : decode b_M_addPrint 9 = .ok (.lload_n 2, 1) := by decide +kernel
theorem d_M_addPrint_10 : decode b_M_addPrint 10 = .ok (.invokevirtual 67, 3) := by decide +kernel
theorem d_M_addPrint_13 : decode b_M_addPrint 13 = .ok (.istore 5, 2) := by decide +kernel
theorem d_M_addPrint_15 : decode b_M_addPrint 15 = .ok (.aload_n 0, 1) := by decide +kernel
theorem d_M_addPrint_16 : decode b_M_addPrint 16 = .ok (.iload_n 1, 1) := by decide +kernel
theorem d_M_addPrint_17 : decode b_M_addPrint 17 = .ok (.lload_n 2, 1) := by decide +kernel
theorem d_M_addPrint_18 : decode b_M_addPrint 18 = .ok (.invokevirtual 71, 3) := by decide +kernel
theorem d_M_addPrint_21 : decode b_M_addPrint 21 = .ok (.istore 6, 2) := by decide +kernel
theorem d_M_addPrint_23 : decode b_M_addPrint 23 = .ok (.aload_n 0, 1) := by decide +kernel
theorem d_M_addPrint_24 : decode b_M_addPrint 24 = .ok (.aload_n 0, 1) := by decide +kernel
theorem d_M_addPrint_25 : decode b_M_addPrint 25 = .ok (.getfield 25, 3) := by decide +kernel
theorem d_M_addPrint_28 : decode b_M_addPrint 28 = .ok (.iload 4, 2) := by decide +kernel
theorem d_M_addPrint_30 : decode b_M_addPrint 30 = .ok (.iload 6, 2) := by decide +kernel
theorem d_M_addPrint_32 : decode b_M_addPrint 32 = .ok (.iconst 0, 1) := by decide +kernel
theorem d_M_addPrint_33 : decode b_M_addPrint 33 = .ok (.invokevirtual 74, 3) := by decide +kernel
theorem d_M_addPrint_36 : decode b_M_addPrint 36 = .ok (.istore 7, 2) := by decide +kernel
theorem d_M_addPrint_38 : decode b_M_addPrint 38 = .ok (.iload 7, 2) := by decide +kernel
theorem d_M_addPrint_40 : decode b_M_addPrint 40 = .ok (.ifCond .lt 8, 3) := by decide +kernel
theorem d_M_addPrint_43 : decode b_M_addPrint 43 = .ok (.iload 6, 2) := by decide +kernel
theorem d_M_addPrint_45 : decode b_M_addPrint 45 = .ok (.goto 12, 3) := by decide +kernel
theorem d_M_addPrint_48 : decode b_M_addPrint 48 = .ok (.aload_n 0, 1) := by decide +kernel
theorem d_M_addPrint_49 : decode b_M_addPrint 49 = .ok (.iload_n 1, 1) := by decide +kernel
theorem d_M_addPrint_50 : decode b_M_addPrint 50 = .ok (.iload 5, 2) := by decide +kernel
theorem d_M_addPrint_52 : decode b_M_addPrint 52 = .ok (.iload 6, 2) := by decide +kernel
theorem d_M_addPrint_54 : decode b_M_addPrint 54 = .ok (.invokevirtual 78, 3) := by decide +kernel
theorem d_M_addPrint_57 : decode b_M_addPrint 57 = .ok (.istore 6, 2) := by decide +kernel
theorem d_M_addPrint_59 : decode b_M_addPrint 59 = .ok (.iload 7, 2) := by decide +kernel
theorem d_M_addPrint_61 : decode b_M_addPrint 61 = .ok (.ifCond .lt 8, 3) := by decide +kernel
theorem d_M_addPrint_64 : decode b_M_addPrint 64 = .ok (.iload 7, 2) := by decide +kernel
theorem d_M_addPrint_66 : decode b_M_addPrint 66 = .ok (.goto 16, 3) := by decide +kernel
theorem d_M_addPrint_69 : decode b_M_addPrint 69 = .ok (.aload_n 0, 1) := by decide +kernel
theorem d_M_addPrint_70 : decode b_M_addPrint 70 = .ok (.aload_n 0, 1) := by decide +kernel
theorem d_M_addPrint_71 : decode b_M_addPrint 71 = .ok (.getfield 25, 3) := by decide +kernel
theorem d_M_addPrint_74 : decode b_M_addPrint 74 = .ok (.iload 4, 2) := by decide +kernel
theorem d_M_addPrint_76 : decode b_M_addPrint 76 = .ok (.iload 6, 2) := by decide +kernel
theorem d_M_addPrint_78 : decode b_M_addPrint 78 = .ok (.iconst 0, 1) := by decide +kernel
theorem d_M_addPrint_79 : decode b_M_addPrint 79 = .ok (.invokevirtual 74, 3) := by decide +kernel
theorem d_M_addPrint_82 : decode b_M_addPrint 82 = .ok (.istore 7, 2) := by decide +kernel
theorem d_M_addPrint_84 : decode b_M_addPrint 84 = .ok (.iload 7, 2) := by decide +kernel
theorem d_M_addPrint_86 : decode b_M_addPrint 86 = .ok (.ifCond .lt 14, 3) := by decide +kernel
theorem d_M_addPrint_89 : decode b_M_addPrint 89 = .ok (.aload_n 0, 1) := by decide +kernel
theorem d_M_addPrint_90 : decode b_M_addPrint 90 = .ok (.getfield 25, 3) := by decide +kernel
theorem d_M_addPrint_93 : decode b_M_addPrint 93 = .ok (.iload 7, 2) := by decide +kernel
theorem d_M_addPrint_95 : decode b_M_addPrint 95 = .ok (.iload 5, 2) := by decide +kernel
theorem d_M_addPrint_97 : decode b_M_addPrint 97 = .ok (.iastore, 1) := by decide +kernel
theorem d_M_addPrint_98 : decode b_M_addPrint 98 = .ok (.iconst 1, 1) := by decide +kernel
theorem d_M_addPrint_99 : decode b_M_addPrint 99 = .ok (.ireturn, 1) := by decide +kernel
theorem d_M_addPrint_100 : decode b_M_addPrint 100 = .ok (.iconst 4, 1) := by decide +kernel
theorem d_M_addPrint_101 : decode b_M_addPrint 101 = .ok (.aload_n 0, 1) := by decide +kernel
theorem d_M_addPrint_102 : decode b_M_addPrint 102 = .ok (.getfield 13, 3) := by decide +kernel
theorem d_M_addPrint_105 : decode b_M_addPrint 105 = .ok (.iload_n 1, 1) := by decide +kernel
theorem d_M_addPrint_106 : decode b_M_addPrint 106 = .ok (.iaload, 1) := by decide +kernel
theorem d_M_addPrint_107 : decode b_M_addPrint 107 = .ok (.ishl, 1) := by decide +kernel
theorem d_M_addPrint_108 : decode b_M_addPrint 108 = .ok (.istore 8, 2) := by decide +kernel
theorem d_M_addPrint_110 : decode b_M_addPrint 110 = .ok (.iconst 0, 1) := by decide +kernel
theorem d_M_addPrint_111 : decode b_M_addPrint 111 = .ok (.istore 9, 2) := by decide +kernel
theorem d_M_addPrint_113 : decode b_M_addPrint 113 = .ok (.iload 9, 2) := by decide +kernel
theorem d_M_addPrint_115 : decode b_M_addPrint 115 = .ok (.iload 8, 2) := by decide +kernel
theorem d_M_addPrint_117 : decode b_M_addPrint 117 = .ok (.if_icmp .ge 26, 3) := by decide +kernel
theorem d_M_addPrint_120 : decode b_M_addPrint 120 = .ok (.aload_n 0, 1) := by decide +kernel
theorem d_M_addPrint_121 : decode b_M_addPrint 121 = .ok (.getfield 31, 3) := by decide +kernel
theorem d_M_addPrint_124 : decode b_M_addPrint 124 = .ok (.iload 9, 2) := by decide +kernel
theorem d_M_addPrint_126 : decode b_M_addPrint 126 = .ok (.aload_n 0, 1) := by decide +kernel
theorem d_M_addPrint_127 : decode b_M_addPrint 127 = .ok (.getfield 25, 3) := by decide +kernel
theorem d_M_addPrint_130 : decode b_M_addPrint 130 = .ok (.iload 4, 2) := by decide +kernel
theorem d_M_addPrint_132 : decode b_M_addPrint 132 = .ok (.iload 9, 2) := by decide +kernel
theorem d_M_addPrint_134 : decode b_M_addPrint 134 = .ok (.iadd, 1) := by decide +kernel
theorem d_M_addPrint_135 : decode b_M_addPrint 135 = .ok (.iaload, 1) := by decide +kernel
theorem d_M_addPrint_136 : decode b_M_addPrint 136 = .ok (.iastore, 1) := by decide +kernel
theorem d_M_addPrint_137 : decode b_M_addPrint 137 = .ok (.iinc 9 1, 3) := by decide +kernel
theorem d_M_addPrint_140 : decode b_M_addPrint 140 = .ok (.goto (-27), 3) := by decide +kernel
theorem d_M_addPrint_143 : decode b_M_addPrint 143 = .ok (.iload 5, 2) := by decide +kernel
theorem d_M_addPrint_145 : decode b_M_addPrint 145 = .ok (.istore 9, 2) := by decide +kernel
theorem d_M_addPrint_147 : decode b_M_addPrint 147 = .ok (.iconst 0, 1) := by decide +kernel
theorem d_M_addPrint_148 : decode b_M_addPrint 148 = .ok (.istore 10, 2) := by decide +kernel
theorem d_M_addPrint_150 : decode b_M_addPrint 150 = .ok (.iload 10, 2) := by decide +kernel
theorem d_M_addPrint_152 : decode b_M_addPrint 152 = .ok (.bipush 64, 2) := by decide +kernel
theorem d_M_addPrint_154 : decode b_M_addPrint 154 = .ok (.if_icmp .ge 126, 3) := by decide +kernel
theorem d_M_addPrint_157 : decode b_M_addPrint 157 = .ok (.iconst 4, 1) := by decide +kernel
theorem d_M_addPrint_158 : decode b_M_addPrint 158 = .ok (.iload 6, 2) := by decide +kernel
theorem d_M_addPrint_160 : decode b_M_addPrint 160 = .ok (.imul, 1) := by decide +kernel
theorem d_M_addPrint_161 : decode b_M_addPrint 161 = .ok (.iload 10, 2) := by decide +kernel
theorem d_M_addPrint_163 : decode b_M_addPrint 163 = .ok (.iconst 4, 1) := by decide +kernel
theorem d_M_addPrint_164 : decode b_M_addPrint 164 = .ok (.irem, 1) := by decide +kernel
theorem d_M_addPrint_165 : decode b_M_addPrint 165 = .ok (.iadd, 1) := by decide +kernel
theorem d_M_addPrint_166 : decode b_M_addPrint 166 = .ok (.istore 11, 2) := by decide +kernel
theorem d_M_addPrint_168 : decode b_M_addPrint 168 = .ok (.aload_n 0, 1) := by decide +kernel
theorem d_M_addPrint_169 : decode b_M_addPrint 169 = .ok (.getfield 31, 3) := by decide +kernel
theorem d_M_addPrint_172 : decode b_M_addPrint 172 = .ok (.iload 11, 2) := by decide +kernel
theorem d_M_addPrint_174 : decode b_M_addPrint 174 = .ok (.iaload, 1) := by decide +kernel
theorem d_M_addPrint_175 : decode b_M_addPrint 175 = .ok (.istore 12, 2) := by decide +kernel
theorem d_M_addPrint_177 : decode b_M_addPrint 177 = .ok (.aload_n 0, 1) := by decide +kernel
theorem d_M_addPrint_178 : decode b_M_addPrint 178 = .ok (.getfield 31, 3) := by decide +kernel
theorem d_M_addPrint_181 : decode b_M_addPrint 181 = .ok (.iload 11, 2) := by decide +kernel
theorem d_M_addPrint_183 : decode b_M_addPrint 183 = .ok (.iload 9, 2) := by decide +kernel
theorem d_M_addPrint_185 : decode b_M_addPrint 185 = .ok (.iastore, 1) := by decide +kernel
theorem d_M_addPrint_186 : decode b_M_addPrint 186 = .ok (.iload 12, 2) := by decide +kernel
theorem d_M_addPrint_188 : decode b_M_addPrint 188 = .ok (.istore 9, 2) := by decide +kernel
theorem d_M_addPrint_190 : decode b_M_addPrint 190 = .ok (.aload_n 0, 1) := by decide +kernel
theorem d_M_addPrint_191 : decode b_M_addPrint 191 = .ok (.getfield 22, 3) := by decide +kernel
theorem d_M_addPrint_194 : decode b_M_addPrint 194 = .ok (.iload_n 1, 1) := by decide +kernel
theorem d_M_addPrint_195 : decode b_M_addPrint 195 = .ok (.dup2, 1) := by decide +kernel
theorem d_M_addPrint_196 : decode b_M_addPrint 196 = .ok (.iaload, 1) := by decide +kernel
theorem d_M_addPrint_197 : decode b_M_addPrint 197 = .ok (.iconst 1, 1) := by decide +kernel
theorem d_M_addPrint_198 : decode b_M_addPrint 198 = .ok (.iadd, 1) := by decide +kernel
theorem d_M_addPrint_199 : decode b_M_addPrint 199 = .ok (.iastore, 1) := by decide +kernel
theorem d_M_addPrint_200 : decode b_M_addPrint 200 = .ok (.aload_n 0, 1) := by decide +kernel
theorem d_M_addPrint_201 : decode b_M_addPrint 201 = .ok (.iload_n 1, 1) := by decide +kernel
theorem d_M_addPrint_202 : decode b_M_addPrint 202 = .ok (.iload 9, 2) := by decide +kernel
theorem d_M_addPrint_204 : decode b_M_addPrint 204 = .ok (.iload 6, 2) := by decide +kernel
theorem d_M_addPrint_206 : decode b_M_addPrint 206 = .ok (.invokevirtual 78, 3) := by decide +kernel
theorem d_M_addPrint_209 : decode b_M_addPrint 209 = .ok (.istore 6, 2) := by decide +kernel
theorem d_M_addPrint_211 : decode b_M_addPrint 211 = .ok (.aload_n 0, 1) := by decide +kernel
theorem d_M_addPrint_212 : decode b_M_addPrint 212 = .ok (.aload_n 0, 1) := by decide +kernel
theorem d_M_addPrint_213 : decode b_M_addPrint 213 = .ok (.getfield 31, 3) := by decide +kernel
theorem d_M_addPrint_216 : decode b_M_addPrint 216 = .ok (.iconst 0, 1) := by decide +kernel
theorem d_M_addPrint_217 : decode b_M_addPrint 217 = .ok (.iload 6, 2) := by decide +kernel
theorem d_M_addPrint_219 : decode b_M_addPrint 219 = .ok (.iconst 0, 1) := by decide +kernel
theorem d_M_addPrint_220 : decode b_M_addPrint 220 = .ok (.invokevirtual 74, 3) := by decide +kernel
theorem d_M_addPrint_223 : decode b_M_addPrint 223 = .ok (.istore 7, 2) := by decide +kernel
theorem d_M_addPrint_225 : decode b_M_addPrint 225 = .ok (.iload 7, 2) := by decide +kernel
theorem d_M_addPrint_227 : decode b_M_addPrint 227 = .ok (.ifCond .lt 47, 3) := by decide +kernel
theorem d_M_addPrint_230 : decode b_M_addPrint 230 = .ok (.aload_n 0, 1) := by decide +kernel
theorem d_M_addPrint_231 : decode b_M_addPrint 231 = .ok (.getfield 31, 3) := by decide +kernel
theorem d_M_addPrint_234 : decode b_M_addPrint 234 = .ok (.iload 7, 2) := by decide +kernel
theorem d_M_addPrint_236 : decode b_M_addPrint 236 = .ok (.iload 9, 2) := by decide +kernel
theorem d_M_addPrint_238 : decode b_M_addPrint 238 = .ok (.iastore, 1) := by decide +kernel
theorem d_M_addPrint_239 : decode b_M_addPrint 239 = .ok (.iconst 0, 1) := by decide +kernel
theorem d_M_addPrint_240 : decode b_M_addPrint 240 = .ok (.istore 13, 2) := by decide +kernel
theorem d_M_addPrint_242 : decode b_M_addPrint 242 = .ok (.iload 13, 2) := by decide +kernel
theorem d_M_addPrint_244 : decode b_M_addPrint 244 = .ok (.iload 8, 2) := by decide +kernel
theorem d_M_addPrint_246 : decode b_M_addPrint 246 = .ok (.if_icmp .ge 26, 3) := by decide +kernel
theorem d_M_addPrint_249 : decode b_M_addPrint 249 = .ok (.aload_n 0, 1) := by decide +kernel
theorem d_M_addPrint_250 : decode b_M_addPrint 250 = .ok (.getfield 25, 3) := by decide +kernel
theorem d_M_addPrint_253 : decode b_M_addPrint 253 = .ok (.iload 4, 2) := by decide +kernel
theorem d_M_addPrint_255 : decode b_M_addPrint 255 = .ok (.iload 13, 2) := by decide +kernel
theorem d_M_addPrint_257 : decode b_M_addPrint 257 = .ok (.iadd, 1) := by decide +kernel
theorem d_M_addPrint_258 : decode b_M_addPrint 258 = .ok (.aload_n 0, 1) := by decide +kernel
theorem d_M_addPrint_259 : decode b_M_addPrint 259 = .ok (.getfield 31, 3) := by decide +kernel
theorem d_M_addPrint_262 : decode b_M_addPrint 262 = .ok (.iload 13, 2) := by decide +kernel
theorem d_M_addPrint_264 : decode b_M_addPrint 264 = .ok (.iaload, 1) := by decide +kernel
theorem d_M_addPrint_265 : decode b_M_addPrint 265 = .ok (.iastore, 1) := by decide +kernel
theorem d_M_addPrint_266 : decode b_M_addPrint 266 = .ok (.iinc 13 1, 3) := by decide +kernel
theorem d_M_addPrint_269 : decode b_M_addPrint 269 = .ok (.goto (-27), 3) := by decide +kernel
theorem d_M_addPrint_272 : decode b_M_addPrint 272 = .ok (.iconst 1, 1) := by decide +kernel
theorem d_M_addPrint_273 : decode b_M_addPrint 273 = .ok (.ireturn, 1) := by decide +kernel
theorem d_M_addPrint_274 : decode b_M_addPrint 274 = .ok (.iinc 10 1, 3) := by decide +kernel
theorem d_M_addPrint_277 : decode b_M_addPrint 277 = .ok (.goto (-127), 3) := by decide +kernel
theorem d_M_addPrint_280 : decode b_M_addPrint 280 = .ok (.iconst 0, 1) := by decide +kernel
theorem d_M_addPrint_281 : decode b_M_addPrint 281 = .ok (.ireturn, 1) := by decide +kernel
theorem d_M_insertPair_0 : decode b_M_insertPair 0 = .ok (.iload_n 2, 1) := by decide +kernel
theorem d_M_insertPair_1 : decode b_M_insertPair 1 = .ok (.istore 4, 2) := by decide +kernel
theorem d_M_insertPair_3 : decode b_M_insertPair 3 = .ok (.sipush 256, 3) := by decide +kernel
theorem d_M_insertPair_6 : decode b_M_insertPair 6 = .ok (.iload_n 1, 1) := by decide +kernel
theorem d_M_insertPair_7 : decode b_M_insertPair 7 = .ok (.imul, 1) := by decide +kernel
theorem d_M_insertPair_8 : decode b_M_insertPair 8 = .ok (.istore 5, 2) := by decide +kernel
theorem d_M_insertPair_10 : decode b_M_insertPair 10 = .ok (.iload 4, 2) := by decide +kernel
theorem d_M_insertPair_12 : decode b_M_insertPair 12 = .ok (.ifCond .le 47, 3) := by decide +kernel
theorem d_M_insertPair_15 : decode b_M_insertPair 15 = .ok (.aload_n 0, 1) := by decide +kernel
theorem d_M_insertPair_16 : decode b_M_insertPair 16 = .ok (.getfield 28, 3) := by decide +kernel
theorem d_M_insertPair_19 : decode b_M_insertPair 19 = .ok (.iload 5, 2) := by decide +kernel
theorem d_M_insertPair_21 : decode b_M_insertPair 21 = .ok (.iload 4, 2) := by decide +kernel
theorem d_M_insertPair_23 : decode b_M_insertPair 23 = .ok (.iadd, 1) := by decide +kernel
theorem d_M_insertPair_24 : decode b_M_insertPair 24 = .ok (.iconst 1, 1) := by decide +kernel
theorem d_M_insertPair_25 : decode b_M_insertPair 25 = .ok (.isub, 1) := by decide +kernel
theorem d_M_insertPair_26 : decode b_M_insertPair 26 = .ok (.iaload, 1) := by decide +kernel
theorem d_M_insertPair_27 : decode b_M_insertPair 27 = .ok (.iload_n 3, 1) := by decide +kernel
theorem d_M_insertPair_28 : decode b_M_insertPair 28 = .ok (.if_icmp .le 31, 3) := by decide +kernel
theorem d_M_insertPair_31 : decode b_M_insertPair 31 = .ok (.aload_n 0, 1) := by decide +kernel
theorem d_M_insertPair_32 : decode b_M_insertPair 32 = .ok (.getfield 28, 3) := by decide +kernel
theorem d_M_insertPair_35 : decode b_M_insertPair 35 = .ok (.iload 5, 2) := by decide +kernel
theorem d_M_insertPair_37 : decode b_M_insertPair 37 = .ok (.iload 4, 2) := by decide +kernel
theorem d_M_insertPair_39 : decode b_M_insertPair 39 = .ok (.iadd, 1) := by decide +kernel
theorem d_M_insertPair_40 : decode b_M_insertPair 40 = .ok (.aload_n 0, 1) := by decide +kernel
theorem d_M_insertPair_41 : decode b_M_insertPair 41 = .ok (.getfield 28, 3) := by decide +kernel
theorem d_M_insertPair_44 : decode b_M_insertPair 44 = .ok (.iload 5, 2) := by decide +kernel
theorem d_M_insertPair_46 : decode b_M_insertPair 46 = .ok (.iload 4, 2) := by decide +kernel
theorem d_M_insertPair_48 : decode b_M_insertPair 48 = .ok (.iadd, 1) := by decide +kernel
theorem d_M_insertPair_49 : decode b_M_insertPair 49 = .ok (.iconst 1, 1) := by decide +kernel
theorem d_M_insertPair_50 : decode b_M_insertPair 50 = .ok (.isub, 1) := by decide +kernel
theorem d_M_insertPair_51 : decode b_M_insertPair 51 = .ok (.iaload, 1) := by decide +kernel
theorem d_M_insertPair_52 : decode b_M_insertPair 52 = .ok (.iastore, 1) := by decide +kernel
theorem d_M_insertPair_53 : decode b_M_insertPair 53 = .ok (.iinc 4 (-1), 3) := by decide +kernel
theorem d_M_insertPair_56 : decode b_M_insertPair 56 = .ok (.goto (-46), 3) := by decide +kernel
theorem d_M_insertPair_59 : decode b_M_insertPair 59 = .ok (.aload_n 0, 1) := by decide +kernel
theorem d_M_insertPair_60 : decode b_M_insertPair 60 = .ok (.getfield 28, 3) := by decide +kernel
theorem d_M_insertPair_63 : decode b_M_insertPair 63 = .ok (.iload 5, 2) := by decide +kernel
theorem d_M_insertPair_65 : decode b_M_insertPair 65 = .ok (.iload 4, 2) := by decide +kernel
theorem d_M_insertPair_67 : decode b_M_insertPair 67 = .ok (.iadd, 1) := by decide +kernel
theorem d_M_insertPair_68 : decode b_M_insertPair 68 = .ok (.iload_n 3, 1) := by decide +kernel
theorem d_M_insertPair_69 : decode b_M_insertPair 69 = .ok (.iastore, 1) := by decide +kernel
theorem d_M_insertPair_70 : decode b_M_insertPair 70 = .ok (.return_, 1) := by decide +kernel
theorem d_M_addPair_0 : decode b_M_addPair 0 = .ok (.aload_n 0, 1) := by decide +kernel
theorem d_M_addPair_1 : decode b_M_addPair 1 = .ok (.getfield 19, 3) := by decide +kernel
theorem d_M_addPair_4 : decode b_M_addPair 4 = .ok (.iload_n 1, 1) := by decide +kernel
theorem d_M_addPair_5 : decode b_M_addPair 5 = .ok (.iaload, 1) := by decide +kernel
theorem d_M_addPair_6 : decode b_M_addPair 6 = .ok (.iconst 1, 1) := by decide +kernel
theorem d_M_addPair_7 : decode b_M_addPair 7 = .ok (.aload_n 0, 1) := by decide +kernel
theorem d_M_addPair_8 : decode b_M_addPair 8 = .ok (.getfield 13, 3) := by decide +kernel
theorem d_M_addPair_11 : decode b_M_addPair 11 = .ok (.iload_n 1, 1) := by decide +kernel
theorem d_M_addPair_12 : decode b_M_addPair 12 = .ok (.iaload, 1) := by decide +kernel
theorem d_M_addPair_13 : decode b_M_addPair 13 = .ok (.ishl, 1) := by decide +kernel
theorem d_M_addPair_14 : decode b_M_addPair 14 = .ok (.if_icmp .ne 5, 3) := by decide +kernel
theorem d_M_addPair_17 : decode b_M_addPair 17 = .ok (.iconst 0, 1) := by decide +kernel
theorem d_M_addPair_18 : decode b_M_addPair 18 = .ok (.ireturn, 1) := by decide +kernel
theorem d_M_addPair_19 : decode b_M_addPair 19 = .ok (.aload_n 0, 1) := by decide +kernel
theorem d_M_addPair_20 : decode b_M_addPair 20 = .ok (.iload_n 1, 1) := by decide +kernel
theorem d_M_addPair_21 : decode b_M_addPair 21 = .ok (.aload_n 0, 1) := by decide +kernel
theorem d_M_addPair_22 : decode b_M_addPair 22 = .ok (.getfield 19, 3) := by decide +kernel
theorem d_M_addPair_25 : decode b_M_addPair 25 = .ok (.iload_n 1, 1) := by decide +kernel
theorem d_M_addPair_26 : decode b_M_addPair 26 = .ok (.iaload, 1) := by decide +kernel
theorem d_M_addPair_27 : decode b_M_addPair 27 = .ok (.aload_n 0, 1) := by decide +kernel
theorem d_M_addPair_28 : decode b_M_addPair 28 = .ok (.iload_n 1, 1) := by decide +kernel
theorem d_M_addPair_29 : decode b_M_addPair 29 = .ok (.lload_n 2, 1) := by decide +kernel
theorem d_M_addPair_30 : decode b_M_addPair 30 = .ok (.invokevirtual 82, 3) := by decide +kernel
theorem d_M_addPair_33 : decode b_M_addPair 33 = .ok (.invokevirtual 97, 3) := by decide +kernel
theorem d_M_addPair_36 : decode b_M_addPair 36 = .ok (.iconst 1, 1) := by decide +kernel
theorem d_M_addPair_37 : decode b_M_addPair 37 = .ok (.ireturn, 1) := by decide +kernel
theorem d_M_addOne_0 : decode b_M_addOne 0 = .ok (.aload_n 0, 1) := by decide +kernel
theorem d_M_addOne_1 : decode b_M_addOne 1 = .ok (.getfield 7, 3) := by decide +kernel
theorem d_M_addOne_4 : decode b_M_addOne 4 = .ok (.iload_n 1, 1) := by decide +kernel
theorem d_M_addOne_5 : decode b_M_addOne 5 = .ok (.iaload, 1) := by decide +kernel
theorem d_M_addOne_6 : decode b_M_addOne 6 = .ok (.iconst 1, 1) := by decide +kernel
theorem d_M_addOne_7 : decode b_M_addOne 7 = .ok (.if_icmp .ne 13, 3) := by decide +kernel
theorem d_M_addOne_10 : decode b_M_addOne 10 = .ok (.aload_n 0, 1) := by decide +kernel
theorem d_M_addOne_11 : decode b_M_addOne 11 = .ok (.iload_n 1, 1) := by decide +kernel
theorem d_M_addOne_12 : decode b_M_addOne 12 = .ok (.lload_n 2, 1) := by decide +kernel
theorem d_M_addOne_13 : decode b_M_addOne 13 = .ok (.iconst 1, 1) := by decide +kernel
theorem d_M_addOne_14 : decode b_M_addOne 14 = .ok (.invokevirtual 101, 3) := by decide +kernel
theorem d_M_addOne_17 : decode b_M_addOne 17 = .ok (.goto 28, 3) := by decide +kernel
theorem d_M_addOne_20 : decode b_M_addOne 20 = .ok (.aload_n 0, 1) := by decide +kernel
theorem d_M_addOne_21 : decode b_M_addOne 21 = .ok (.getfield 7, 3) := by decide +kernel
theorem d_M_addOne_24 : decode b_M_addOne 24 = .ok (.iload_n 1, 1) := by decide +kernel
theorem d_M_addOne_25 : decode b_M_addOne 25 = .ok (.iaload, 1) := by decide +kernel
theorem d_M_addOne_26 : decode b_M_addOne 26 = .ok (.iconst 2, 1) := by decide +kernel
theorem d_M_addOne_27 : decode b_M_addOne 27 = .ok (.if_icmp .ne 12, 3) := by decide +kernel
theorem d_M_addOne_30 : decode b_M_addOne 30 = .ok (.aload_n 0, 1) := by decide +kernel
theorem d_M_addOne_31 : decode b_M_addOne 31 = .ok (.iload_n 1, 1) := by decide +kernel
theorem d_M_addOne_32 : decode b_M_addOne 32 = .ok (.lload_n 2, 1) := by decide +kernel
theorem d_M_addOne_33 : decode b_M_addOne 33 = .ok (.invokevirtual 105, 3) := by decide +kernel
theorem d_M_addOne_36 : decode b_M_addOne 36 = .ok (.goto 9, 3) := by decide +kernel
theorem d_M_addOne_39 : decode b_M_addOne 39 = .ok (.aload_n 0, 1) := by decide +kernel
theorem d_M_addOne_40 : decode b_M_addOne 40 = .ok (.iload_n 1, 1) := by decide +kernel
theorem d_M_addOne_41 : decode b_M_addOne 41 = .ok (.lload_n 2, 1) := by decide +kernel
theorem d_M_addOne_42 : decode b_M_addOne 42 = .ok (.invokevirtual 109, 3) := by decide +kernel
theorem d_M_addOne_45 : decode b_M_addOne 45 = .ok (.istore 4, 2) := by decide +kernel
theorem d_M_addOne_47 : decode b_M_addOne 47 = .ok (.aload_n 0, 1) := by decide +kernel
theorem d_M_addOne_48 : decode b_M_addOne 48 = .ok (.getfield 19, 3) := by decide +kernel
theorem d_M_addOne_51 : decode b_M_addOne 51 = .ok (.iload_n 1, 1) := by decide +kernel
theorem d_M_addOne_52 : decode b_M_addOne 52 = .ok (.iload 4, 2) := by decide +kernel
theorem d_M_addOne_54 : decode b_M_addOne 54 = .ok (.ifCond .eq 14, 3) := by decide +kernel
theorem d_M_addOne_57 : decode b_M_addOne 57 = .ok (.aload_n 0, 1) := by decide +kernel
theorem d_M_addOne_58 : decode b_M_addOne 58 = .ok (.getfield 19, 3) := by decide +kernel
theorem d_M_addOne_61 : decode b_M_addOne 61 = .ok (.iload_n 1, 1) := by decide +kernel
theorem d_M_addOne_62 : decode b_M_addOne 62 = .ok (.iaload, 1) := by decide +kernel
theorem d_M_addOne_63 : decode b_M_addOne 63 = .ok (.iconst 1, 1) := by decide +kernel
theorem d_M_addOne_64 : decode b_M_addOne 64 = .ok (.iadd, 1) := by decide +kernel
theorem d_M_addOne_65 : decode b_M_addOne 65 = .ok (.goto 9, 3) := by decide +kernel
theorem d_M_addOne_68 : decode b_M_addOne 68 = .ok (.aload_n 0, 1) := by decide +kernel
theorem d_M_addOne_69 : decode b_M_addOne 69 = .ok (.getfield 19, 3) := by decide +kernel
theorem d_M_addOne_72 : decode b_M_addOne 72 = .ok (.iload_n 1, 1) := by decide +kernel
theorem d_M_addOne_73 : decode b_M_addOne 73 = .ok (.iaload, 1) := by decide +kernel
theorem d_M_addOne_74 : decode b_M_addOne 74 = .ok (.iastore, 1) := by decide +kernel
theorem d_M_addOne_75 : decode b_M_addOne 75 = .ok (.iload 4, 2) := by decide +kernel
theorem d_M_addOne_77 : decode b_M_addOne 77 = .ok (.ireturn, 1) := by decide +kernel
theorem d_M_make_0 : decode b_M_make 0 = .ok (.iload_n 2, 1) := by decide +kernel
theorem d_M_make_1 : decode b_M_make 1 = .ok (.iconst 1, 1) := by decide +kernel
theorem d_M_make_2 : decode b_M_make 2 = .ok (.if_icmp .ne 27, 3) := by decide +kernel
theorem d_M_make_5 : decode b_M_make 5 = .ok (.iload_n 3, 1) := by decide +kernel
theorem d_M_make_6 : decode b_M_make 6 = .ok (.iconst 3, 1) := by decide +kernel
theorem d_M_make_7 : decode b_M_make 7 = .ok (.if_icmp .lt 22, 3) := by decide +kernel
theorem d_M_make_10 : decode b_M_make 10 = .ok (.iload_n 3, 1) := by decide +kernel
theorem d_M_make_11 : decode b_M_make 11 = .ok (.bipush 10, 2) := by decide +kernel
theorem d_M_make_13 : decode b_M_make 13 = .ok (.if_icmp .gt 16, 3) := by decide +kernel
theorem d_M_make_16 : decode b_M_make 16 = .ok (.iload 4, 2) := by decide +kernel
theorem d_M_make_18 : decode b_M_make 18 = .ok (.iconst 1, 1) := by decide +kernel
theorem d_M_make_19 : decode b_M_make 19 = .ok (.if_icmp .lt 10, 3) := by decide +kernel
theorem d_M_make_22 : decode b_M_make 22 = .ok (.iload 4, 2) := by decide +kernel
theorem d_M_make_24 : decode b_M_make 24 = .ok (.bipush 6, 2) := by decide +kernel
theorem d_M_make_26 : decode b_M_make 26 = .ok (.if_icmp .le 61, 3) := by decide +kernel
theorem d_M_make_29 : decode b_M_make 29 = .ok (.iload_n 2, 1) := by decide +kernel
theorem d_M_make_30 : decode b_M_make 30 = .ok (.iconst 2, 1) := by decide +kernel
theorem d_M_make_31 : decode b_M_make 31 = .ok (.if_icmp .ne 27, 3) := by decide +kernel
theorem d_M_make_34 : decode b_M_make 34 = .ok (.iload_n 3, 1) := by decide +kernel
theorem d_M_make_35 : decode b_M_make 35 = .ok (.iconst 1, 1) := by decide +kernel
theorem d_M_make_36 : decode b_M_make 36 = .ok (.if_icmp .lt 22, 3) := by decide +kernel
theorem d_M_make_39 : decode b_M_make 39 = .ok (.iload_n 3, 1) := by decide +kernel
theorem d_M_make_40 : decode b_M_make 40 = .ok (.bipush 8, 2) := by decide +kernel
theorem d_M_make_42 : decode b_M_make 42 = .ok (.if_icmp .gt 16, 3) := by decide +kernel
theorem d_M_make_45 : decode b_M_make 45 = .ok (.iload 4, 2) := by decide +kernel
theorem d_M_make_47 : decode b_M_make 47 = .ok (.iconst 4, 1) := by decide +kernel
theorem d_M_make_48 : decode b_M_make 48 = .ok (.if_icmp .lt 10, 3) := by decide +kernel
theorem d_M_make_51 : decode b_M_make 51 = .ok (.iload 4, 2) := by decide +kernel
theorem d_M_make_53 : decode b_M_make 53 = .ok (.bipush 16, 2) := by decide +kernel
theorem d_M_make_55 : decode b_M_make 55 = .ok (.if_icmp .le 32, 3) := by decide +kernel
theorem d_M_make_58 : decode b_M_make 58 = .ok (.iload_n 2, 1) := by decide +kernel
theorem d_M_make_59 : decode b_M_make 59 = .ok (.iconst 3, 1) := by decide +kernel
theorem d_M_make_60 : decode b_M_make 60 = .ok (.if_icmp .ne 31, 3) := by decide +kernel
theorem d_M_make_63 : decode b_M_make 63 = .ok (.iload_n 3, 1) := by decide +kernel
theorem d_M_make_64 : decode b_M_make 64 = .ok (.iconst 2, 1) := by decide +kernel
theorem d_M_make_65 : decode b_M_make 65 = .ok (.if_icmp .lt 26, 3) := by decide +kernel
theorem d_M_make_68 : decode b_M_make 68 = .ok (.iload_n 3, 1) := by decide +kernel
theorem d_M_make_69 : decode b_M_make 69 = .ok (.bipush 8, 2) := by decide +kernel
theorem d_M_make_71 : decode b_M_make 71 = .ok (.if_icmp .gt 20, 3) := by decide +kernel
theorem d_M_make_74 : decode b_M_make 74 = .ok (.iload 4, 2) := by decide +kernel
theorem d_M_make_76 : decode b_M_make 76 = .ok (.iconst 4, 1) := by decide +kernel
theorem d_M_make_77 : decode b_M_make 77 = .ok (.if_icmp .lt 14, 3) := by decide +kernel
theorem d_M_make_80 : decode b_M_make 80 = .ok (.iload 4, 2) := by decide +kernel
theorem d_M_make_82 : decode b_M_make 82 = .ok (.bipush 20, 2) := by decide +kernel
theorem d_M_make_84 : decode b_M_make 84 = .ok (.if_icmp .gt 7, 3) := by decide +kernel
theorem d_M_make_87 : decode b_M_make 87 = .ok (.iconst 1, 1) := by decide +kernel
theorem d_M_make_88 : decode b_M_make 88 = .ok (.goto 4, 3) := by decide +kernel
theorem d_M_make_91 : decode b_M_make 91 = .ok (.iconst 0, 1) := by decide +kernel
theorem d_M_make_92 : decode b_M_make 92 = .ok (.istore 5, 2) := by decide +kernel
theorem d_M_make_94 : decode b_M_make 94 = .ok (.aload_n 0, 1) := by decide +kernel
theorem d_M_make_95 : decode b_M_make 95 = .ok (.iload_n 1, 1) := by decide +kernel
theorem d_M_make_96 : decode b_M_make 96 = .ok (.invokestatic 57, 3) := by decide +kernel
theorem d_M_make_99 : decode b_M_make 99 = .ok (.ifCond .ne 7, 3) := by decide +kernel
theorem d_M_make_102 : decode b_M_make 102 = .ok (.iconst 1, 1) := by decide +kernel
theorem d_M_make_103 : decode b_M_make 103 = .ok (.goto 13, 3) := by decide +kernel
theorem d_M_make_106 : decode b_M_make 106 = .ok (.iload 5, 2) := by decide +kernel
theorem d_M_make_108 : decode b_M_make 108 = .ok (.ifCond .ne 7, 3) := by decide +kernel
theorem d_M_make_111 : decode b_M_make 111 = .ok (.iconst 2, 1) := by decide +kernel
theorem d_M_make_112 : decode b_M_make 112 = .ok (.goto 4, 3) := by decide +kernel
theorem d_M_make_115 : decode b_M_make 115 = .ok (.iconst 0, 1) := by decide +kernel
theorem d_M_make_116 : decode b_M_make 116 = .ok (.putfield 43, 3) := by decide +kernel
theorem d_M_make_119 : decode b_M_make 119 = .ok (.aload_n 0, 1) := by decide +kernel
theorem d_M_make_120 : decode b_M_make 120 = .ok (.getfield 43, 3) := by decide +kernel
theorem d_M_make_123 : decode b_M_make 123 = .ok (.ifCond .ne 30, 3) := by decide +kernel
theorem d_M_make_126 : decode b_M_make 126 = .ok (.aload_n 0, 1) := by decide +kernel
theorem d_M_make_127 : decode b_M_make 127 = .ok (.getfield 7, 3) := by decide +kernel
theorem d_M_make_130 : decode b_M_make 130 = .ok (.iload_n 1, 1) := by decide +kernel
theorem d_M_make_131 : decode b_M_make 131 = .ok (.iload_n 2, 1) := by decide +kernel
theorem d_M_make_132 : decode b_M_make 132 = .ok (.iastore, 1) := by decide +kernel
theorem d_M_make_133 : decode b_M_make 133 = .ok (.aload_n 0, 1) := by decide +kernel
theorem d_M_make_134 : decode b_M_make 134 = .ok (.getfield 13, 3) := by decide +kernel
theorem d_M_make_137 : decode b_M_make 137 = .ok (.iload_n 1, 1) := by decide +kernel
theorem d_M_make_138 : decode b_M_make 138 = .ok (.iload_n 3, 1) := by decide +kernel
theorem d_M_make_139 : decode b_M_make 139 = .ok (.iastore, 1) := by decide +kernel
theorem d_M_make_140 : decode b_M_make 140 = .ok (.aload_n 0, 1) := by decide +kernel
theorem d_M_make_141 : decode b_M_make 141 = .ok (.getfield 16, 3) := by decide +kernel
theorem d_M_make_144 : decode b_M_make 144 = .ok (.iload_n 1, 1) := by decide +kernel
theorem d_M_make_145 : decode b_M_make 145 = .ok (.iload 4, 2) := by decide +kernel
theorem d_M_make_147 : decode b_M_make 147 = .ok (.iastore, 1) := by decide +kernel
theorem d_M_make_148 : decode b_M_make 148 = .ok (.aload_n 0, 1) := by decide +kernel
theorem d_M_make_149 : decode b_M_make 149 = .ok (.iload_n 1, 1) := by decide +kernel
theorem d_M_make_150 : decode b_M_make 150 = .ok (.invokevirtual 112, 3) := by decide +kernel
theorem d_M_make_153 : decode b_M_make 153 = .ok (.return_, 1) := by decide +kernel
theorem d_M_empty_0 : decode b_M_empty 0 = .ok (.aload_n 0, 1) := by decide +kernel
theorem d_M_empty_1 : decode b_M_empty 1 = .ok (.getfield 19, 3) := by decide +kernel
theorem d_M_empty_4 : decode b_M_empty 4 = .ok (.iload_n 1, 1) := by decide +kernel
theorem d_M_empty_5 : decode b_M_empty 5 = .ok (.iconst 0, 1) := by decide +kernel
theorem d_M_empty_6 : decode b_M_empty 6 = .ok (.iastore, 1) := by decide +kernel
theorem d_M_empty_7 : decode b_M_empty 7 = .ok (.aload_n 0, 1) := by decide +kernel
theorem d_M_empty_8 : decode b_M_empty 8 = .ok (.getfield 22, 3) := by decide +kernel
theorem d_M_empty_11 : decode b_M_empty 11 = .ok (.iload_n 1, 1) := by decide +kernel
theorem d_M_empty_12 : decode b_M_empty 12 = .ok (.iconst 0, 1) := by decide +kernel
theorem d_M_empty_13 : decode b_M_empty 13 = .ok (.iastore, 1) := by decide +kernel
theorem d_M_empty_14 : decode b_M_empty 14 = .ok (.iconst 0, 1) := by decide +kernel
theorem d_M_empty_15 : decode b_M_empty 15 = .ok (.istore_n 2, 1) := by decide +kernel
theorem d_M_empty_16 : decode b_M_empty 16 = .ok (.iload_n 2, 1) := by decide +kernel
theorem d_M_empty_17 : decode b_M_empty 17 = .ok (.sipush 1024, 3) := by decide +kernel
theorem d_M_empty_20 : decode b_M_empty 20 = .ok (.if_icmp .ge 22, 3) := by decide +kernel
theorem d_M_empty_23 : decode b_M_empty 23 = .ok (.aload_n 0, 1) := by decide +kernel
theorem d_M_empty_24 : decode b_M_empty 24 = .ok (.getfield 25, 3) := by decide +kernel
theorem d_M_empty_27 : decode b_M_empty 27 = .ok (.sipush 1024, 3) := by decide +kernel
theorem d_M_empty_30 : decode b_M_empty 30 = .ok (.iload_n 1, 1) := by decide +kernel
theorem d_M_empty_31 : decode b_M_empty 31 = .ok (.imul, 1) := by decide +kernel
theorem d_M_empty_32 : decode b_M_empty 32 = .ok (.iload_n 2, 1) := by decide +kernel
theorem d_M_empty_33 : decode b_M_empty 33 = .ok (.iadd, 1) := by decide +kernel
theorem d_M_empty_34 : decode b_M_empty 34 = .ok (.iconst 0, 1) := by decide +kernel
theorem d_M_empty_35 : decode b_M_empty 35 = .ok (.iastore, 1) := by decide +kernel
theorem d_M_empty_36 : decode b_M_empty 36 = .ok (.iinc 2 1, 3) := by decide +kernel
theorem d_M_empty_39 : decode b_M_empty 39 = .ok (.goto (-23), 3) := by decide +kernel
theorem d_M_empty_42 : decode b_M_empty 42 = .ok (.return_, 1) := by decide +kernel
theorem d_M_add_0 : decode b_M_add 0 = .ok (.aload_n 0, 1) := by decide +kernel
theorem d_M_add_1 : decode b_M_add 1 = .ok (.aload_n 0, 1) := by decide +kernel
theorem d_M_add_2 : decode b_M_add 2 = .ok (.iload_n 1, 1) := by decide +kernel
theorem d_M_add_3 : decode b_M_add 3 = .ok (.invokevirtual 116, 3) := by decide +kernel
theorem d_M_add_6 : decode b_M_add 6 = .ok (.putfield 43, 3) := by decide +kernel
theorem d_M_add_9 : decode b_M_add 9 = .ok (.aload_n 0, 1) := by decide +kernel
theorem d_M_add_10 : decode b_M_add 10 = .ok (.getfield 43, 3) := by decide +kernel
theorem d_M_add_13 : decode b_M_add 13 = .ok (.ifCond .le 5, 3) := by decide +kernel
theorem d_M_add_16 : decode b_M_add 16 = .ok (.iconst 0, 1) := by decide +kernel
theorem d_M_add_17 : decode b_M_add 17 = .ok (.ireturn, 1) := by decide +kernel
theorem d_M_add_18 : decode b_M_add 18 = .ok (.aload_n 0, 1) := by decide +kernel
theorem d_M_add_19 : decode b_M_add 19 = .ok (.aload_n 0, 1) := by decide +kernel
theorem d_M_add_20 : decode b_M_add 20 = .ok (.iload_n 1, 1) := by decide +kernel
theorem d_M_add_21 : decode b_M_add 21 = .ok (.lload_n 2, 1) := by decide +kernel
theorem d_M_add_22 : decode b_M_add 22 = .ok (.invokevirtual 120, 3) := by decide +kernel
theorem d_M_add_25 : decode b_M_add 25 = .ok (.ifCond .eq 7, 3) := by decide +kernel
theorem d_M_add_28 : decode b_M_add 28 = .ok (.iconst 0, 1) := by decide +kernel
theorem d_M_add_29 : decode b_M_add 29 = .ok (.goto 4, 3) := by decide +kernel
theorem d_M_add_32 : decode b_M_add 32 = .ok (.iconst 3, 1) := by decide +kernel
theorem d_M_add_33 : decode b_M_add 33 = .ok (.putfield 43, 3) := by decide +kernel
theorem d_M_add_36 : decode b_M_add 36 = .ok (.aload_n 0, 1) := by decide +kernel
theorem d_M_add_37 : decode b_M_add 37 = .ok (.getfield 43, 3) := by decide +kernel
theorem d_M_add_40 : decode b_M_add 40 = .ok (.ifCond .le 7, 3) := by decide +kernel
theorem d_M_add_43 : decode b_M_add 43 = .ok (.iconst 0, 1) := by decide +kernel
theorem d_M_add_44 : decode b_M_add 44 = .ok (.goto 9, 3) := by decide +kernel
theorem d_M_add_47 : decode b_M_add 47 = .ok (.aload_n 0, 1) := by decide +kernel
theorem d_M_add_48 : decode b_M_add 48 = .ok (.getfield 19, 3) := by decide +kernel
theorem d_M_add_51 : decode b_M_add 51 = .ok (.iload_n 1, 1) := by decide +kernel
theorem d_M_add_52 : decode b_M_add 52 = .ok (.iaload, 1) := by decide +kernel
theorem d_M_add_53 : decode b_M_add 53 = .ok (.ireturn, 1) := by decide +kernel
theorem d_M_addAll_0 : decode b_M_addAll 0 = .ok (.aload_n 0, 1) := by decide +kernel
theorem d_M_addAll_1 : decode b_M_addAll 1 = .ok (.aload_n 0, 1) := by decide +kernel
theorem d_M_addAll_2 : decode b_M_addAll 2 = .ok (.iload_n 1, 1) := by decide +kernel
theorem d_M_addAll_3 : decode b_M_addAll 3 = .ok (.invokevirtual 116, 3) := by decide +kernel
theorem d_M_addAll_6 : decode b_M_addAll 6 = .ok (.ifCond .le 11, 3) := by decide +kernel
theorem d_M_addAll_9 : decode b_M_addAll 9 = .ok (.aload_n 0, 1) := by decide +kernel
theorem d_M_addAll_10 : decode b_M_addAll 10 = .ok (.iload_n 1, 1) := by decide +kernel
theorem d_M_addAll_11 : decode b_M_addAll 11 = .ok (.invokevirtual 116, 3) := by decide +kernel
theorem d_M_addAll_14 : decode b_M_addAll 14 = .ok (.goto 21, 3) := by decide +kernel
theorem d_M_addAll_17 : decode b_M_addAll 17 = .ok (.iload 6, 2) := by decide +kernel
theorem d_M_addAll_19 : decode b_M_addAll 19 = .ok (.ifCond .lt 11, 3) := by decide +kernel
theorem d_M_addAll_22 : decode b_M_addAll 22 = .ok (.iload 6, 2) := by decide +kernel
theorem d_M_addAll_24 : decode b_M_addAll 24 = .ok (.sipush 400, 3) := by decide +kernel
theorem d_M_addAll_27 : decode b_M_addAll 27 = .ok (.if_icmp .le 7, 3) := by decide +kernel
theorem d_M_addAll_30 : decode b_M_addAll 30 = .ok (.iconst 3, 1) := by decide +kernel
theorem d_M_addAll_31 : decode b_M_addAll 31 = .ok (.goto 4, 3) := by decide +kernel
theorem d_M_addAll_34 : decode b_M_addAll 34 = .ok (.iconst 0, 1) := by decide +kernel
theorem d_M_addAll_35 : decode b_M_addAll 35 = .ok (.putfield 43, 3) := by decide +kernel
theorem d_M_addAll_38 : decode b_M_addAll 38 = .ok (.aload_n 0, 1) := by decide +kernel
theorem d_M_addAll_39 : decode b_M_addAll 39 = .ok (.getfield 43, 3) := by decide +kernel
theorem d_M_addAll_42 : decode b_M_addAll 42 = .ok (.ifCond .le 5, 3) := by decide +kernel
theorem d_M_addAll_45 : decode b_M_addAll 45 = .ok (.iconst 0, 1) := by decide +kernel
theorem d_M_addAll_46 : decode b_M_addAll 46 = .ok (.ireturn, 1) := by decide +kernel
theorem d_M_addAll_47 : decode b_M_addAll 47 = .ok (.iconst 0, 1) := by decide +kernel
theorem d_M_addAll_48 : decode b_M_addAll 48 = .ok (.istore 7, 2) := by decide +kernel
theorem d_M_addAll_50 : decode b_M_addAll 50 = .ok (.iload 7, 2) := by decide +kernel
theorem d_M_addAll_52 : decode b_M_addAll 52 = .ok (.iload 6, 2) := by decide +kernel
theorem d_M_addAll_54 : decode b_M_addAll 54 = .ok (.if_icmp .ge 25, 3) := by decide +kernel
theorem d_M_addAll_57 : decode b_M_addAll 57 = .ok (.aload_n 0, 1) := by decide +kernel
theorem d_M_addAll_58 : decode b_M_addAll 58 = .ok (.iload_n 1, 1) := by decide +kernel
theorem d_M_addAll_59 : decode b_M_addAll 59 = .ok (.lload_n 2, 1) := by decide +kernel
theorem d_M_addAll_60 : decode b_M_addAll 60 = .ok (.iload 7, 2) := by decide +kernel
theorem d_M_addAll_62 : decode b_M_addAll 62 = .ok (.i2l, 1) := by decide +kernel
theorem d_M_addAll_63 : decode b_M_addAll 63 = .ok (.lload 4, 2) := by decide +kernel
theorem d_M_addAll_65 : decode b_M_addAll 65 = .ok (.lmul, 1) := by decide +kernel
theorem d_M_addAll_66 : decode b_M_addAll 66 = .ok (.ladd, 1) := by decide +kernel
theorem d_M_addAll_67 : decode b_M_addAll 67 = .ok (.invokevirtual 120, 3) := by decide +kernel
theorem d_M_addAll_70 : decode b_M_addAll 70 = .ok (.ifCond .eq 9, 3) := by decide +kernel
theorem d_M_addAll_73 : decode b_M_addAll 73 = .ok (.iinc 7 1, 3) := by decide +kernel
theorem d_M_addAll_76 : decode b_M_addAll 76 = .ok (.goto (-26), 3) := by decide +kernel
theorem d_M_addAll_79 : decode b_M_addAll 79 = .ok (.iload 7, 2) := by decide +kernel
theorem d_M_addAll_81 : decode b_M_addAll 81 = .ok (.ireturn, 1) := by decide +kernel
theorem d_M_remove_0 : decode b_M_remove 0 = .ok (.aload_n 0, 1) := by decide +kernel
theorem d_M_remove_1 : decode b_M_remove 1 = .ok (.aload_n 0, 1) := by decide +kernel
theorem d_M_remove_2 : decode b_M_remove 2 = .ok (.iload_n 1, 1) := by decide +kernel
theorem d_M_remove_3 : decode b_M_remove 3 = .ok (.invokevirtual 116, 3) := by decide +kernel
theorem d_M_remove_6 : decode b_M_remove 6 = .ok (.putfield 43, 3) := by decide +kernel
theorem d_M_remove_9 : decode b_M_remove 9 = .ok (.aload_n 0, 1) := by decide +kernel
theorem d_M_remove_10 : decode b_M_remove 10 = .ok (.getfield 43, 3) := by decide +kernel
theorem d_M_remove_13 : decode b_M_remove 13 = .ok (.ifCond .le 5, 3) := by decide +kernel
theorem d_M_remove_16 : decode b_M_remove 16 = .ok (.iconst 0, 1) := by decide +kernel
theorem d_M_remove_17 : decode b_M_remove 17 = .ok (.ireturn, 1) := by decide +kernel
theorem d_M_remove_18 : decode b_M_remove 18 = .ok (.iconst 0, 1) := by decide +kernel
theorem d_M_remove_19 : decode b_M_remove 19 = .ok (.istore 4, 2) := by decide +kernel
theorem d_M_remove_21 : decode b_M_remove 21 = .ok (.aload_n 0, 1) := by decide +kernel
theorem d_M_remove_22 : decode b_M_remove 22 = .ok (.getfield 7, 3) := by decide +kernel
theorem d_M_remove_25 : decode b_M_remove 25 = .ok (.iload_n 1, 1) := by decide +kernel
theorem d_M_remove_26 : decode b_M_remove 26 = .ok (.iaload, 1) := by decide +kernel
theorem d_M_remove_27 : decode b_M_remove 27 = .ok (.iconst 1, 1) := by decide +kernel
theorem d_M_remove_28 : decode b_M_remove 28 = .ok (.if_icmp .ne 15, 3) := by decide +kernel
theorem d_M_remove_31 : decode b_M_remove 31 = .ok (.aload_n 0, 1) := by decide +kernel
theorem d_M_remove_32 : decode b_M_remove 32 = .ok (.iload_n 1, 1) := by decide +kernel
theorem d_M_remove_33 : decode b_M_remove 33 = .ok (.lload_n 2, 1) := by decide +kernel
theorem d_M_remove_34 : decode b_M_remove 34 = .ok (.iconst (-1), 1) := by decide +kernel
theorem d_M_remove_35 : decode b_M_remove 35 = .ok (.invokevirtual 101, 3) := by decide +kernel
theorem d_M_remove_38 : decode b_M_remove 38 = .ok (.istore 4, 2) := by decide +kernel
theorem d_M_remove_40 : decode b_M_remove 40 = .ok (.goto 193, 3) := by decide +kernel
theorem d_M_remove_43 : decode b_M_remove 43 = .ok (.aload_n 0, 1) := by decide +kernel
theorem d_M_remove_44 : decode b_M_remove 44 = .ok (.getfield 7, 3) := by decide +kernel
theorem d_M_remove_47 : decode b_M_remove 47 = .ok (.iload_n 1, 1) := by decide +kernel
theorem d_M_remove_48 : decode b_M_remove 48 = .ok (.iaload, 1) := by decide +kernel
theorem d_M_remove_49 : decode b_M_remove 49 = .ok (.iconst 2, 1) := by decide +kernel
theorem d_M_remove_50 : decode b_M_remove 50 = .ok (.if_icmp .ne 102, 3) := by decide +kernel
theorem d_M_remove_53 : decode b_M_remove 53 = .ok (.aload_n 0, 1) := by decide +kernel
theorem d_M_remove_54 : decode b_M_remove 54 = .ok (.iload_n 1, 1) := by decide +kernel
theorem d_M_remove_55 : decode b_M_remove 55 = .ok (.lload_n 2, 1) := by decide +kernel
theorem d_M_remove_56 : decode b_M_remove 56 = .ok (.invokevirtual 67, 3) := by decide +kernel
theorem d_M_remove_59 : decode b_M_remove 59 = .ok (.istore 5, 2) := by decide +kernel
theorem d_M_remove_61 : decode b_M_remove 61 = .ok (.aload_n 0, 1) := by decide +kernel
theorem d_M_remove_62 : decode b_M_remove 62 = .ok (.iload_n 1, 1) := by decide +kernel
theorem d_M_remove_63 : decode b_M_remove 63 = .ok (.lload_n 2, 1) := by decide +kernel
theorem d_M_remove_64 : decode b_M_remove 64 = .ok (.invokevirtual 71, 3) := by decide +kernel
theorem d_M_remove_67 : decode b_M_remove 67 = .ok (.istore 6, 2) := by decide +kernel
theorem d_M_remove_69 : decode b_M_remove 69 = .ok (.aload_n 0, 1) := by decide +kernel
theorem d_M_remove_70 : decode b_M_remove 70 = .ok (.aload_n 0, 1) := by decide +kernel
theorem d_M_remove_71 : decode b_M_remove 71 = .ok (.getfield 25, 3) := by decide +kernel
theorem d_M_remove_74 : decode b_M_remove 74 = .ok (.sipush 1024, 3) := by decide +kernel
theorem d_M_remove_77 : decode b_M_remove 77 = .ok (.iload_n 1, 1) := by decide +kernel
theorem d_M_remove_78 : decode b_M_remove 78 = .ok (.imul, 1) := by decide +kernel
theorem d_M_remove_79 : decode b_M_remove 79 = .ok (.iload 6, 2) := by decide +kernel
theorem d_M_remove_81 : decode b_M_remove 81 = .ok (.iload 5, 2) := by decide +kernel
theorem d_M_remove_83 : decode b_M_remove 83 = .ok (.invokevirtual 74, 3) := by decide +kernel
theorem d_M_remove_86 : decode b_M_remove 86 = .ok (.istore 7, 2) := by decide +kernel
theorem d_M_remove_88 : decode b_M_remove 88 = .ok (.iload 7, 2) := by decide +kernel
theorem d_M_remove_90 : decode b_M_remove 90 = .ok (.ifCond .lt 8, 3) := by decide +kernel
theorem d_M_remove_93 : decode b_M_remove 93 = .ok (.iload 7, 2) := by decide +kernel
theorem d_M_remove_95 : decode b_M_remove 95 = .ok (.goto 27, 3) := by decide +kernel
theorem d_M_remove_98 : decode b_M_remove 98 = .ok (.aload_n 0, 1) := by decide +kernel
theorem d_M_remove_99 : decode b_M_remove 99 = .ok (.aload_n 0, 1) := by decide +kernel
theorem d_M_remove_100 : decode b_M_remove 100 = .ok (.getfield 25, 3) := by decide +kernel
theorem d_M_remove_103 : decode b_M_remove 103 = .ok (.sipush 1024, 3) := by decide +kernel
theorem d_M_remove_106 : decode b_M_remove 106 = .ok (.iload_n 1, 1) := by decide +kernel
theorem d_M_remove_107 : decode b_M_remove 107 = .ok (.imul, 1) := by decide +kernel
theorem d_M_remove_108 : decode b_M_remove 108 = .ok (.aload_n 0, 1) := by decide +kernel
theorem d_M_remove_109 : decode b_M_remove 109 = .ok (.iload_n 1, 1) := by decide +kernel
theorem d_M_remove_110 : decode b_M_remove 110 = .ok (.iload 5, 2) := by decide +kernel
theorem d_M_remove_112 : decode b_M_remove 112 = .ok (.iload 6, 2) := by decide +kernel
theorem d_M_remove_114 : decode b_M_remove 114 = .ok (.invokevirtual 78, 3) := by decide +kernel
theorem d_M_remove_117 : decode b_M_remove 117 = .ok (.iload 5, 2) := by decide +kernel
theorem d_M_remove_119 : decode b_M_remove 119 = .ok (.invokevirtual 74, 3) := by decide +kernel
theorem d_M_remove_122 : decode b_M_remove 122 = .ok (.istore 7, 2) := by decide +kernel
theorem d_M_remove_124 : decode b_M_remove 124 = .ok (.iload 7, 2) := by decide +kernel
theorem d_M_remove_126 : decode b_M_remove 126 = .ok (.ifCond .lt 7, 3) := by decide +kernel
theorem d_M_remove_129 : decode b_M_remove 129 = .ok (.iconst 1, 1) := by decide +kernel
theorem d_M_remove_130 : decode b_M_remove 130 = .ok (.goto 4, 3) := by decide +kernel
theorem d_M_remove_133 : decode b_M_remove 133 = .ok (.iconst 0, 1) := by decide +kernel
theorem d_M_remove_134 : decode b_M_remove 134 = .ok (.istore 4, 2) := by decide +kernel
theorem d_M_remove_136 : decode b_M_remove 136 = .ok (.iload 4, 2) := by decide +kernel
theorem d_M_remove_138 : decode b_M_remove 138 = .ok (.ifCond .eq 11, 3) := by decide +kernel
theorem d_M_remove_141 : decode b_M_remove 141 = .ok (.aload_n 0, 1) := by decide +kernel
theorem d_M_remove_142 : decode b_M_remove 142 = .ok (.getfield 25, 3) := by decide +kernel
theorem d_M_remove_145 : decode b_M_remove 145 = .ok (.iload 7, 2) := by decide +kernel
theorem d_M_remove_147 : decode b_M_remove 147 = .ok (.iconst 0, 1) := by decide +kernel
theorem d_M_remove_148 : decode b_M_remove 148 = .ok (.iastore, 1) := by decide +kernel
theorem d_M_remove_149 : decode b_M_remove 149 = .ok (.goto 84, 3) := by decide +kernel
theorem d_M_remove_152 : decode b_M_remove 152 = .ok (.aload_n 0, 1) := by decide +kernel
theorem d_M_remove_153 : decode b_M_remove 153 = .ok (.iload_n 1, 1) := by decide +kernel
theorem d_M_remove_154 : decode b_M_remove 154 = .ok (.aload_n 0, 1) := by decide +kernel
theorem d_M_remove_155 : decode b_M_remove 155 = .ok (.iload_n 1, 1) := by decide +kernel
theorem d_M_remove_156 : decode b_M_remove 156 = .ok (.lload_n 2, 1) := by decide +kernel
theorem d_M_remove_157 : decode b_M_remove 157 = .ok (.invokevirtual 82, 3) := by decide +kernel
theorem d_M_remove_160 : decode b_M_remove 160 = .ok (.invokevirtual 85, 3) := by decide +kernel
theorem d_M_remove_163 : decode b_M_remove 163 = .ok (.istore 5, 2) := by decide +kernel
theorem d_M_remove_165 : decode b_M_remove 165 = .ok (.iload 5, 2) := by decide +kernel
theorem d_M_remove_167 : decode b_M_remove 167 = .ok (.ifCond .lt 7, 3) := by decide +kernel
theorem d_M_remove_170 : decode b_M_remove 170 = .ok (.iconst 1, 1) := by decide +kernel
theorem d_M_remove_171 : decode b_M_remove 171 = .ok (.goto 4, 3) := by decide +kernel
theorem d_M_remove_174 : decode b_M_remove 174 = .ok (.iconst 0, 1) := by decide +kernel
theorem d_M_remove_175 : decode b_M_remove 175 = .ok (.istore 4, 2) := by decide +kernel
theorem d_M_remove_177 : decode b_M_remove 177 = .ok (.iload 5, 2) := by decide +kernel
theorem d_M_remove_179 : decode b_M_remove 179 = .ok (.istore 6, 2) := by decide +kernel
theorem d_M_remove_181 : decode b_M_remove 181 = .ok (.iload 4, 2) := by decide +kernel
theorem d_M_remove_183 : decode b_M_remove 183 = .ok (.ifCond .eq 50, 3) := by decide +kernel
theorem d_M_remove_186 : decode b_M_remove 186 = .ok (.iload 6, 2) := by decide +kernel
theorem d_M_remove_188 : decode b_M_remove 188 = .ok (.iconst 1, 1) := by decide +kernel
theorem d_M_remove_189 : decode b_M_remove 189 = .ok (.iadd, 1) := by decide +kernel
theorem d_M_remove_190 : decode b_M_remove 190 = .ok (.aload_n 0, 1) := by decide +kernel
theorem d_M_remove_191 : decode b_M_remove 191 = .ok (.getfield 19, 3) := by decide +kernel
theorem d_M_remove_194 : decode b_M_remove 194 = .ok (.iload_n 1, 1) := by decide +kernel
theorem d_M_remove_195 : decode b_M_remove 195 = .ok (.iaload, 1) := by decide +kernel
theorem d_M_remove_196 : decode b_M_remove 196 = .ok (.if_icmp .ge 37, 3) := by decide +kernel
theorem d_M_remove_199 : decode b_M_remove 199 = .ok (.aload_n 0, 1) := by decide +kernel
theorem d_M_remove_200 : decode b_M_remove 200 = .ok (.getfield 28, 3) := by decide +kernel
theorem d_M_remove_203 : decode b_M_remove 203 = .ok (.sipush 256, 3) := by decide +kernel
theorem d_M_remove_206 : decode b_M_remove 206 = .ok (.iload_n 1, 1) := by decide +kernel
theorem d_M_remove_207 : decode b_M_remove 207 = .ok (.imul, 1) := by decide +kernel
theorem d_M_remove_208 : decode b_M_remove 208 = .ok (.iload 6, 2) := by decide +kernel
theorem d_M_remove_210 : decode b_M_remove 210 = .ok (.iadd, 1) := by decide +kernel
theorem d_M_remove_211 : decode b_M_remove 211 = .ok (.aload_n 0, 1) := by decide +kernel
theorem d_M_remove_212 : decode b_M_remove 212 = .ok (.getfield 28, 3) := by decide +kernel
theorem d_M_remove_215 : decode b_M_remove 215 = .ok (.sipush 256, 3) := by decide +kernel
theorem d_M_remove_218 : decode b_M_remove 218 = .ok (.iload_n 1, 1) := by decide +kernel
theorem d_M_remove_219 : decode b_M_remove 219 = .ok (.imul, 1) := by decide +kernel
theorem d_M_remove_220 : decode b_M_remove 220 = .ok (.iload 6, 2) := by decide +kernel
theorem d_M_remove_222 : decode b_M_remove 222 = .ok (.iadd, 1) := by decide +kernel
theorem d_M_remove_223 : decode b_M_remove 223 = .ok (.iconst 1, 1) := by decide +kernel
theorem d_M_remove_224 : decode b_M_remove 224 = .ok (.iadd, 1) := by decide +kernel
theorem d_M_remove_225 : decode b_M_remove 225 = .ok (.iaload, 1) := by decide +kernel
theorem d_M_remove_226 : decode b_M_remove 226 = .ok (.iastore, 1) := by decide +kernel
theorem d_M_remove_227 : decode b_M_remove 227 = .ok (.iinc 6 1, 3) := by decide +kernel
theorem d_M_remove_230 : decode b_M_remove 230 = .ok (.goto (-49), 3) := by decide +kernel
theorem d_M_remove_233 : decode b_M_remove 233 = .ok (.aload_n 0, 1) := by decide +kernel
theorem d_M_remove_234 : decode b_M_remove 234 = .ok (.iload 4, 2) := by decide +kernel
theorem d_M_remove_236 : decode b_M_remove 236 = .ok (.ifCond .eq 7, 3) := by decide +kernel
theorem d_M_remove_239 : decode b_M_remove 239 = .ok (.iconst 0, 1) := by decide +kernel
theorem d_M_remove_240 : decode b_M_remove 240 = .ok (.goto 4, 3) := by decide +kernel
theorem d_M_remove_243 : decode b_M_remove 243 = .ok (.iconst 3, 1) := by decide +kernel
theorem d_M_remove_244 : decode b_M_remove 244 = .ok (.putfield 43, 3) := by decide +kernel
theorem d_M_remove_247 : decode b_M_remove 247 = .ok (.aload_n 0, 1) := by decide +kernel
theorem d_M_remove_248 : decode b_M_remove 248 = .ok (.getfield 19, 3) := by decide +kernel
theorem d_M_remove_251 : decode b_M_remove 251 = .ok (.iload_n 1, 1) := by decide +kernel
theorem d_M_remove_252 : decode b_M_remove 252 = .ok (.iload 4, 2) := by decide +kernel
theorem d_M_remove_254 : decode b_M_remove 254 = .ok (.ifCond .eq 14, 3) := by decide +kernel
theorem d_M_remove_257 : decode b_M_remove 257 = .ok (.aload_n 0, 1) := by decide +kernel
theorem d_M_remove_258 : decode b_M_remove 258 = .ok (.getfield 19, 3) := by decide +kernel
theorem d_M_remove_261 : decode b_M_remove 261 = .ok (.iload_n 1, 1) := by decide +kernel
theorem d_M_remove_262 : decode b_M_remove 262 = .ok (.iaload, 1) := by decide +kernel
theorem d_M_remove_263 : decode b_M_remove 263 = .ok (.iconst 1, 1) := by decide +kernel
theorem d_M_remove_264 : decode b_M_remove 264 = .ok (.isub, 1) := by decide +kernel
theorem d_M_remove_265 : decode b_M_remove 265 = .ok (.goto 9, 3) := by decide +kernel
theorem d_M_remove_268 : decode b_M_remove 268 = .ok (.aload_n 0, 1) := by decide +kernel
theorem d_M_remove_269 : decode b_M_remove 269 = .ok (.getfield 19, 3) := by decide +kernel
theorem d_M_remove_272 : decode b_M_remove 272 = .ok (.iload_n 1, 1) := by decide +kernel
theorem d_M_remove_273 : decode b_M_remove 273 = .ok (.iaload, 1) := by decide +kernel
theorem d_M_remove_274 : decode b_M_remove 274 = .ok (.iastore, 1) := by decide +kernel
theorem d_M_remove_275 : decode b_M_remove 275 = .ok (.iload 4, 2) := by decide +kernel
theorem d_M_remove_277 : decode b_M_remove 277 = .ok (.ifCond .eq 12, 3) := by decide +kernel
theorem d_M_remove_280 : decode b_M_remove 280 = .ok (.aload_n 0, 1) := by decide +kernel
theorem d_M_remove_281 : decode b_M_remove 281 = .ok (.getfield 19, 3) := by decide +kernel
theorem d_M_remove_284 : decode b_M_remove 284 = .ok (.iload_n 1, 1) := by decide +kernel
theorem d_M_remove_285 : decode b_M_remove 285 = .ok (.iaload, 1) := by decide +kernel
theorem d_M_remove_286 : decode b_M_remove 286 = .ok (.goto 4, 3) := by decide +kernel
theorem d_M_remove_289 : decode b_M_remove 289 = .ok (.iconst 0, 1) := by decide +kernel
theorem d_M_remove_290 : decode b_M_remove 290 = .ok (.ireturn, 1) := by decide +kernel
theorem d_M_has_0 : decode b_M_has 0 = .ok (.aload_n 0, 1) := by decide +kernel
theorem d_M_has_1 : decode b_M_has 1 = .ok (.aload_n 0, 1) := by decide +kernel
theorem d_M_has_2 : decode b_M_has 2 = .ok (.iload_n 1, 1) := by decide +kernel
theorem d_M_has_3 : decode b_M_has 3 = .ok (.invokevirtual 116, 3) := by decide +kernel
theorem d_M_has_6 : decode b_M_has 6 = .ok (.putfield 43, 3) := by decide +kernel
theorem d_M_has_9 : decode b_M_has 9 = .ok (.aload_n 0, 1) := by decide +kernel
theorem d_M_has_10 : decode b_M_has 10 = .ok (.getfield 43, 3) := by decide +kernel
theorem d_M_has_13 : decode b_M_has 13 = .ok (.ifCond .ne 16, 3) := by decide +kernel
theorem d_M_has_16 : decode b_M_has 16 = .ok (.aload_n 0, 1) := by decide +kernel
theorem d_M_has_17 : decode b_M_has 17 = .ok (.iload_n 1, 1) := by decide +kernel
theorem d_M_has_18 : decode b_M_has 18 = .ok (.lload_n 2, 1) := by decide +kernel
theorem d_M_has_19 : decode b_M_has 19 = .ok (.invokevirtual 123, 3) := by decide +kernel
theorem d_M_has_22 : decode b_M_has 22 = .ok (.ifCond .eq 7, 3) := by decide +kernel
theorem d_M_has_25 : decode b_M_has 25 = .ok (.iconst 1, 1) := by decide +kernel
theorem d_M_has_26 : decode b_M_has 26 = .ok (.goto 4, 3) := by decide +kernel
theorem d_M_has_29 : decode b_M_has 29 = .ok (.iconst 0, 1) := by decide +kernel
theorem d_M_has_30 : decode b_M_has 30 = .ok (.ireturn, 1) := by decide +kernel
theorem d_M_hasAll_0 : decode b_M_hasAll 0 = .ok (.aload_n 0, 1) := by decide +kernel
theorem d_M_hasAll_1 : decode b_M_hasAll 1 = .ok (.aload_n 0, 1) := by decide +kernel
theorem d_M_hasAll_2 : decode b_M_hasAll 2 = .ok (.iload_n 1, 1) := by decide +kernel
theorem d_M_hasAll_3 : decode b_M_hasAll 3 = .ok (.invokevirtual 116, 3) := by decide +kernel
theorem d_M_hasAll_6 : decode b_M_hasAll 6 = .ok (.ifCond .le 11, 3) := by decide +kernel
theorem d_M_hasAll_9 : decode b_M_hasAll 9 = .ok (.aload_n 0, 1) := by decide +kernel
theorem d_M_hasAll_10 : decode b_M_hasAll 10 = .ok (.iload_n 1, 1) := by decide +kernel
theorem d_M_hasAll_11 : decode b_M_hasAll 11 = .ok (.invokevirtual 116, 3) := by decide +kernel
theorem d_M_hasAll_14 : decode b_M_hasAll 14 = .ok (.goto 21, 3) := by decide +kernel
theorem d_M_hasAll_17 : decode b_M_hasAll 17 = .ok (.iload 6, 2) := by decide +kernel
theorem d_M_hasAll_19 : decode b_M_hasAll 19 = .ok (.ifCond .lt 11, 3) := by decide +kernel
theorem d_M_hasAll_22 : decode b_M_hasAll 22 = .ok (.iload 6, 2) := by decide +kernel
theorem d_M_hasAll_24 : decode b_M_hasAll 24 = .ok (.sipush 400, 3) := by decide +kernel
theorem d_M_hasAll_27 : decode b_M_hasAll 27 = .ok (.if_icmp .le 7, 3) := by decide +kernel
theorem d_M_hasAll_30 : decode b_M_hasAll 30 = .ok (.iconst 3, 1) := by decide +kernel
theorem d_M_hasAll_31 : decode b_M_hasAll 31 = .ok (.goto 4, 3) := by decide +kernel
theorem d_M_hasAll_34 : decode b_M_hasAll 34 = .ok (.iconst 0, 1) := by decide +kernel
theorem d_M_hasAll_35 : decode b_M_hasAll 35 = .ok (.putfield 43, 3) := by decide +kernel
theorem d_M_hasAll_38 : decode b_M_hasAll 38 = .ok (.iconst 0, 1) := by decide +kernel
theorem d_M_hasAll_39 : decode b_M_hasAll 39 = .ok (.istore 7, 2) := by decide +kernel
theorem d_M_hasAll_41 : decode b_M_hasAll 41 = .ok (.iconst 0, 1) := by decide +kernel
theorem d_M_hasAll_42 : decode b_M_hasAll 42 = .ok (.istore 8, 2) := by decide +kernel
theorem d_M_hasAll_44 : decode b_M_hasAll 44 = .ok (.aload_n 0, 1) := by decide +kernel
theorem d_M_hasAll_45 : decode b_M_hasAll 45 = .ok (.getfield 43, 3) := by decide +kernel
theorem d_M_hasAll_48 : decode b_M_hasAll 48 = .ok (.ifCond .ne 43, 3) := by decide +kernel
theorem d_M_hasAll_51 : decode b_M_hasAll 51 = .ok (.iload 8, 2) := by decide +kernel
theorem d_M_hasAll_53 : decode b_M_hasAll 53 = .ok (.iload 6, 2) := by decide +kernel
theorem d_M_hasAll_55 : decode b_M_hasAll 55 = .ok (.if_icmp .ge 36, 3) := by decide +kernel
theorem d_M_hasAll_58 : decode b_M_hasAll 58 = .ok (.aload_n 0, 1) := by decide +kernel
theorem d_M_hasAll_59 : decode b_M_hasAll 59 = .ok (.iload_n 1, 1) := by decide +kernel
theorem d_M_hasAll_60 : decode b_M_hasAll 60 = .ok (.lload_n 2, 1) := by decide +kernel
theorem d_M_hasAll_61 : decode b_M_hasAll 61 = .ok (.iload 8, 2) := by decide +kernel
theorem d_M_hasAll_63 : decode b_M_hasAll 63 = .ok (.i2l, 1) := by decide +kernel
theorem d_M_hasAll_64 : decode b_M_hasAll 64 = .ok (.lload 4, 2) := by decide +kernel
theorem d_M_hasAll_66 : decode b_M_hasAll 66 = .ok (.lmul, 1) := by decide +kernel
theorem d_M_hasAll_67 : decode b_M_hasAll 67 = .ok (.ladd, 1) := by decide +kernel
theorem d_M_hasAll_68 : decode b_M_hasAll 68 = .ok (.invokevirtual 123, 3) := by decide +kernel
theorem d_M_hasAll_71 : decode b_M_hasAll 71 = .ok (.ifCond .eq 10, 3) := by decide +kernel
theorem d_M_hasAll_74 : decode b_M_hasAll 74 = .ok (.iload 7, 2) := by decide +kernel
theorem d_M_hasAll_76 : decode b_M_hasAll 76 = .ok (.iconst 1, 1) := by decide +kernel
theorem d_M_hasAll_77 : decode b_M_hasAll 77 = .ok (.iadd, 1) := by decide +kernel
theorem d_M_hasAll_78 : decode b_M_hasAll 78 = .ok (.goto 5, 3) := by decide +kernel
theorem d_M_hasAll_81 : decode b_M_hasAll 81 = .ok (.iload 7, 2) := by decide +kernel
theorem d_M_hasAll_83 : decode b_M_hasAll 83 = .ok (.istore 7, 2) := by decide +kernel
theorem d_M_hasAll_85 : decode b_M_hasAll 85 = .ok (.iinc 8 1, 3) := by decide +kernel
theorem d_M_hasAll_88 : decode b_M_hasAll 88 = .ok (.goto (-44), 3) := by decide +kernel
theorem d_M_hasAll_91 : decode b_M_hasAll 91 = .ok (.iload 7, 2) := by decide +kernel
theorem d_M_hasAll_93 : decode b_M_hasAll 93 = .ok (.ireturn, 1) := by decide +kernel
theorem d_M_same_0 : decode b_M_same 0 = .ok (.aload_n 0, 1) := by decide +kernel
theorem d_M_same_1 : decode b_M_same 1 = .ok (.aload_n 0, 1) := by decide +kernel
theorem d_M_same_2 : decode b_M_same 2 = .ok (.iload_n 1, 1) := by decide +kernel
theorem d_M_same_3 : decode b_M_same 3 = .ok (.invokevirtual 116, 3) := by decide +kernel
theorem d_M_same_6 : decode b_M_same 6 = .ok (.putfield 43, 3) := by decide +kernel
theorem d_M_same_9 : decode b_M_same 9 = .ok (.aload_n 0, 1) := by decide +kernel
theorem d_M_same_10 : decode b_M_same 10 = .ok (.getfield 43, 3) := by decide +kernel
theorem d_M_same_13 : decode b_M_same 13 = .ok (.ifCond .le 5, 3) := by decide +kernel
theorem d_M_same_16 : decode b_M_same 16 = .ok (.iconst 0, 1) := by decide +kernel
theorem d_M_same_17 : decode b_M_same 17 = .ok (.ireturn, 1) := by decide +kernel
theorem d_M_same_18 : decode b_M_same 18 = .ok (.aload_n 0, 1) := by decide +kernel
theorem d_M_same_19 : decode b_M_same 19 = .ok (.getfield 7, 3) := by decide +kernel
theorem d_M_same_22 : decode b_M_same 22 = .ok (.iload_n 1, 1) := by decide +kernel
theorem d_M_same_23 : decode b_M_same 23 = .ok (.iaload, 1) := by decide +kernel
theorem d_M_same_24 : decode b_M_same 24 = .ok (.iconst 3, 1) := by decide +kernel
theorem d_M_same_25 : decode b_M_same 25 = .ok (.if_icmp .ne 25, 3) := by decide +kernel
theorem d_M_same_28 : decode b_M_same 28 = .ok (.aload_n 0, 1) := by decide +kernel
theorem d_M_same_29 : decode b_M_same 29 = .ok (.iload_n 1, 1) := by decide +kernel
theorem d_M_same_30 : decode b_M_same 30 = .ok (.lload_n 2, 1) := by decide +kernel
theorem d_M_same_31 : decode b_M_same 31 = .ok (.invokevirtual 82, 3) := by decide +kernel
theorem d_M_same_34 : decode b_M_same 34 = .ok (.aload_n 0, 1) := by decide +kernel
theorem d_M_same_35 : decode b_M_same 35 = .ok (.iload_n 1, 1) := by decide +kernel
theorem d_M_same_36 : decode b_M_same 36 = .ok (.lload 4, 2) := by decide +kernel
theorem d_M_same_38 : decode b_M_same 38 = .ok (.invokevirtual 82, 3) := by decide +kernel
theorem d_M_same_41 : decode b_M_same 41 = .ok (.if_icmp .ne 7, 3) := by decide +kernel
theorem d_M_same_44 : decode b_M_same 44 = .ok (.iconst 1, 1) := by decide +kernel
theorem d_M_same_45 : decode b_M_same 45 = .ok (.goto 4, 3) := by decide +kernel
theorem d_M_same_48 : decode b_M_same 48 = .ok (.iconst 0, 1) := by decide +kernel
theorem d_M_same_49 : decode b_M_same 49 = .ok (.ireturn, 1) := by decide +kernel
theorem d_M_same_50 : decode b_M_same 50 = .ok (.aload_n 0, 1) := by decide +kernel
theorem d_M_same_51 : decode b_M_same 51 = .ok (.getfield 7, 3) := by decide +kernel
theorem d_M_same_54 : decode b_M_same 54 = .ok (.iload_n 1, 1) := by decide +kernel
theorem d_M_same_55 : decode b_M_same 55 = .ok (.iaload, 1) := by decide +kernel
theorem d_M_same_56 : decode b_M_same 56 = .ok (.iconst 2, 1) := by decide +kernel
theorem d_M_same_57 : decode b_M_same 57 = .ok (.if_icmp .ne 67, 3) := by decide +kernel
theorem d_M_same_60 : decode b_M_same 60 = .ok (.aload_n 0, 1) := by decide +kernel
theorem d_M_same_61 : decode b_M_same 61 = .ok (.iload_n 1, 1) := by decide +kernel
theorem d_M_same_62 : decode b_M_same 62 = .ok (.lload_n 2, 1) := by decide +kernel
theorem d_M_same_63 : decode b_M_same 63 = .ok (.invokevirtual 67, 3) := by decide +kernel
theorem d_M_same_66 : decode b_M_same 66 = .ok (.istore 6, 2) := by decide +kernel
theorem d_M_same_68 : decode b_M_same 68 = .ok (.aload_n 0, 1) := by decide +kernel
theorem d_M_same_69 : decode b_M_same 69 = .ok (.iload_n 1, 1) := by decide +kernel
theorem d_M_same_70 : decode b_M_same 70 = .ok (.lload_n 2, 1) := by decide +kernel
theorem d_M_same_71 : decode b_M_same 71 = .ok (.invokevirtual 71, 3) := by decide +kernel
theorem d_M_same_74 : decode b_M_same 74 = .ok (.istore 7, 2) := by decide +kernel
theorem d_M_same_76 : decode b_M_same 76 = .ok (.aload_n 0, 1) := by decide +kernel
theorem d_M_same_77 : decode b_M_same 77 = .ok (.iload_n 1, 1) := by decide +kernel
theorem d_M_same_78 : decode b_M_same 78 = .ok (.lload 4, 2) := by decide +kernel
theorem d_M_same_80 : decode b_M_same 80 = .ok (.invokevirtual 71, 3) := by decide +kernel
theorem d_M_same_83 : decode b_M_same 83 = .ok (.istore 8, 2) := by decide +kernel
theorem d_M_same_85 : decode b_M_same 85 = .ok (.iload 6, 2) := by decide +kernel
theorem d_M_same_87 : decode b_M_same 87 = .ok (.aload_n 0, 1) := by decide +kernel
theorem d_M_same_88 : decode b_M_same 88 = .ok (.iload_n 1, 1) := by decide +kernel
theorem d_M_same_89 : decode b_M_same 89 = .ok (.lload 4, 2) := by decide +kernel
theorem d_M_same_91 : decode b_M_same 91 = .ok (.invokevirtual 67, 3) := by decide +kernel
theorem d_M_same_94 : decode b_M_same 94 = .ok (.if_icmp .ne 28, 3) := by decide +kernel
theorem d_M_same_97 : decode b_M_same 97 = .ok (.iload 7, 2) := by decide +kernel
theorem d_M_same_99 : decode b_M_same 99 = .ok (.iload 8, 2) := by decide +kernel
theorem d_M_same_101 : decode b_M_same 101 = .ok (.if_icmp .eq 17, 3) := by decide +kernel
theorem d_M_same_104 : decode b_M_same 104 = .ok (.aload_n 0, 1) := by decide +kernel
theorem d_M_same_105 : decode b_M_same 105 = .ok (.iload_n 1, 1) := by decide +kernel
theorem d_M_same_106 : decode b_M_same 106 = .ok (.iload 6, 2) := by decide +kernel
theorem d_M_same_108 : decode b_M_same 108 = .ok (.iload 7, 2) := by decide +kernel
theorem d_M_same_110 : decode b_M_same 110 = .ok (.invokevirtual 78, 3) := by decide +kernel
theorem d_M_same_113 : decode b_M_same 113 = .ok (.iload 8, 2) := by decide +kernel
theorem d_M_same_115 : decode b_M_same 115 = .ok (.if_icmp .ne 7, 3) := by decide +kernel
theorem d_M_same_118 : decode b_M_same 118 = .ok (.iconst 1, 1) := by decide +kernel
theorem d_M_same_119 : decode b_M_same 119 = .ok (.goto 4, 3) := by decide +kernel
theorem d_M_same_122 : decode b_M_same 122 = .ok (.iconst 0, 1) := by decide +kernel
theorem d_M_same_123 : decode b_M_same 123 = .ok (.ireturn, 1) := by decide +kernel
theorem d_M_same_124 : decode b_M_same 124 = .ok (.aload_n 0, 1) := by decide +kernel
theorem d_M_same_125 : decode b_M_same 125 = .ok (.iload_n 1, 1) := by decide +kernel
theorem d_M_same_126 : decode b_M_same 126 = .ok (.lload_n 2, 1) := by decide +kernel
theorem d_M_same_127 : decode b_M_same 127 = .ok (.aload_n 0, 1) := by decide +kernel
theorem d_M_same_128 : decode b_M_same 128 = .ok (.getfield 37, 3) := by decide +kernel
theorem d_M_same_131 : decode b_M_same 131 = .ok (.invokevirtual 89, 3) := by decide +kernel
theorem d_M_same_134 : decode b_M_same 134 = .ok (.aload_n 0, 1) := by decide +kernel
theorem d_M_same_135 : decode b_M_same 135 = .ok (.iload_n 1, 1) := by decide +kernel
theorem d_M_same_136 : decode b_M_same 136 = .ok (.lload 4, 2) := by decide +kernel
theorem d_M_same_138 : decode b_M_same 138 = .ok (.aload_n 0, 1) := by decide +kernel
theorem d_M_same_139 : decode b_M_same 139 = .ok (.getfield 40, 3) := by decide +kernel
theorem d_M_same_142 : decode b_M_same 142 = .ok (.invokevirtual 89, 3) := by decide +kernel
theorem d_M_same_145 : decode b_M_same 145 = .ok (.iconst 1, 1) := by decide +kernel
theorem d_M_same_146 : decode b_M_same 146 = .ok (.istore 6, 2) := by decide +kernel
theorem d_M_same_148 : decode b_M_same 148 = .ok (.iconst 0, 1) := by decide +kernel
theorem d_M_same_149 : decode b_M_same 149 = .ok (.istore 7, 2) := by decide +kernel
theorem d_M_same_151 : decode b_M_same 151 = .ok (.iload 7, 2) := by decide +kernel
theorem d_M_same_153 : decode b_M_same 153 = .ok (.aload_n 0, 1) := by decide +kernel
theorem d_M_same_154 : decode b_M_same 154 = .ok (.getfield 16, 3) := by decide +kernel
theorem d_M_same_157 : decode b_M_same 157 = .ok (.iload_n 1, 1) := by decide +kernel
theorem d_M_same_158 : decode b_M_same 158 = .ok (.iaload, 1) := by decide +kernel
theorem d_M_same_159 : decode b_M_same 159 = .ok (.if_icmp .ge 64, 3) := by decide +kernel
theorem d_M_same_162 : decode b_M_same 162 = .ok (.iload 6, 2) := by decide +kernel
theorem d_M_same_164 : decode b_M_same 164 = .ok (.ifCond .eq 50, 3) := by decide +kernel
theorem d_M_same_167 : decode b_M_same 167 = .ok (.aload_n 0, 1) := by decide +kernel
theorem d_M_same_168 : decode b_M_same 168 = .ok (.getfield 37, 3) := by decide +kernel
theorem d_M_same_171 : decode b_M_same 171 = .ok (.aload_n 0, 1) := by decide +kernel
theorem d_M_same_172 : decode b_M_same 172 = .ok (.getfield 16, 3) := by decide +kernel
theorem d_M_same_175 : decode b_M_same 175 = .ok (.iload_n 1, 1) := by decide +kernel
theorem d_M_same_176 : decode b_M_same 176 = .ok (.iaload, 1) := by decide +kernel
theorem d_M_same_177 : decode b_M_same 177 = .ok (.aload_n 0, 1) := by decide +kernel
theorem d_M_same_178 : decode b_M_same 178 = .ok (.getfield 37, 3) := by decide +kernel
theorem d_M_same_181 : decode b_M_same 181 = .ok (.iload 7, 2) := by decide +kernel
theorem d_M_same_183 : decode b_M_same 183 = .ok (.iaload, 1) := by decide +kernel
theorem d_M_same_184 : decode b_M_same 184 = .ok (.invokestatic 93, 3) := by decide +kernel
theorem d_M_same_187 : decode b_M_same 187 = .ok (.aload_n 0, 1) := by decide +kernel
theorem d_M_same_188 : decode b_M_same 188 = .ok (.getfield 40, 3) := by decide +kernel
theorem d_M_same_191 : decode b_M_same 191 = .ok (.aload_n 0, 1) := by decide +kernel
theorem d_M_same_192 : decode b_M_same 192 = .ok (.getfield 16, 3) := by decide +kernel
theorem d_M_same_195 : decode b_M_same 195 = .ok (.iload_n 1, 1) := by decide +kernel
theorem d_M_same_196 : decode b_M_same 196 = .ok (.iaload, 1) := by decide +kernel
theorem d_M_same_197 : decode b_M_same 197 = .ok (.aload_n 0, 1) := by decide +kernel
theorem d_M_same_198 : decode b_M_same 198 = .ok (.getfield 37, 3) := by decide +kernel
theorem d_M_same_201 : decode b_M_same 201 = .ok (.iload 7, 2) := by decide +kernel
theorem d_M_same_203 : decode b_M_same 203 = .ok (.iaload, 1) := by decide +kernel
theorem d_M_same_204 : decode b_M_same 204 = .ok (.invokestatic 93, 3) := by decide +kernel
theorem d_M_same_207 : decode b_M_same 207 = .ok (.if_icmp .ne 7, 3) := by decide +kernel
theorem d_M_same_210 : decode b_M_same 210 = .ok (.iconst 1, 1) := by decide +kernel
theorem d_M_same_211 : decode b_M_same 211 = .ok (.goto 4, 3) := by decide +kernel
theorem d_M_same_214 : decode b_M_same 214 = .ok (.iconst 0, 1) := by decide +kernel
theorem d_M_same_215 : decode b_M_same 215 = .ok (.istore 6, 2) := by decide +kernel
theorem d_M_same_217 : decode b_M_same 217 = .ok (.iinc 7 1, 3) := by decide +kernel
theorem d_M_same_220 : decode b_M_same 220 = .ok (.goto (-69), 3) := by decide +kernel
theorem d_M_same_223 : decode b_M_same 223 = .ok (.iload 6, 2) := by decide +kernel
theorem d_M_same_225 : decode b_M_same 225 = .ok (.ireturn, 1) := by decide +kernel
theorem d_M_layOut_0 : decode b_M_layOut 0 = .ok (.iconst 1, 1) := by decide +kernel
theorem d_M_layOut_1 : decode b_M_layOut 1 = .ok (.aload_n 0, 1) := by decide +kernel
theorem d_M_layOut_2 : decode b_M_layOut 2 = .ok (.getfield 13, 3) := by decide +kernel
theorem d_M_layOut_5 : decode b_M_layOut 5 = .ok (.iload_n 1, 1) := by decide +kernel
theorem d_M_layOut_6 : decode b_M_layOut 6 = .ok (.iaload, 1) := by decide +kernel
theorem d_M_layOut_7 : decode b_M_layOut 7 = .ok (.ishl, 1) := by decide +kernel
theorem d_M_layOut_8 : decode b_M_layOut 8 = .ok (.istore_n 2, 1) := by decide +kernel
theorem d_M_layOut_9 : decode b_M_layOut 9 = .ok (.iconst 0, 1) := by decide +kernel
theorem d_M_layOut_10 : decode b_M_layOut 10 = .ok (.istore_n 3, 1) := by decide +kernel
theorem d_M_layOut_11 : decode b_M_layOut 11 = .ok (.iconst 0, 1) := by decide +kernel
theorem d_M_layOut_12 : decode b_M_layOut 12 = .ok (.istore 4, 2) := by decide +kernel
theorem d_M_layOut_14 : decode b_M_layOut 14 = .ok (.iload 4, 2) := by decide +kernel
theorem d_M_layOut_16 : decode b_M_layOut 16 = .ok (.iconst 2, 1) := by decide +kernel
theorem d_M_layOut_17 : decode b_M_layOut 17 = .ok (.if_icmp .ge 118, 3) := by decide +kernel
theorem d_M_layOut_20 : decode b_M_layOut 20 = .ok (.iconst 0, 1) := by decide +kernel
theorem d_M_layOut_21 : decode b_M_layOut 21 = .ok (.istore 5, 2) := by decide +kernel
theorem d_M_layOut_23 : decode b_M_layOut 23 = .ok (.iload 5, 2) := by decide +kernel
theorem d_M_layOut_25 : decode b_M_layOut 25 = .ok (.iload_n 2, 1) := by decide +kernel
theorem d_M_layOut_26 : decode b_M_layOut 26 = .ok (.if_icmp .ge 17, 3) := by decide +kernel
theorem d_M_layOut_29 : decode b_M_layOut 29 = .ok (.aload_n 0, 1) := by decide +kernel
theorem d_M_layOut_30 : decode b_M_layOut 30 = .ok (.getfield 34, 3) := by decide +kernel
theorem d_M_layOut_33 : decode b_M_layOut 33 = .ok (.iload 5, 2) := by decide +kernel
theorem d_M_layOut_35 : decode b_M_layOut 35 = .ok (.iconst (-1), 1) := by decide +kernel
theorem d_M_layOut_36 : decode b_M_layOut 36 = .ok (.iastore, 1) := by decide +kernel
theorem d_M_layOut_37 : decode b_M_layOut 37 = .ok (.iinc 5 1, 3) := by decide +kernel
theorem d_M_layOut_40 : decode b_M_layOut 40 = .ok (.goto (-17), 3) := by decide +kernel
theorem d_M_layOut_43 : decode b_M_layOut 43 = .ok (.iload_n 3, 1) := by decide +kernel
theorem d_M_layOut_44 : decode b_M_layOut 44 = .ok (.istore 5, 2) := by decide +kernel
theorem d_M_layOut_46 : decode b_M_layOut 46 = .ok (.iconst 0, 1) := by decide +kernel
theorem d_M_layOut_47 : decode b_M_layOut 47 = .ok (.istore 6, 2) := by decide +kernel
theorem d_M_layOut_49 : decode b_M_layOut 49 = .ok (.iload 6, 2) := by decide +kernel
theorem d_M_layOut_51 : decode b_M_layOut 51 = .ok (.aload_n 0, 1) := by decide +kernel
theorem d_M_layOut_52 : decode b_M_layOut 52 = .ok (.getfield 19, 3) := by decide +kernel
theorem d_M_layOut_55 : decode b_M_layOut 55 = .ok (.iload_n 1, 1) := by decide +kernel
theorem d_M_layOut_56 : decode b_M_layOut 56 = .ok (.iaload, 1) := by decide +kernel
theorem d_M_layOut_57 : decode b_M_layOut 57 = .ok (.if_icmp .ge 57, 3) := by decide +kernel
theorem d_M_layOut_60 : decode b_M_layOut 60 = .ok (.aload_n 0, 1) := by decide +kernel
theorem d_M_layOut_61 : decode b_M_layOut 61 = .ok (.getfield 28, 3) := by decide +kernel
theorem d_M_layOut_64 : decode b_M_layOut 64 = .ok (.sipush 256, 3) := by decide +kernel
theorem d_M_layOut_67 : decode b_M_layOut 67 = .ok (.iload_n 1, 1) := by decide +kernel
theorem d_M_layOut_68 : decode b_M_layOut 68 = .ok (.imul, 1) := by decide +kernel
theorem d_M_layOut_69 : decode b_M_layOut 69 = .ok (.iload 6, 2) := by decide +kernel
theorem d_M_layOut_71 : decode b_M_layOut 71 = .ok (.iadd, 1) := by decide +kernel
theorem d_M_layOut_72 : decode b_M_layOut 72 = .ok (.iaload, 1) := by decide +kernel
theorem d_M_layOut_73 : decode b_M_layOut 73 = .ok (.bipush 20, 2) := by decide +kernel
theorem d_M_layOut_75 : decode b_M_layOut 75 = .ok (.ishr, 1) := by decide +kernel
theorem d_M_layOut_76 : decode b_M_layOut 76 = .ok (.istore 7, 2) := by decide +kernel
theorem d_M_layOut_78 : decode b_M_layOut 78 = .ok (.iload 5, 2) := by decide +kernel
theorem d_M_layOut_80 : decode b_M_layOut 80 = .ok (.iload 7, 2) := by decide +kernel
theorem d_M_layOut_82 : decode b_M_layOut 82 = .ok (.if_icmp .ge 8, 3) := by decide +kernel
theorem d_M_layOut_85 : decode b_M_layOut 85 = .ok (.iload 7, 2) := by decide +kernel
theorem d_M_layOut_87 : decode b_M_layOut 87 = .ok (.goto 5, 3) := by decide +kernel
theorem d_M_layOut_90 : decode b_M_layOut 90 = .ok (.iload 5, 2) := by decide +kernel
theorem d_M_layOut_92 : decode b_M_layOut 92 = .ok (.istore 5, 2) := by decide +kernel
theorem d_M_layOut_94 : decode b_M_layOut 94 = .ok (.aload_n 0, 1) := by decide +kernel
theorem d_M_layOut_95 : decode b_M_layOut 95 = .ok (.getfield 34, 3) := by decide +kernel
theorem d_M_layOut_98 : decode b_M_layOut 98 = .ok (.iload 5, 2) := by decide +kernel
theorem d_M_layOut_100 : decode b_M_layOut 100 = .ok (.iload_n 2, 1) := by decide +kernel
theorem d_M_layOut_101 : decode b_M_layOut 101 = .ok (.irem, 1) := by decide +kernel
theorem d_M_layOut_102 : decode b_M_layOut 102 = .ok (.iload 6, 2) := by decide +kernel
theorem d_M_layOut_104 : decode b_M_layOut 104 = .ok (.iastore, 1) := by decide +kernel
theorem d_M_layOut_105 : decode b_M_layOut 105 = .ok (.iinc 5 1, 3) := by decide +kernel
theorem d_M_layOut_108 : decode b_M_layOut 108 = .ok (.iinc 6 1, 3) := by decide +kernel
theorem d_M_layOut_111 : decode b_M_layOut 111 = .ok (.goto (-62), 3) := by decide +kernel
theorem d_M_layOut_114 : decode b_M_layOut 114 = .ok (.iload 5, 2) := by decide +kernel
theorem d_M_layOut_116 : decode b_M_layOut 116 = .ok (.iload_n 2, 1) := by decide +kernel
theorem d_M_layOut_117 : decode b_M_layOut 117 = .ok (.if_icmp .le 10, 3) := by decide +kernel
theorem d_M_layOut_120 : decode b_M_layOut 120 = .ok (.iload 5, 2) := by decide +kernel
theorem d_M_layOut_122 : decode b_M_layOut 122 = .ok (.iload_n 2, 1) := by decide +kernel
theorem d_M_layOut_123 : decode b_M_layOut 123 = .ok (.isub, 1) := by decide +kernel
theorem d_M_layOut_124 : decode b_M_layOut 124 = .ok (.goto 4, 3) := by decide +kernel
theorem d_M_layOut_127 : decode b_M_layOut 127 = .ok (.iconst 0, 1) := by decide +kernel
theorem d_M_layOut_128 : decode b_M_layOut 128 = .ok (.istore_n 3, 1) := by decide +kernel
theorem d_M_layOut_129 : decode b_M_layOut 129 = .ok (.iinc 4 1, 3) := by decide +kernel
theorem d_M_layOut_132 : decode b_M_layOut 132 = .ok (.goto (-118), 3) := by decide +kernel
theorem d_M_layOut_135 : decode b_M_layOut 135 = .ok (.return_, 1) := by decide +kernel
theorem d_M_runCell_0 : decode b_M_runCell 0 = .ok (.aload_n 0, 1) := by decide +kernel
theorem d_M_runCell_1 : decode b_M_runCell 1 = .ok (.iload_n 1, 1) := by decide +kernel
theorem d_M_runCell_2 : decode b_M_runCell 2 = .ok (.invokevirtual 126, 3) := by decide +kernel
theorem d_M_runCell_5 : decode b_M_runCell 5 = .ok (.iconst 0, 1) := by decide +kernel
theorem d_M_runCell_6 : decode b_M_runCell 6 = .ok (.istore_n 3, 1) := by decide +kernel
theorem d_M_runCell_7 : decode b_M_runCell 7 = .ok (.iconst 0, 1) := by decide +kernel
theorem d_M_runCell_8 : decode b_M_runCell 8 = .ok (.istore 4, 2) := by decide +kernel
theorem d_M_runCell_10 : decode b_M_runCell 10 = .ok (.iload 4, 2) := by decide +kernel
theorem d_M_runCell_12 : decode b_M_runCell 12 = .ok (.aload_n 0, 1) := by decide +kernel
theorem d_M_runCell_13 : decode b_M_runCell 13 = .ok (.getfield 19, 3) := by decide +kernel
theorem d_M_runCell_16 : decode b_M_runCell 16 = .ok (.iload_n 1, 1) := by decide +kernel
theorem d_M_runCell_17 : decode b_M_runCell 17 = .ok (.iaload, 1) := by decide +kernel
theorem d_M_runCell_18 : decode b_M_runCell 18 = .ok (.if_icmp .ge 39, 3) := by decide +kernel
theorem d_M_runCell_21 : decode b_M_runCell 21 = .ok (.iload_n 3, 1) := by decide +kernel
theorem d_M_runCell_22 : decode b_M_runCell 22 = .ok (.ifCond .ne 23, 3) := by decide +kernel
theorem d_M_runCell_25 : decode b_M_runCell 25 = .ok (.aload_n 0, 1) := by decide +kernel
theorem d_M_runCell_26 : decode b_M_runCell 26 = .ok (.getfield 28, 3) := by decide +kernel
theorem d_M_runCell_29 : decode b_M_runCell 29 = .ok (.sipush 256, 3) := by decide +kernel
theorem d_M_runCell_32 : decode b_M_runCell 32 = .ok (.iload_n 1, 1) := by decide +kernel
theorem d_M_runCell_33 : decode b_M_runCell 33 = .ok (.imul, 1) := by decide +kernel
theorem d_M_runCell_34 : decode b_M_runCell 34 = .ok (.iload 4, 2) := by decide +kernel
theorem d_M_runCell_36 : decode b_M_runCell 36 = .ok (.iadd, 1) := by decide +kernel
theorem d_M_runCell_37 : decode b_M_runCell 37 = .ok (.iaload, 1) := by decide +kernel
theorem d_M_runCell_38 : decode b_M_runCell 38 = .ok (.bipush 20, 2) := by decide +kernel
theorem d_M_runCell_40 : decode b_M_runCell 40 = .ok (.ishr, 1) := by decide +kernel
theorem d_M_runCell_41 : decode b_M_runCell 41 = .ok (.iload_n 2, 1) := by decide +kernel
theorem d_M_runCell_42 : decode b_M_runCell 42 = .ok (.if_icmp .ne 7, 3) := by decide +kernel
theorem d_M_runCell_45 : decode b_M_runCell 45 = .ok (.iconst 1, 1) := by decide +kernel
theorem d_M_runCell_46 : decode b_M_runCell 46 = .ok (.goto 4, 3) := by decide +kernel
theorem d_M_runCell_49 : decode b_M_runCell 49 = .ok (.iconst 0, 1) := by decide +kernel
theorem d_M_runCell_50 : decode b_M_runCell 50 = .ok (.istore_n 3, 1) := by decide +kernel
theorem d_M_runCell_51 : decode b_M_runCell 51 = .ok (.iinc 4 1, 3) := by decide +kernel
theorem d_M_runCell_54 : decode b_M_runCell 54 = .ok (.goto (-44), 3) := by decide +kernel
theorem d_M_runCell_57 : decode b_M_runCell 57 = .ok (.aload_n 0, 1) := by decide +kernel
theorem d_M_runCell_58 : decode b_M_runCell 58 = .ok (.getfield 34, 3) := by decide +kernel
theorem d_M_runCell_61 : decode b_M_runCell 61 = .ok (.iload_n 2, 1) := by decide +kernel
theorem d_M_runCell_62 : decode b_M_runCell 62 = .ok (.iaload, 1) := by decide +kernel
theorem d_M_runCell_63 : decode b_M_runCell 63 = .ok (.istore 4, 2) := by decide +kernel
theorem d_M_runCell_65 : decode b_M_runCell 65 = .ok (.iload_n 3, 1) := by decide +kernel
theorem d_M_runCell_66 : decode b_M_runCell 66 = .ok (.ifCond .eq 7, 3) := by decide +kernel
theorem d_M_runCell_69 : decode b_M_runCell 69 = .ok (.iconst 1, 1) := by decide +kernel
theorem d_M_runCell_70 : decode b_M_runCell 70 = .ok (.goto 4, 3) := by decide +kernel
theorem d_M_runCell_73 : decode b_M_runCell 73 = .ok (.iconst 0, 1) := by decide +kernel
theorem d_M_runCell_74 : decode b_M_runCell 74 = .ok (.istore 5, 2) := by decide +kernel
theorem d_M_runCell_76 : decode b_M_runCell 76 = .ok (.iload 4, 2) := by decide +kernel
theorem d_M_runCell_78 : decode b_M_runCell 78 = .ok (.ifCond .ge 6, 3) := by decide +kernel
theorem d_M_runCell_81 : decode b_M_runCell 81 = .ok (.iload 5, 2) := by decide +kernel
theorem d_M_runCell_83 : decode b_M_runCell 83 = .ok (.ireturn, 1) := by decide +kernel
theorem d_M_runCell_84 : decode b_M_runCell 84 = .ok (.aload_n 0, 1) := by decide +kernel
theorem d_M_runCell_85 : decode b_M_runCell 85 = .ok (.getfield 28, 3) := by decide +kernel
theorem d_M_runCell_88 : decode b_M_runCell 88 = .ok (.sipush 256, 3) := by decide +kernel
theorem d_M_runCell_91 : decode b_M_runCell 91 = .ok (.iload_n 1, 1) := by decide +kernel
theorem d_M_runCell_92 : decode b_M_runCell 92 = .ok (.imul, 1) := by decide +kernel
theorem d_M_runCell_93 : decode b_M_runCell 93 = .ok (.iload 4, 2) := by decide +kernel
theorem d_M_runCell_95 : decode b_M_runCell 95 = .ok (.iadd, 1) := by decide +kernel
theorem d_M_runCell_96 : decode b_M_runCell 96 = .ok (.iaload, 1) := by decide +kernel
theorem d_M_runCell_97 : decode b_M_runCell 97 = .ok (.istore 6, 2) := by decide +kernel
theorem d_M_runCell_99 : decode b_M_runCell 99 = .ok (.iload 4, 2) := by decide +kernel
theorem d_M_runCell_101 : decode b_M_runCell 101 = .ok (.ifCond .le 33, 3) := by decide +kernel
theorem d_M_runCell_104 : decode b_M_runCell 104 = .ok (.aload_n 0, 1) := by decide +kernel
theorem d_M_runCell_105 : decode b_M_runCell 105 = .ok (.getfield 28, 3) := by decide +kernel
theorem d_M_runCell_108 : decode b_M_runCell 108 = .ok (.sipush 256, 3) := by decide +kernel
theorem d_M_runCell_111 : decode b_M_runCell 111 = .ok (.iload_n 1, 1) := by decide +kernel
theorem d_M_runCell_112 : decode b_M_runCell 112 = .ok (.imul, 1) := by decide +kernel
theorem d_M_runCell_113 : decode b_M_runCell 113 = .ok (.iload 4, 2) := by decide +kernel
theorem d_M_runCell_115 : decode b_M_runCell 115 = .ok (.iadd, 1) := by decide +kernel
theorem d_M_runCell_116 : decode b_M_runCell 116 = .ok (.iconst 1, 1) := by decide +kernel
theorem d_M_runCell_117 : decode b_M_runCell 117 = .ok (.isub, 1) := by decide +kernel
theorem d_M_runCell_118 : decode b_M_runCell 118 = .ok (.iaload, 1) := by decide +kernel
theorem d_M_runCell_119 : decode b_M_runCell 119 = .ok (.bipush 20, 2) := by decide +kernel
theorem d_M_runCell_121 : decode b_M_runCell 121 = .ok (.ishr, 1) := by decide +kernel
theorem d_M_runCell_122 : decode b_M_runCell 122 = .ok (.iload 6, 2) := by decide +kernel
theorem d_M_runCell_124 : decode b_M_runCell 124 = .ok (.bipush 20, 2) := by decide +kernel
theorem d_M_runCell_126 : decode b_M_runCell 126 = .ok (.ishr, 1) := by decide +kernel
theorem d_M_runCell_127 : decode b_M_runCell 127 = .ok (.if_icmp .ne 7, 3) := by decide +kernel
theorem d_M_runCell_130 : decode b_M_runCell 130 = .ok (.iconst 1, 1) := by decide +kernel
theorem d_M_runCell_131 : decode b_M_runCell 131 = .ok (.goto 4, 3) := by decide +kernel
theorem d_M_runCell_134 : decode b_M_runCell 134 = .ok (.iconst 0, 1) := by decide +kernel
theorem d_M_runCell_135 : decode b_M_runCell 135 = .ok (.istore 7, 2) := by decide +kernel
theorem d_M_runCell_137 : decode b_M_runCell 137 = .ok (.iload 6, 2) := by decide +kernel
theorem d_M_runCell_139 : decode b_M_runCell 139 = .ok (.ldc 129, 2) := by decide +kernel
theorem d_M_runCell_141 : decode b_M_runCell 141 = .ok (.iand, 1) := by decide +kernel
theorem d_M_runCell_142 : decode b_M_runCell 142 = .ok (.bipush 8, 2) := by decide +kernel
theorem d_M_runCell_144 : decode b_M_runCell 144 = .ok (.imul, 1) := by decide +kernel
theorem d_M_runCell_145 : decode b_M_runCell 145 = .ok (.iload 5, 2) := by decide +kernel
theorem d_M_runCell_147 : decode b_M_runCell 147 = .ok (.iadd, 1) := by decide +kernel
theorem d_M_runCell_148 : decode b_M_runCell 148 = .ok (.iload 7, 2) := by decide +kernel
theorem d_M_runCell_150 : decode b_M_runCell 150 = .ok (.ifCond .eq 7, 3) := by decide +kernel
theorem d_M_runCell_153 : decode b_M_runCell 153 = .ok (.iconst 2, 1) := by decide +kernel
theorem d_M_runCell_154 : decode b_M_runCell 154 = .ok (.goto 4, 3) := by decide +kernel
theorem d_M_runCell_157 : decode b_M_runCell 157 = .ok (.iconst 0, 1) := by decide +kernel
theorem d_M_runCell_158 : decode b_M_runCell 158 = .ok (.iadd, 1) := by decide +kernel
theorem d_M_runCell_159 : decode b_M_runCell 159 = .ok (.iload 6, 2) := by decide +kernel
theorem d_M_runCell_161 : decode b_M_runCell 161 = .ok (.bipush 20, 2) := by decide +kernel
theorem d_M_runCell_163 : decode b_M_runCell 163 = .ok (.ishr, 1) := by decide +kernel
theorem d_M_runCell_164 : decode b_M_runCell 164 = .ok (.iload_n 2, 1) := by decide +kernel
theorem d_M_runCell_165 : decode b_M_runCell 165 = .ok (.if_icmp .ne 7, 3) := by decide +kernel
theorem d_M_runCell_168 : decode b_M_runCell 168 = .ok (.iconst 0, 1) := by decide +kernel
theorem d_M_runCell_169 : decode b_M_runCell 169 = .ok (.goto 4, 3) := by decide +kernel
theorem d_M_runCell_172 : decode b_M_runCell 172 = .ok (.iconst 4, 1) := by decide +kernel
theorem d_M_runCell_173 : decode b_M_runCell 173 = .ok (.iadd, 1) := by decide +kernel
theorem d_M_runCell_174 : decode b_M_runCell 174 = .ok (.ireturn, 1) := by decide +kernel
theorem d_M_longestRow_0 : decode b_M_longestRow 0 = .ok (.aload_n 0, 1) := by decide +kernel
theorem d_M_longestRow_1 : decode b_M_longestRow 1 = .ok (.iload_n 1, 1) := by decide +kernel
theorem d_M_longestRow_2 : decode b_M_longestRow 2 = .ok (.invokevirtual 126, 3) := by decide +kernel
theorem d_M_longestRow_5 : decode b_M_longestRow 5 = .ok (.iconst 1, 1) := by decide +kernel
theorem d_M_longestRow_6 : decode b_M_longestRow 6 = .ok (.aload_n 0, 1) := by decide +kernel
theorem d_M_longestRow_7 : decode b_M_longestRow 7 = .ok (.getfield 13, 3) := by decide +kernel
theorem d_M_longestRow_10 : decode b_M_longestRow 10 = .ok (.iload_n 1, 1) := by decide +kernel
theorem d_M_longestRow_11 : decode b_M_longestRow 11 = .ok (.iaload, 1) := by decide +kernel
theorem d_M_longestRow_12 : decode b_M_longestRow 12 = .ok (.ishl, 1) := by decide +kernel
theorem d_M_longestRow_13 : decode b_M_longestRow 13 = .ok (.istore_n 2, 1) := by decide +kernel
theorem d_M_longestRow_14 : decode b_M_longestRow 14 = .ok (.iconst 0, 1) := by decide +kernel
theorem d_M_longestRow_15 : decode b_M_longestRow 15 = .ok (.istore_n 3, 1) := by decide +kernel
theorem d_M_longestRow_16 : decode b_M_longestRow 16 = .ok (.iconst 0, 1) := by decide +kernel
theorem d_M_longestRow_17 : decode b_M_longestRow 17 = .ok (.istore 4, 2) := by decide +kernel
theorem d_M_longestRow_19 : decode b_M_longestRow 19 = .ok (.iload 4, 2) := by decide +kernel
theorem d_M_longestRow_21 : decode b_M_longestRow 21 = .ok (.iload_n 2, 1) := by decide +kernel
theorem d_M_longestRow_22 : decode b_M_longestRow 22 = .ok (.if_icmp .ge 52, 3) := by decide +kernel
theorem d_M_longestRow_25 : decode b_M_longestRow 25 = .ok (.iconst 0, 1) := by decide +kernel
theorem d_M_longestRow_26 : decode b_M_longestRow 26 = .ok (.istore 5, 2) := by decide +kernel
theorem d_M_longestRow_28 : decode b_M_longestRow 28 = .ok (.iload 5, 2) := by decide +kernel
theorem d_M_longestRow_30 : decode b_M_longestRow 30 = .ok (.iload_n 2, 1) := by decide +kernel
theorem d_M_longestRow_31 : decode b_M_longestRow 31 = .ok (.if_icmp .ge 24, 3) := by decide +kernel
theorem d_M_longestRow_34 : decode b_M_longestRow 34 = .ok (.aload_n 0, 1) := by decide +kernel
theorem d_M_longestRow_35 : decode b_M_longestRow 35 = .ok (.getfield 34, 3) := by decide +kernel
theorem d_M_longestRow_38 : decode b_M_longestRow 38 = .ok (.iload 4, 2) := by decide +kernel
theorem d_M_longestRow_40 : decode b_M_longestRow 40 = .ok (.iload 5, 2) := by decide +kernel
theorem d_M_longestRow_42 : decode b_M_longestRow 42 = .ok (.iadd, 1) := by decide +kernel
theorem d_M_longestRow_43 : decode b_M_longestRow 43 = .ok (.iload_n 2, 1) := by decide +kernel
theorem d_M_longestRow_44 : decode b_M_longestRow 44 = .ok (.irem, 1) := by decide +kernel
theorem d_M_longestRow_45 : decode b_M_longestRow 45 = .ok (.iaload, 1) := by decide +kernel
theorem d_M_longestRow_46 : decode b_M_longestRow 46 = .ok (.ifCond .lt 9, 3) := by decide +kernel
theorem d_M_longestRow_49 : decode b_M_longestRow 49 = .ok (.iinc 5 1, 3) := by decide +kernel
theorem d_M_longestRow_52 : decode b_M_longestRow 52 = .ok (.goto (-24), 3) := by decide +kernel
theorem d_M_longestRow_55 : decode b_M_longestRow 55 = .ok (.iload 5, 2) := by decide +kernel
theorem d_M_longestRow_57 : decode b_M_longestRow 57 = .ok (.iload_n 3, 1) := by decide +kernel
theorem d_M_longestRow_58 : decode b_M_longestRow 58 = .ok (.if_icmp .le 8, 3) := by decide +kernel
theorem d_M_longestRow_61 : decode b_M_longestRow 61 = .ok (.iload 5, 2) := by decide +kernel
theorem d_M_longestRow_63 : decode b_M_longestRow 63 = .ok (.goto 4, 3) := by decide +kernel
theorem d_M_longestRow_66 : decode b_M_longestRow 66 = .ok (.iload_n 3, 1) := by decide +kernel
theorem d_M_longestRow_67 : decode b_M_longestRow 67 = .ok (.istore_n 3, 1) := by decide +kernel
theorem d_M_longestRow_68 : decode b_M_longestRow 68 = .ok (.iinc 4 1, 3) := by decide +kernel
theorem d_M_longestRow_71 : decode b_M_longestRow 71 = .ok (.goto (-52), 3) := by decide +kernel
theorem d_M_longestRow_74 : decode b_M_longestRow 74 = .ok (.iload_n 3, 1) := by decide +kernel
theorem d_M_longestRow_75 : decode b_M_longestRow 75 = .ok (.ireturn, 1) := by decide +kernel
theorem d_M_count_0 : decode b_M_count 0 = .ok (.aload_n 0, 1) := by decide +kernel
theorem d_M_count_1 : decode b_M_count 1 = .ok (.aload_n 0, 1) := by decide +kernel
theorem d_M_count_2 : decode b_M_count 2 = .ok (.iload_n 1, 1) := by decide +kernel
theorem d_M_count_3 : decode b_M_count 3 = .ok (.invokevirtual 116, 3) := by decide +kernel
theorem d_M_count_6 : decode b_M_count 6 = .ok (.ifCond .le 11, 3) := by decide +kernel
theorem d_M_count_9 : decode b_M_count 9 = .ok (.aload_n 0, 1) := by decide +kernel
theorem d_M_count_10 : decode b_M_count 10 = .ok (.iload_n 1, 1) := by decide +kernel
theorem d_M_count_11 : decode b_M_count 11 = .ok (.invokevirtual 116, 3) := by decide +kernel
theorem d_M_count_14 : decode b_M_count 14 = .ok (.goto 17, 3) := by decide +kernel
theorem d_M_count_17 : decode b_M_count 17 = .ok (.iload_n 2, 1) := by decide +kernel
theorem d_M_count_18 : decode b_M_count 18 = .ok (.ifCond .lt 8, 3) := by decide +kernel
theorem d_M_count_21 : decode b_M_count 21 = .ok (.iload_n 2, 1) := by decide +kernel
theorem d_M_count_22 : decode b_M_count 22 = .ok (.iconst 5, 1) := by decide +kernel
theorem d_M_count_23 : decode b_M_count 23 = .ok (.if_icmp .le 7, 3) := by decide +kernel
theorem d_M_count_26 : decode b_M_count 26 = .ok (.iconst 3, 1) := by decide +kernel
theorem d_M_count_27 : decode b_M_count 27 = .ok (.goto 4, 3) := by decide +kernel
theorem d_M_count_30 : decode b_M_count 30 = .ok (.iconst 0, 1) := by decide +kernel
theorem d_M_count_31 : decode b_M_count 31 = .ok (.putfield 43, 3) := by decide +kernel
theorem d_M_count_34 : decode b_M_count 34 = .ok (.aload_n 0, 1) := by decide +kernel
theorem d_M_count_35 : decode b_M_count 35 = .ok (.getfield 43, 3) := by decide +kernel
theorem d_M_count_38 : decode b_M_count 38 = .ok (.ifCond .le 5, 3) := by decide +kernel
theorem d_M_count_41 : decode b_M_count 41 = .ok (.iconst 0, 1) := by decide +kernel
theorem d_M_count_42 : decode b_M_count 42 = .ok (.ireturn, 1) := by decide +kernel
theorem d_M_count_43 : decode b_M_count 43 = .ok (.iload_n 2, 1) := by decide +kernel
theorem d_M_count_44 : decode b_M_count 44 = .ok (.iconst 4, 1) := by decide +kernel
theorem d_M_count_45 : decode b_M_count 45 = .ok (.if_icmp .ge 51, 3) := by decide +kernel
theorem d_M_count_48 : decode b_M_count 48 = .ok (.iload_n 2, 1) := by decide +kernel
theorem d_M_count_49 : decode b_M_count 49 = .ok (.ifCond .ne 12, 3) := by decide +kernel
theorem d_M_count_52 : decode b_M_count 52 = .ok (.aload_n 0, 1) := by decide +kernel
theorem d_M_count_53 : decode b_M_count 53 = .ok (.getfield 7, 3) := by decide +kernel
theorem d_M_count_56 : decode b_M_count 56 = .ok (.iload_n 1, 1) := by decide +kernel
theorem d_M_count_57 : decode b_M_count 57 = .ok (.iaload, 1) := by decide +kernel
theorem d_M_count_58 : decode b_M_count 58 = .ok (.goto 37, 3) := by decide +kernel
theorem d_M_count_61 : decode b_M_count 61 = .ok (.iload_n 2, 1) := by decide +kernel
theorem d_M_count_62 : decode b_M_count 62 = .ok (.iconst 1, 1) := by decide +kernel
theorem d_M_count_63 : decode b_M_count 63 = .ok (.if_icmp .ne 12, 3) := by decide +kernel
theorem d_M_count_66 : decode b_M_count 66 = .ok (.aload_n 0, 1) := by decide +kernel
theorem d_M_count_67 : decode b_M_count 67 = .ok (.getfield 13, 3) := by decide +kernel
theorem d_M_count_70 : decode b_M_count 70 = .ok (.iload_n 1, 1) := by decide +kernel
theorem d_M_count_71 : decode b_M_count 71 = .ok (.iaload, 1) := by decide +kernel
theorem d_M_count_72 : decode b_M_count 72 = .ok (.goto 23, 3) := by decide +kernel
theorem d_M_count_75 : decode b_M_count 75 = .ok (.iload_n 2, 1) := by decide +kernel
theorem d_M_count_76 : decode b_M_count 76 = .ok (.iconst 2, 1) := by decide +kernel
theorem d_M_count_77 : decode b_M_count 77 = .ok (.if_icmp .ne 12, 3) := by decide +kernel
theorem d_M_count_80 : decode b_M_count 80 = .ok (.aload_n 0, 1) := by decide +kernel
theorem d_M_count_81 : decode b_M_count 81 = .ok (.getfield 16, 3) := by decide +kernel
theorem d_M_count_84 : decode b_M_count 84 = .ok (.iload_n 1, 1) := by decide +kernel
theorem d_M_count_85 : decode b_M_count 85 = .ok (.iaload, 1) := by decide +kernel
theorem d_M_count_86 : decode b_M_count 86 = .ok (.goto 9, 3) := by decide +kernel
theorem d_M_count_89 : decode b_M_count 89 = .ok (.aload_n 0, 1) := by decide +kernel
theorem d_M_count_90 : decode b_M_count 90 = .ok (.getfield 19, 3) := by decide +kernel
theorem d_M_count_93 : decode b_M_count 93 = .ok (.iload_n 1, 1) := by decide +kernel
theorem d_M_count_94 : decode b_M_count 94 = .ok (.iaload, 1) := by decide +kernel
theorem d_M_count_95 : decode b_M_count 95 = .ok (.ireturn, 1) := by decide +kernel
theorem d_M_count_96 : decode b_M_count 96 = .ok (.aload_n 0, 1) := by decide +kernel
theorem d_M_count_97 : decode b_M_count 97 = .ok (.getfield 7, 3) := by decide +kernel
theorem d_M_count_100 : decode b_M_count 100 = .ok (.iload_n 1, 1) := by decide +kernel
theorem d_M_count_101 : decode b_M_count 101 = .ok (.iaload, 1) := by decide +kernel
theorem d_M_count_102 : decode b_M_count 102 = .ok (.iconst 3, 1) := by decide +kernel
theorem d_M_count_103 : decode b_M_count 103 = .ok (.if_icmp .ne 23, 3) := by decide +kernel
theorem d_M_count_106 : decode b_M_count 106 = .ok (.iload_n 2, 1) := by decide +kernel
theorem d_M_count_107 : decode b_M_count 107 = .ok (.iconst 4, 1) := by decide +kernel
theorem d_M_count_108 : decode b_M_count 108 = .ok (.if_icmp .ne 12, 3) := by decide +kernel
theorem d_M_count_111 : decode b_M_count 111 = .ok (.aload_n 0, 1) := by decide +kernel
theorem d_M_count_112 : decode b_M_count 112 = .ok (.getfield 19, 3) := by decide +kernel
theorem d_M_count_115 : decode b_M_count 115 = .ok (.iload_n 1, 1) := by decide +kernel
theorem d_M_count_116 : decode b_M_count 116 = .ok (.iaload, 1) := by decide +kernel
theorem d_M_count_117 : decode b_M_count 117 = .ok (.goto 8, 3) := by decide +kernel
theorem d_M_count_120 : decode b_M_count 120 = .ok (.aload_n 0, 1) := by decide +kernel
theorem d_M_count_121 : decode b_M_count 121 = .ok (.iload_n 1, 1) := by decide +kernel
theorem d_M_count_122 : decode b_M_count 122 = .ok (.invokevirtual 130, 3) := by decide +kernel
theorem d_M_count_125 : decode b_M_count 125 = .ok (.ireturn, 1) := by decide +kernel
theorem d_M_count_126 : decode b_M_count 126 = .ok (.iconst 0, 1) := by decide +kernel
theorem d_M_count_127 : decode b_M_count 127 = .ok (.istore_n 3, 1) := by decide +kernel
theorem d_M_count_128 : decode b_M_count 128 = .ok (.iconst 0, 1) := by decide +kernel
theorem d_M_count_129 : decode b_M_count 129 = .ok (.istore 4, 2) := by decide +kernel
theorem d_M_count_131 : decode b_M_count 131 = .ok (.iconst 0, 1) := by decide +kernel
theorem d_M_count_132 : decode b_M_count 132 = .ok (.istore 5, 2) := by decide +kernel
theorem d_M_count_134 : decode b_M_count 134 = .ok (.iload 5, 2) := by decide +kernel
theorem d_M_count_136 : decode b_M_count 136 = .ok (.sipush 1024, 3) := by decide +kernel
theorem d_M_count_139 : decode b_M_count 139 = .ok (.if_icmp .ge 53, 3) := by decide +kernel
theorem d_M_count_142 : decode b_M_count 142 = .ok (.aload_n 0, 1) := by decide +kernel
theorem d_M_count_143 : decode b_M_count 143 = .ok (.getfield 25, 3) := by decide +kernel
theorem d_M_count_146 : decode b_M_count 146 = .ok (.sipush 1024, 3) := by decide +kernel
theorem d_M_count_149 : decode b_M_count 149 = .ok (.iload_n 1, 1) := by decide +kernel
theorem d_M_count_150 : decode b_M_count 150 = .ok (.imul, 1) := by decide +kernel
theorem d_M_count_151 : decode b_M_count 151 = .ok (.iload 5, 2) := by decide +kernel
theorem d_M_count_153 : decode b_M_count 153 = .ok (.iadd, 1) := by decide +kernel
theorem d_M_count_154 : decode b_M_count 154 = .ok (.iaload, 1) := by decide +kernel
theorem d_M_count_155 : decode b_M_count 155 = .ok (.istore 6, 2) := by decide +kernel
theorem d_M_count_157 : decode b_M_count 157 = .ok (.iload 6, 2) := by decide +kernel
theorem d_M_count_159 : decode b_M_count 159 = .ok (.ifCond .le 9, 3) := by decide +kernel
theorem d_M_count_162 : decode b_M_count 162 = .ok (.iload_n 3, 1) := by decide +kernel
theorem d_M_count_163 : decode b_M_count 163 = .ok (.iconst 1, 1) := by decide +kernel
theorem d_M_count_164 : decode b_M_count 164 = .ok (.iadd, 1) := by decide +kernel
theorem d_M_count_165 : decode b_M_count 165 = .ok (.goto 4, 3) := by decide +kernel
theorem d_M_count_168 : decode b_M_count 168 = .ok (.iload_n 3, 1) := by decide +kernel
theorem d_M_count_169 : decode b_M_count 169 = .ok (.istore_n 3, 1) := by decide +kernel
theorem d_M_count_170 : decode b_M_count 170 = .ok (.iload 6, 2) := by decide +kernel
theorem d_M_count_172 : decode b_M_count 172 = .ok (.iload 4, 2) := by decide +kernel
theorem d_M_count_174 : decode b_M_count 174 = .ok (.if_icmp .le 8, 3) := by decide +kernel
theorem d_M_count_177 : decode b_M_count 177 = .ok (.iload 6, 2) := by decide +kernel
theorem d_M_count_179 : decode b_M_count 179 = .ok (.goto 5, 3) := by decide +kernel
theorem d_M_count_182 : decode b_M_count 182 = .ok (.iload 4, 2) := by decide +kernel
theorem d_M_count_184 : decode b_M_count 184 = .ok (.istore 4, 2) := by decide +kernel
theorem d_M_count_186 : decode b_M_count 186 = .ok (.iinc 5 1, 3) := by decide +kernel
theorem d_M_count_189 : decode b_M_count 189 = .ok (.goto (-55), 3) := by decide +kernel
theorem d_M_count_192 : decode b_M_count 192 = .ok (.iload_n 2, 1) := by decide +kernel
theorem d_M_count_193 : decode b_M_count 193 = .ok (.iconst 4, 1) := by decide +kernel
theorem d_M_count_194 : decode b_M_count 194 = .ok (.if_icmp .ne 7, 3) := by decide +kernel
theorem d_M_count_197 : decode b_M_count 197 = .ok (.iload_n 3, 1) := by decide +kernel
theorem d_M_count_198 : decode b_M_count 198 = .ok (.goto 24, 3) := by decide +kernel
theorem d_M_count_201 : decode b_M_count 201 = .ok (.aload_n 0, 1) := by decide +kernel
theorem d_M_count_202 : decode b_M_count 202 = .ok (.getfield 7, 3) := by decide +kernel
theorem d_M_count_205 : decode b_M_count 205 = .ok (.iload_n 1, 1) := by decide +kernel
theorem d_M_count_206 : decode b_M_count 206 = .ok (.iaload, 1) := by decide +kernel
theorem d_M_count_207 : decode b_M_count 207 = .ok (.iconst 1, 1) := by decide +kernel
theorem d_M_count_208 : decode b_M_count 208 = .ok (.if_icmp .ne 8, 3) := by decide +kernel
theorem d_M_count_211 : decode b_M_count 211 = .ok (.iload 4, 2) := by decide +kernel
theorem d_M_count_213 : decode b_M_count 213 = .ok (.goto 9, 3) := by decide +kernel
theorem d_M_count_216 : decode b_M_count 216 = .ok (.aload_n 0, 1) := by decide +kernel
theorem d_M_count_217 : decode b_M_count 217 = .ok (.getfield 22, 3) := by decide +kernel
theorem d_M_count_220 : decode b_M_count 220 = .ok (.iload_n 1, 1) := by decide +kernel
theorem d_M_count_221 : decode b_M_count 221 = .ok (.iaload, 1) := by decide +kernel
theorem d_M_count_222 : decode b_M_count 222 = .ok (.ireturn, 1) := by decide +kernel
theorem d_M_cell_0 : decode b_M_cell 0 = .ok (.aload_n 0, 1) := by decide +kernel
theorem d_M_cell_1 : decode b_M_cell 1 = .ok (.aload_n 0, 1) := by decide +kernel
theorem d_M_cell_2 : decode b_M_cell 2 = .ok (.iload_n 1, 1) := by decide +kernel
theorem d_M_cell_3 : decode b_M_cell 3 = .ok (.invokevirtual 116, 3) := by decide +kernel
theorem d_M_cell_6 : decode b_M_cell 6 = .ok (.ifCond .le 7, 3) := by decide +kernel
theorem d_M_cell_9 : decode b_M_cell 9 = .ok (.iconst 1, 1) := by decide +kernel
theorem d_M_cell_10 : decode b_M_cell 10 = .ok (.goto 4, 3) := by decide +kernel
theorem d_M_cell_13 : decode b_M_cell 13 = .ok (.iconst 0, 1) := by decide +kernel
theorem d_M_cell_14 : decode b_M_cell 14 = .ok (.putfield 43, 3) := by decide +kernel
theorem d_M_cell_17 : decode b_M_cell 17 = .ok (.aload_n 0, 1) := by decide +kernel
theorem d_M_cell_18 : decode b_M_cell 18 = .ok (.getfield 43, 3) := by decide +kernel
theorem d_M_cell_21 : decode b_M_cell 21 = .ok (.ifCond .le 5, 3) := by decide +kernel
theorem d_M_cell_24 : decode b_M_cell 24 = .ok (.iconst 0, 1) := by decide +kernel
theorem d_M_cell_25 : decode b_M_cell 25 = .ok (.ireturn, 1) := by decide +kernel
theorem d_M_cell_26 : decode b_M_cell 26 = .ok (.aload_n 0, 1) := by decide +kernel
theorem d_M_cell_27 : decode b_M_cell 27 = .ok (.getfield 7, 3) := by decide +kernel
theorem d_M_cell_30 : decode b_M_cell 30 = .ok (.iload_n 1, 1) := by decide +kernel
theorem d_M_cell_31 : decode b_M_cell 31 = .ok (.iaload, 1) := by decide +kernel
theorem d_M_cell_32 : decode b_M_cell 32 = .ok (.iconst 2, 1) := by decide +kernel
theorem d_M_cell_33 : decode b_M_cell 33 = .ok (.if_icmp .ne 14, 3) := by decide +kernel
theorem d_M_cell_36 : decode b_M_cell 36 = .ok (.iconst 4, 1) := by decide +kernel
theorem d_M_cell_37 : decode b_M_cell 37 = .ok (.aload_n 0, 1) := by decide +kernel
theorem d_M_cell_38 : decode b_M_cell 38 = .ok (.getfield 13, 3) := by decide +kernel
theorem d_M_cell_41 : decode b_M_cell 41 = .ok (.iload_n 1, 1) := by decide +kernel
theorem d_M_cell_42 : decode b_M_cell 42 = .ok (.iaload, 1) := by decide +kernel
theorem d_M_cell_43 : decode b_M_cell 43 = .ok (.ishl, 1) := by decide +kernel
theorem d_M_cell_44 : decode b_M_cell 44 = .ok (.goto 11, 3) := by decide +kernel
theorem d_M_cell_47 : decode b_M_cell 47 = .ok (.iconst 1, 1) := by decide +kernel
theorem d_M_cell_48 : decode b_M_cell 48 = .ok (.aload_n 0, 1) := by decide +kernel
theorem d_M_cell_49 : decode b_M_cell 49 = .ok (.getfield 13, 3) := by decide +kernel
theorem d_M_cell_52 : decode b_M_cell 52 = .ok (.iload_n 1, 1) := by decide +kernel
theorem d_M_cell_53 : decode b_M_cell 53 = .ok (.iaload, 1) := by decide +kernel
theorem d_M_cell_54 : decode b_M_cell 54 = .ok (.ishl, 1) := by decide +kernel
theorem d_M_cell_55 : decode b_M_cell 55 = .ok (.istore_n 3, 1) := by decide +kernel
theorem d_M_cell_56 : decode b_M_cell 56 = .ok (.aload_n 0, 1) := by decide +kernel
theorem d_M_cell_57 : decode b_M_cell 57 = .ok (.iload_n 2, 1) := by decide +kernel
theorem d_M_cell_58 : decode b_M_cell 58 = .ok (.ifCond .lt 12, 3) := by decide +kernel
theorem d_M_cell_61 : decode b_M_cell 61 = .ok (.iload_n 2, 1) := by decide +kernel
theorem d_M_cell_62 : decode b_M_cell 62 = .ok (.iload_n 3, 1) := by decide +kernel
theorem d_M_cell_63 : decode b_M_cell 63 = .ok (.if_icmp .ge 7, 3) := by decide +kernel
theorem d_M_cell_66 : decode b_M_cell 66 = .ok (.iconst 0, 1) := by decide +kernel
theorem d_M_cell_67 : decode b_M_cell 67 = .ok (.goto 4, 3) := by decide +kernel
theorem d_M_cell_70 : decode b_M_cell 70 = .ok (.iconst 2, 1) := by decide +kernel
theorem d_M_cell_71 : decode b_M_cell 71 = .ok (.putfield 43, 3) := by decide +kernel
theorem d_M_cell_74 : decode b_M_cell 74 = .ok (.aload_n 0, 1) := by decide +kernel
theorem d_M_cell_75 : decode b_M_cell 75 = .ok (.getfield 43, 3) := by decide +kernel
theorem d_M_cell_78 : decode b_M_cell 78 = .ok (.ifCond .le 5, 3) := by decide +kernel
theorem d_M_cell_81 : decode b_M_cell 81 = .ok (.iconst 0, 1) := by decide +kernel
theorem d_M_cell_82 : decode b_M_cell 82 = .ok (.ireturn, 1) := by decide +kernel
theorem d_M_cell_83 : decode b_M_cell 83 = .ok (.aload_n 0, 1) := by decide +kernel
theorem d_M_cell_84 : decode b_M_cell 84 = .ok (.getfield 7, 3) := by decide +kernel
theorem d_M_cell_87 : decode b_M_cell 87 = .ok (.iload_n 1, 1) := by decide +kernel
theorem d_M_cell_88 : decode b_M_cell 88 = .ok (.iaload, 1) := by decide +kernel
theorem d_M_cell_89 : decode b_M_cell 89 = .ok (.iconst 3, 1) := by decide +kernel
theorem d_M_cell_90 : decode b_M_cell 90 = .ok (.if_icmp .ne 12, 3) := by decide +kernel
theorem d_M_cell_93 : decode b_M_cell 93 = .ok (.aload_n 0, 1) := by decide +kernel
theorem d_M_cell_94 : decode b_M_cell 94 = .ok (.iload_n 1, 1) := by decide +kernel
theorem d_M_cell_95 : decode b_M_cell 95 = .ok (.iload_n 2, 1) := by decide +kernel
theorem d_M_cell_96 : decode b_M_cell 96 = .ok (.invokevirtual 133, 3) := by decide +kernel
theorem d_M_cell_99 : decode b_M_cell 99 = .ok (.goto 15, 3) := by decide +kernel
theorem d_M_cell_102 : decode b_M_cell 102 = .ok (.aload_n 0, 1) := by decide +kernel
theorem d_M_cell_103 : decode b_M_cell 103 = .ok (.getfield 25, 3) := by decide +kernel
theorem d_M_cell_106 : decode b_M_cell 106 = .ok (.sipush 1024, 3) := by decide +kernel
theorem d_M_cell_109 : decode b_M_cell 109 = .ok (.iload_n 1, 1) := by decide +kernel
theorem d_M_cell_110 : decode b_M_cell 110 = .ok (.imul, 1) := by decide +kernel
theorem d_M_cell_111 : decode b_M_cell 111 = .ok (.iload_n 2, 1) := by decide +kernel
theorem d_M_cell_112 : decode b_M_cell 112 = .ok (.iadd, 1) := by decide +kernel
theorem d_M_cell_113 : decode b_M_cell 113 = .ok (.iaload, 1) := by decide +kernel
theorem d_M_cell_114 : decode b_M_cell 114 = .ok (.ireturn, 1) := by decide +kernel
theorem d_M_merge_0 : decode b_M_merge 0 = .ok (.iload_n 1, 1) := by decide +kernel
theorem d_M_merge_1 : decode b_M_merge 1 = .ok (.invokestatic 57, 3) := by decide +kernel
theorem d_M_merge_4 : decode b_M_merge 4 = .ok (.ifCond .eq 14, 3) := by decide +kernel
theorem d_M_merge_7 : decode b_M_merge 7 = .ok (.iload_n 2, 1) := by decide +kernel
theorem d_M_merge_8 : decode b_M_merge 8 = .ok (.invokestatic 57, 3) := by decide +kernel
theorem d_M_merge_11 : decode b_M_merge 11 = .ok (.ifCond .eq 7, 3) := by decide +kernel
theorem d_M_merge_14 : decode b_M_merge 14 = .ok (.iconst 1, 1) := by decide +kernel
theorem d_M_merge_15 : decode b_M_merge 15 = .ok (.goto 4, 3) := by decide +kernel
theorem d_M_merge_18 : decode b_M_merge 18 = .ok (.iconst 0, 1) := by decide +kernel
theorem d_M_merge_19 : decode b_M_merge 19 = .ok (.istore_n 3, 1) := by decide +kernel
theorem d_M_merge_20 : decode b_M_merge 20 = .ok (.iload_n 3, 1) := by decide +kernel
theorem d_M_merge_21 : decode b_M_merge 21 = .ok (.ifCond .eq 25, 3) := by decide +kernel
theorem d_M_merge_24 : decode b_M_merge 24 = .ok (.aload_n 0, 1) := by decide +kernel
theorem d_M_merge_25 : decode b_M_merge 25 = .ok (.getfield 7, 3) := by decide +kernel
theorem d_M_merge_28 : decode b_M_merge 28 = .ok (.iload_n 1, 1) := by decide +kernel
theorem d_M_merge_29 : decode b_M_merge 29 = .ok (.iaload, 1) := by decide +kernel
theorem d_M_merge_30 : decode b_M_merge 30 = .ok (.ifCond .le 16, 3) := by decide +kernel
theorem d_M_merge_33 : decode b_M_merge 33 = .ok (.aload_n 0, 1) := by decide +kernel
theorem d_M_merge_34 : decode b_M_merge 34 = .ok (.getfield 7, 3) := by decide +kernel
theorem d_M_merge_37 : decode b_M_merge 37 = .ok (.iload_n 2, 1) := by decide +kernel
theorem d_M_merge_38 : decode b_M_merge 38 = .ok (.iaload, 1) := by decide +kernel
theorem d_M_merge_39 : decode b_M_merge 39 = .ok (.ifCond .le 7, 3) := by decide +kernel
theorem d_M_merge_42 : decode b_M_merge 42 = .ok (.iconst 1, 1) := by decide +kernel
theorem d_M_merge_43 : decode b_M_merge 43 = .ok (.goto 4, 3) := by decide +kernel
theorem d_M_merge_46 : decode b_M_merge 46 = .ok (.iconst 0, 1) := by decide +kernel
theorem d_M_merge_47 : decode b_M_merge 47 = .ok (.istore 4, 2) := by decide +kernel
theorem d_M_merge_49 : decode b_M_merge 49 = .ok (.iload 4, 2) := by decide +kernel
theorem d_M_merge_51 : decode b_M_merge 51 = .ok (.ifCond .eq 57, 3) := by decide +kernel
theorem d_M_merge_54 : decode b_M_merge 54 = .ok (.aload_n 0, 1) := by decide +kernel
theorem d_M_merge_55 : decode b_M_merge 55 = .ok (.getfield 7, 3) := by decide +kernel
theorem d_M_merge_58 : decode b_M_merge 58 = .ok (.iload_n 1, 1) := by decide +kernel
theorem d_M_merge_59 : decode b_M_merge 59 = .ok (.iaload, 1) := by decide +kernel
theorem d_M_merge_60 : decode b_M_merge 60 = .ok (.iconst 3, 1) := by decide +kernel
theorem d_M_merge_61 : decode b_M_merge 61 = .ok (.if_icmp .ne 47, 3) := by decide +kernel
theorem d_M_merge_64 : decode b_M_merge 64 = .ok (.aload_n 0, 1) := by decide +kernel
theorem d_M_merge_65 : decode b_M_merge 65 = .ok (.getfield 7, 3) := by decide +kernel
theorem d_M_merge_68 : decode b_M_merge 68 = .ok (.iload_n 2, 1) := by decide +kernel
theorem d_M_merge_69 : decode b_M_merge 69 = .ok (.iaload, 1) := by decide +kernel
theorem d_M_merge_70 : decode b_M_merge 70 = .ok (.iconst 3, 1) := by decide +kernel
theorem d_M_merge_71 : decode b_M_merge 71 = .ok (.if_icmp .ne 37, 3) := by decide +kernel
theorem d_M_merge_74 : decode b_M_merge 74 = .ok (.aload_n 0, 1) := by decide +kernel
theorem d_M_merge_75 : decode b_M_merge 75 = .ok (.getfield 13, 3) := by decide +kernel
theorem d_M_merge_78 : decode b_M_merge 78 = .ok (.iload_n 1, 1) := by decide +kernel
theorem d_M_merge_79 : decode b_M_merge 79 = .ok (.iaload, 1) := by decide +kernel
theorem d_M_merge_80 : decode b_M_merge 80 = .ok (.aload_n 0, 1) := by decide +kernel
theorem d_M_merge_81 : decode b_M_merge 81 = .ok (.getfield 13, 3) := by decide +kernel
theorem d_M_merge_84 : decode b_M_merge 84 = .ok (.iload_n 2, 1) := by decide +kernel
theorem d_M_merge_85 : decode b_M_merge 85 = .ok (.iaload, 1) := by decide +kernel
theorem d_M_merge_86 : decode b_M_merge 86 = .ok (.if_icmp .ne 22, 3) := by decide +kernel
theorem d_M_merge_89 : decode b_M_merge 89 = .ok (.aload_n 0, 1) := by decide +kernel
theorem d_M_merge_90 : decode b_M_merge 90 = .ok (.getfield 16, 3) := by decide +kernel
theorem d_M_merge_93 : decode b_M_merge 93 = .ok (.iload_n 1, 1) := by decide +kernel
theorem d_M_merge_94 : decode b_M_merge 94 = .ok (.iaload, 1) := by decide +kernel
theorem d_M_merge_95 : decode b_M_merge 95 = .ok (.aload_n 0, 1) := by decide +kernel
theorem d_M_merge_96 : decode b_M_merge 96 = .ok (.getfield 16, 3) := by decide +kernel
theorem d_M_merge_99 : decode b_M_merge 99 = .ok (.iload_n 2, 1) := by decide +kernel
theorem d_M_merge_100 : decode b_M_merge 100 = .ok (.iaload, 1) := by decide +kernel
theorem d_M_merge_101 : decode b_M_merge 101 = .ok (.if_icmp .ne 7, 3) := by decide +kernel
theorem d_M_merge_104 : decode b_M_merge 104 = .ok (.iconst 1, 1) := by decide +kernel
theorem d_M_merge_105 : decode b_M_merge 105 = .ok (.goto 4, 3) := by decide +kernel
theorem d_M_merge_108 : decode b_M_merge 108 = .ok (.iconst 0, 1) := by decide +kernel
theorem d_M_merge_109 : decode b_M_merge 109 = .ok (.istore 5, 2) := by decide +kernel
theorem d_M_merge_111 : decode b_M_merge 111 = .ok (.aload_n 0, 1) := by decide +kernel
theorem d_M_merge_112 : decode b_M_merge 112 = .ok (.iload_n 3, 1) := by decide +kernel
theorem d_M_merge_113 : decode b_M_merge 113 = .ok (.ifCond .ne 7, 3) := by decide +kernel
theorem d_M_merge_116 : decode b_M_merge 116 = .ok (.iconst 1, 1) := by decide +kernel
theorem d_M_merge_117 : decode b_M_merge 117 = .ok (.goto 50, 3) := by decide +kernel
theorem d_M_merge_120 : decode b_M_merge 120 = .ok (.iload 4, 2) := by decide +kernel
theorem d_M_merge_122 : decode b_M_merge 122 = .ok (.ifCond .ne 7, 3) := by decide +kernel
theorem d_M_merge_125 : decode b_M_merge 125 = .ok (.iconst 2, 1) := by decide +kernel
theorem d_M_merge_126 : decode b_M_merge 126 = .ok (.goto 41, 3) := by decide +kernel
theorem d_M_merge_129 : decode b_M_merge 129 = .ok (.iload 5, 2) := by decide +kernel
theorem d_M_merge_131 : decode b_M_merge 131 = .ok (.ifCond .ne 7, 3) := by decide +kernel
theorem d_M_merge_134 : decode b_M_merge 134 = .ok (.iconst 3, 1) := by decide +kernel
theorem d_M_merge_135 : decode b_M_merge 135 = .ok (.goto 32, 3) := by decide +kernel
theorem d_M_merge_138 : decode b_M_merge 138 = .ok (.aload_n 0, 1) := by decide +kernel
theorem d_M_merge_139 : decode b_M_merge 139 = .ok (.getfield 19, 3) := by decide +kernel
theorem d_M_merge_142 : decode b_M_merge 142 = .ok (.iload_n 1, 1) := by decide +kernel
theorem d_M_merge_143 : decode b_M_merge 143 = .ok (.iaload, 1) := by decide +kernel
theorem d_M_merge_144 : decode b_M_merge 144 = .ok (.aload_n 0, 1) := by decide +kernel
theorem d_M_merge_145 : decode b_M_merge 145 = .ok (.getfield 19, 3) := by decide +kernel
theorem d_M_merge_148 : decode b_M_merge 148 = .ok (.iload_n 2, 1) := by decide +kernel
theorem d_M_merge_149 : decode b_M_merge 149 = .ok (.iaload, 1) := by decide +kernel
theorem d_M_merge_150 : decode b_M_merge 150 = .ok (.iadd, 1) := by decide +kernel
theorem d_M_merge_151 : decode b_M_merge 151 = .ok (.iconst 1, 1) := by decide +kernel
theorem d_M_merge_152 : decode b_M_merge 152 = .ok (.aload_n 0, 1) := by decide +kernel
theorem d_M_merge_153 : decode b_M_merge 153 = .ok (.getfield 13, 3) := by decide +kernel
theorem d_M_merge_156 : decode b_M_merge 156 = .ok (.iload_n 1, 1) := by decide +kernel
theorem d_M_merge_157 : decode b_M_merge 157 = .ok (.iaload, 1) := by decide +kernel
theorem d_M_merge_158 : decode b_M_merge 158 = .ok (.ishl, 1) := by decide +kernel
theorem d_M_merge_159 : decode b_M_merge 159 = .ok (.if_icmp .le 7, 3) := by decide +kernel
theorem d_M_merge_162 : decode b_M_merge 162 = .ok (.iconst 4, 1) := by decide +kernel
theorem d_M_merge_163 : decode b_M_merge 163 = .ok (.goto 4, 3) := by decide +kernel
theorem d_M_merge_166 : decode b_M_merge 166 = .ok (.iconst 0, 1) := by decide +kernel
theorem d_M_merge_167 : decode b_M_merge 167 = .ok (.putfield 43, 3) := by decide +kernel
theorem d_M_merge_170 : decode b_M_merge 170 = .ok (.aload_n 0, 1) := by decide +kernel
theorem d_M_merge_171 : decode b_M_merge 171 = .ok (.getfield 43, 3) := by decide +kernel
theorem d_M_merge_174 : decode b_M_merge 174 = .ok (.ifCond .le 5, 3) := by decide +kernel
theorem d_M_merge_177 : decode b_M_merge 177 = .ok (.iconst 0, 1) := by decide +kernel
theorem d_M_merge_178 : decode b_M_merge 178 = .ok (.ireturn, 1) := by decide +kernel
theorem d_M_merge_179 : decode b_M_merge 179 = .ok (.aload_n 0, 1) := by decide +kernel
theorem d_M_merge_180 : decode b_M_merge 180 = .ok (.getfield 19, 3) := by decide +kernel
theorem d_M_merge_183 : decode b_M_merge 183 = .ok (.iload_n 2, 1) := by decide +kernel
theorem d_M_merge_184 : decode b_M_merge 184 = .ok (.iaload, 1) := by decide +kernel
theorem d_M_merge_185 : decode b_M_merge 185 = .ok (.istore 6, 2) := by decide +kernel
theorem d_M_merge_187 : decode b_M_merge 187 = .ok (.iconst 0, 1) := by decide +kernel
theorem d_M_merge_188 : decode b_M_merge 188 = .ok (.istore 7, 2) := by decide +kernel
theorem d_M_merge_190 : decode b_M_merge 190 = .ok (.iload 7, 2) := by decide +kernel
theorem d_M_merge_192 : decode b_M_merge 192 = .ok (.iload 6, 2) := by decide +kernel
theorem d_M_merge_194 : decode b_M_merge 194 = .ok (.if_icmp .ge 59, 3) := by decide +kernel
theorem d_M_merge_197 : decode b_M_merge 197 = .ok (.aload_n 0, 1) := by decide +kernel
theorem d_M_merge_198 : decode b_M_merge 198 = .ok (.getfield 28, 3) := by decide +kernel
theorem d_M_merge_201 : decode b_M_merge 201 = .ok (.sipush 256, 3) := by decide +kernel
theorem d_M_merge_204 : decode b_M_merge 204 = .ok (.iload_n 2, 1) := by decide +kernel
theorem d_M_merge_205 : decode b_M_merge 205 = .ok (.imul, 1) := by decide +kernel
theorem d_M_merge_206 : decode b_M_merge 206 = .ok (.iload_n 1, 1) := by decide +kernel
theorem d_M_merge_207 : decode b_M_merge 207 = .ok (.iload_n 2, 1) := by decide +kernel
theorem d_M_merge_208 : decode b_M_merge 208 = .ok (.if_icmp .ne 10, 3) := by decide +kernel
theorem d_M_merge_211 : decode b_M_merge 211 = .ok (.iconst 2, 1) := by decide +kernel
theorem d_M_merge_212 : decode b_M_merge 212 = .ok (.iload 7, 2) := by decide +kernel
theorem d_M_merge_214 : decode b_M_merge 214 = .ok (.imul, 1) := by decide +kernel
theorem d_M_merge_215 : decode b_M_merge 215 = .ok (.goto 5, 3) := by decide +kernel
theorem d_M_merge_218 : decode b_M_merge 218 = .ok (.iload 7, 2) := by decide +kernel
theorem d_M_merge_220 : decode b_M_merge 220 = .ok (.iadd, 1) := by decide +kernel
theorem d_M_merge_221 : decode b_M_merge 221 = .ok (.iaload, 1) := by decide +kernel
theorem d_M_merge_222 : decode b_M_merge 222 = .ok (.istore 8, 2) := by decide +kernel
theorem d_M_merge_224 : decode b_M_merge 224 = .ok (.aload_n 0, 1) := by decide +kernel
theorem d_M_merge_225 : decode b_M_merge 225 = .ok (.iload_n 1, 1) := by decide +kernel
theorem d_M_merge_226 : decode b_M_merge 226 = .ok (.aload_n 0, 1) := by decide +kernel
theorem d_M_merge_227 : decode b_M_merge 227 = .ok (.getfield 19, 3) := by decide +kernel
theorem d_M_merge_230 : decode b_M_merge 230 = .ok (.iload_n 1, 1) := by decide +kernel
theorem d_M_merge_231 : decode b_M_merge 231 = .ok (.iaload, 1) := by decide +kernel
theorem d_M_merge_232 : decode b_M_merge 232 = .ok (.iload 8, 2) := by decide +kernel
theorem d_M_merge_234 : decode b_M_merge 234 = .ok (.invokevirtual 97, 3) := by decide +kernel
theorem d_M_merge_237 : decode b_M_merge 237 = .ok (.aload_n 0, 1) := by decide +kernel
theorem d_M_merge_238 : decode b_M_merge 238 = .ok (.getfield 19, 3) := by decide +kernel
theorem d_M_merge_241 : decode b_M_merge 241 = .ok (.iload_n 1, 1) := by decide +kernel
theorem d_M_merge_242 : decode b_M_merge 242 = .ok (.dup2, 1) := by decide +kernel
theorem d_M_merge_243 : decode b_M_merge 243 = .ok (.iaload, 1) := by decide +kernel
theorem d_M_merge_244 : decode b_M_merge 244 = .ok (.iconst 1, 1) := by decide +kernel
theorem d_M_merge_245 : decode b_M_merge 245 = .ok (.iadd, 1) := by decide +kernel
theorem d_M_merge_246 : decode b_M_merge 246 = .ok (.iastore, 1) := by decide +kernel
theorem d_M_merge_247 : decode b_M_merge 247 = .ok (.iinc 7 1, 3) := by decide +kernel
theorem d_M_merge_250 : decode b_M_merge 250 = .ok (.goto (-60), 3) := by decide +kernel
theorem d_M_merge_253 : decode b_M_merge 253 = .ok (.aload_n 0, 1) := by decide +kernel
theorem d_M_merge_254 : decode b_M_merge 254 = .ok (.getfield 19, 3) := by decide +kernel
theorem d_M_merge_257 : decode b_M_merge 257 = .ok (.iload_n 1, 1) := by decide +kernel
theorem d_M_merge_258 : decode b_M_merge 258 = .ok (.iaload, 1) := by decide +kernel
theorem d_M_merge_259 : decode b_M_merge 259 = .ok (.ireturn, 1) := by decide +kernel
theorem d_M_grow_0 : decode b_M_grow 0 = .ok (.aload_n 0, 1) := by decide +kernel
theorem d_M_grow_1 : decode b_M_grow 1 = .ok (.aload_n 0, 1) := by decide +kernel
theorem d_M_grow_2 : decode b_M_grow 2 = .ok (.iload_n 1, 1) := by decide +kernel
theorem d_M_grow_3 : decode b_M_grow 3 = .ok (.invokevirtual 116, 3) := by decide +kernel
theorem d_M_grow_6 : decode b_M_grow 6 = .ok (.ifCond .le 11, 3) := by decide +kernel
theorem d_M_grow_9 : decode b_M_grow 9 = .ok (.aload_n 0, 1) := by decide +kernel
theorem d_M_grow_10 : decode b_M_grow 10 = .ok (.iload_n 1, 1) := by decide +kernel
theorem d_M_grow_11 : decode b_M_grow 11 = .ok (.invokevirtual 116, 3) := by decide +kernel
theorem d_M_grow_14 : decode b_M_grow 14 = .ok (.goto 39, 3) := by decide +kernel
theorem d_M_grow_17 : decode b_M_grow 17 = .ok (.aload_n 0, 1) := by decide +kernel
theorem d_M_grow_18 : decode b_M_grow 18 = .ok (.getfield 7, 3) := by decide +kernel
theorem d_M_grow_21 : decode b_M_grow 21 = .ok (.iload_n 1, 1) := by decide +kernel
theorem d_M_grow_22 : decode b_M_grow 22 = .ok (.iaload, 1) := by decide +kernel
theorem d_M_grow_23 : decode b_M_grow 23 = .ok (.iconst 3, 1) := by decide +kernel
theorem d_M_grow_24 : decode b_M_grow 24 = .ok (.if_icmp .ne 24, 3) := by decide +kernel
theorem d_M_grow_27 : decode b_M_grow 27 = .ok (.aload_n 0, 1) := by decide +kernel
theorem d_M_grow_28 : decode b_M_grow 28 = .ok (.getfield 13, 3) := by decide +kernel
theorem d_M_grow_31 : decode b_M_grow 31 = .ok (.iload_n 1, 1) := by decide +kernel
theorem d_M_grow_32 : decode b_M_grow 32 = .ok (.iaload, 1) := by decide +kernel
theorem d_M_grow_33 : decode b_M_grow 33 = .ok (.bipush 8, 2) := by decide +kernel
theorem d_M_grow_35 : decode b_M_grow 35 = .ok (.if_icmp .eq 13, 3) := by decide +kernel
theorem d_M_grow_38 : decode b_M_grow 38 = .ok (.aload_n 0, 1) := by decide +kernel
theorem d_M_grow_39 : decode b_M_grow 39 = .ok (.getfield 16, 3) := by decide +kernel
theorem d_M_grow_42 : decode b_M_grow 42 = .ok (.iload_n 1, 1) := by decide +kernel
theorem d_M_grow_43 : decode b_M_grow 43 = .ok (.iaload, 1) := by decide +kernel
theorem d_M_grow_44 : decode b_M_grow 44 = .ok (.iconst 4, 1) := by decide +kernel
theorem d_M_grow_45 : decode b_M_grow 45 = .ok (.if_icmp .ne 7, 3) := by decide +kernel
theorem d_M_grow_48 : decode b_M_grow 48 = .ok (.iconst 3, 1) := by decide +kernel
theorem d_M_grow_49 : decode b_M_grow 49 = .ok (.goto 4, 3) := by decide +kernel
theorem d_M_grow_52 : decode b_M_grow 52 = .ok (.iconst 0, 1) := by decide +kernel
theorem d_M_grow_53 : decode b_M_grow 53 = .ok (.putfield 43, 3) := by decide +kernel
theorem d_M_grow_56 : decode b_M_grow 56 = .ok (.aload_n 0, 1) := by decide +kernel
theorem d_M_grow_57 : decode b_M_grow 57 = .ok (.getfield 43, 3) := by decide +kernel
theorem d_M_grow_60 : decode b_M_grow 60 = .ok (.ifCond .le 4, 3) := by decide +kernel
theorem d_M_grow_63 : decode b_M_grow 63 = .ok (.return_, 1) := by decide +kernel
theorem d_M_grow_64 : decode b_M_grow 64 = .ok (.aload_n 0, 1) := by decide +kernel
theorem d_M_grow_65 : decode b_M_grow 65 = .ok (.getfield 13, 3) := by decide +kernel
theorem d_M_grow_68 : decode b_M_grow 68 = .ok (.iload_n 1, 1) := by decide +kernel
theorem d_M_grow_69 : decode b_M_grow 69 = .ok (.dup2, 1) := by decide +kernel
theorem d_M_grow_70 : decode b_M_grow 70 = .ok (.iaload, 1) := by decide +kernel
theorem d_M_grow_71 : decode b_M_grow 71 = .ok (.iconst 1, 1) := by decide +kernel
theorem d_M_grow_72 : decode b_M_grow 72 = .ok (.iadd, 1) := by decide +kernel
theorem d_M_grow_73 : decode b_M_grow 73 = .ok (.iastore, 1) := by decide +kernel
theorem d_M_grow_74 : decode b_M_grow 74 = .ok (.aload_n 0, 1) := by decide +kernel
theorem d_M_grow_75 : decode b_M_grow 75 = .ok (.getfield 16, 3) := by decide +kernel
theorem d_M_grow_78 : decode b_M_grow 78 = .ok (.iload_n 1, 1) := by decide +kernel
theorem d_M_grow_79 : decode b_M_grow 79 = .ok (.dup2, 1) := by decide +kernel
theorem d_M_grow_80 : decode b_M_grow 80 = .ok (.iaload, 1) := by decide +kernel
theorem d_M_grow_81 : decode b_M_grow 81 = .ok (.iconst 1, 1) := by decide +kernel
theorem d_M_grow_82 : decode b_M_grow 82 = .ok (.isub, 1) := by decide +kernel
theorem d_M_grow_83 : decode b_M_grow 83 = .ok (.iastore, 1) := by decide +kernel
theorem d_M_grow_84 : decode b_M_grow 84 = .ok (.iconst 0, 1) := by decide +kernel
theorem d_M_grow_85 : decode b_M_grow 85 = .ok (.istore_n 2, 1) := by decide +kernel
theorem d_M_grow_86 : decode b_M_grow 86 = .ok (.iload_n 2, 1) := by decide +kernel
theorem d_M_grow_87 : decode b_M_grow 87 = .ok (.aload_n 0, 1) := by decide +kernel
theorem d_M_grow_88 : decode b_M_grow 88 = .ok (.getfield 19, 3) := by decide +kernel
theorem d_M_grow_91 : decode b_M_grow 91 = .ok (.iload_n 1, 1) := by decide +kernel
theorem d_M_grow_92 : decode b_M_grow 92 = .ok (.iaload, 1) := by decide +kernel
theorem d_M_grow_93 : decode b_M_grow 93 = .ok (.if_icmp .ge 79, 3) := by decide +kernel
theorem d_M_grow_96 : decode b_M_grow 96 = .ok (.aload_n 0, 1) := by decide +kernel
theorem d_M_grow_97 : decode b_M_grow 97 = .ok (.getfield 28, 3) := by decide +kernel
theorem d_M_grow_100 : decode b_M_grow 100 = .ok (.sipush 256, 3) := by decide +kernel
theorem d_M_grow_103 : decode b_M_grow 103 = .ok (.iload_n 1, 1) := by decide +kernel
theorem d_M_grow_104 : decode b_M_grow 104 = .ok (.imul, 1) := by decide +kernel
theorem d_M_grow_105 : decode b_M_grow 105 = .ok (.iload_n 2, 1) := by decide +kernel
theorem d_M_grow_106 : decode b_M_grow 106 = .ok (.iadd, 1) := by decide +kernel
theorem d_M_grow_107 : decode b_M_grow 107 = .ok (.iaload, 1) := by decide +kernel
theorem d_M_grow_108 : decode b_M_grow 108 = .ok (.istore_n 3, 1) := by decide +kernel
theorem d_M_grow_109 : decode b_M_grow 109 = .ok (.iload_n 3, 1) := by decide +kernel
theorem d_M_grow_110 : decode b_M_grow 110 = .ok (.ldc 129, 2) := by decide +kernel
theorem d_M_grow_112 : decode b_M_grow 112 = .ok (.iand, 1) := by decide +kernel
theorem d_M_grow_113 : decode b_M_grow 113 = .ok (.istore 4, 2) := by decide +kernel
theorem d_M_grow_115 : decode b_M_grow 115 = .ok (.iconst 2, 1) := by decide +kernel
theorem d_M_grow_116 : decode b_M_grow 116 = .ok (.iload_n 3, 1) := by decide +kernel
theorem d_M_grow_117 : decode b_M_grow 117 = .ok (.bipush 20, 2) := by decide +kernel
theorem d_M_grow_119 : decode b_M_grow 119 = .ok (.ishr, 1) := by decide +kernel
theorem d_M_grow_120 : decode b_M_grow 120 = .ok (.imul, 1) := by decide +kernel
theorem d_M_grow_121 : decode b_M_grow 121 = .ok (.iload 4, 2) := by decide +kernel
theorem d_M_grow_123 : decode b_M_grow 123 = .ok (.aload_n 0, 1) := by decide +kernel
theorem d_M_grow_124 : decode b_M_grow 124 = .ok (.getfield 16, 3) := by decide +kernel
theorem d_M_grow_127 : decode b_M_grow 127 = .ok (.iload_n 1, 1) := by decide +kernel
theorem d_M_grow_128 : decode b_M_grow 128 = .ok (.iaload, 1) := by decide +kernel
theorem d_M_grow_129 : decode b_M_grow 129 = .ok (.ishr, 1) := by decide +kernel
theorem d_M_grow_130 : decode b_M_grow 130 = .ok (.iconst 1, 1) := by decide +kernel
theorem d_M_grow_131 : decode b_M_grow 131 = .ok (.iand, 1) := by decide +kernel
theorem d_M_grow_132 : decode b_M_grow 132 = .ok (.iadd, 1) := by decide +kernel
theorem d_M_grow_133 : decode b_M_grow 133 = .ok (.istore 5, 2) := by decide +kernel
theorem d_M_grow_135 : decode b_M_grow 135 = .ok (.aload_n 0, 1) := by decide +kernel
theorem d_M_grow_136 : decode b_M_grow 136 = .ok (.getfield 28, 3) := by decide +kernel
theorem d_M_grow_139 : decode b_M_grow 139 = .ok (.sipush 256, 3) := by decide +kernel
theorem d_M_grow_142 : decode b_M_grow 142 = .ok (.iload_n 1, 1) := by decide +kernel
theorem d_M_grow_143 : decode b_M_grow 143 = .ok (.imul, 1) := by decide +kernel
theorem d_M_grow_144 : decode b_M_grow 144 = .ok (.iload_n 2, 1) := by decide +kernel
theorem d_M_grow_145 : decode b_M_grow 145 = .ok (.iadd, 1) := by decide +kernel
theorem d_M_grow_146 : decode b_M_grow 146 = .ok (.iload 5, 2) := by decide +kernel
theorem d_M_grow_148 : decode b_M_grow 148 = .ok (.bipush 20, 2) := by decide +kernel
theorem d_M_grow_150 : decode b_M_grow 150 = .ok (.ishl, 1) := by decide +kernel
theorem d_M_grow_151 : decode b_M_grow 151 = .ok (.iload 4, 2) := by decide +kernel
theorem d_M_grow_153 : decode b_M_grow 153 = .ok (.iconst 1, 1) := by decide +kernel
theorem d_M_grow_154 : decode b_M_grow 154 = .ok (.aload_n 0, 1) := by decide +kernel
theorem d_M_grow_155 : decode b_M_grow 155 = .ok (.getfield 16, 3) := by decide +kernel
theorem d_M_grow_158 : decode b_M_grow 158 = .ok (.iload_n 1, 1) := by decide +kernel
theorem d_M_grow_159 : decode b_M_grow 159 = .ok (.iaload, 1) := by decide +kernel
theorem d_M_grow_160 : decode b_M_grow 160 = .ok (.ishl, 1) := by decide +kernel
theorem d_M_grow_161 : decode b_M_grow 161 = .ok (.iconst 1, 1) := by decide +kernel
theorem d_M_grow_162 : decode b_M_grow 162 = .ok (.isub, 1) := by decide +kernel
theorem d_M_grow_163 : decode b_M_grow 163 = .ok (.iand, 1) := by decide +kernel
theorem d_M_grow_164 : decode b_M_grow 164 = .ok (.ior, 1) := by decide +kernel
theorem d_M_grow_165 : decode b_M_grow 165 = .ok (.iastore, 1) := by decide +kernel
theorem d_M_grow_166 : decode b_M_grow 166 = .ok (.iinc 2 1, 3) := by decide +kernel
theorem d_M_grow_169 : decode b_M_grow 169 = .ok (.goto (-83), 3) := by decide +kernel
theorem d_M_grow_172 : decode b_M_grow 172 = .ok (.return_, 1) := by decide +kernel
theorem d_M_clear_0 : decode b_M_clear 0 = .ok (.aload_n 0, 1) := by decide +kernel
theorem d_M_clear_1 : decode b_M_clear 1 = .ok (.aload_n 0, 1) := by decide +kernel
theorem d_M_clear_2 : decode b_M_clear 2 = .ok (.iload_n 1, 1) := by decide +kernel
theorem d_M_clear_3 : decode b_M_clear 3 = .ok (.invokevirtual 116, 3) := by decide +kernel
theorem d_M_clear_6 : decode b_M_clear 6 = .ok (.putfield 43, 3) := by decide +kernel
theorem d_M_clear_9 : decode b_M_clear 9 = .ok (.aload_n 0, 1) := by decide +kernel
theorem d_M_clear_10 : decode b_M_clear 10 = .ok (.getfield 43, 3) := by decide +kernel
theorem d_M_clear_13 : decode b_M_clear 13 = .ok (.ifCond .le 5, 3) := by decide +kernel
theorem d_M_clear_16 : decode b_M_clear 16 = .ok (.iconst 0, 1) := by decide +kernel
theorem d_M_clear_17 : decode b_M_clear 17 = .ok (.ireturn, 1) := by decide +kernel
theorem d_M_clear_18 : decode b_M_clear 18 = .ok (.aload_n 0, 1) := by decide +kernel
theorem d_M_clear_19 : decode b_M_clear 19 = .ok (.getfield 19, 3) := by decide +kernel
theorem d_M_clear_22 : decode b_M_clear 22 = .ok (.iload_n 1, 1) := by decide +kernel
theorem d_M_clear_23 : decode b_M_clear 23 = .ok (.iaload, 1) := by decide +kernel
theorem d_M_clear_24 : decode b_M_clear 24 = .ok (.istore_n 2, 1) := by decide +kernel
theorem d_M_clear_25 : decode b_M_clear 25 = .ok (.aload_n 0, 1) := by decide +kernel
theorem d_M_clear_26 : decode b_M_clear 26 = .ok (.iload_n 1, 1) := by decide +kernel
theorem d_M_clear_27 : decode b_M_clear 27 = .ok (.invokevirtual 112, 3) := by decide +kernel
theorem d_M_clear_30 : decode b_M_clear 30 = .ok (.iload_n 2, 1) := by decide +kernel
theorem d_M_clear_31 : decode b_M_clear 31 = .ok (.ireturn, 1) := by decide +kernel
end
section
/-- what all contracts stand on: the tables at the law's start, the classes' numbers, no stack traces, what the Statement gives of the start -/
def Gx (l : Launch) (s0 : State) (D : va_G) (cI cF cJ : ClassId) : Prop :=
  Tb s0 ∧ va_K D vcl [(cI, .int), (cF, .object "FewBits$Filter"), (cJ, .long)] s0 ∧ l.stackTraces = false ∧ ∃ a0 : Array Value, (Jvm.Cond.and given_1 narrow_1).before a0 s0 = true
abbrev tys (cI cF cJ : ClassId) : List (ClassId × FieldType) := [(cI, .int), (cF, .object "FewBits$Filter"), (cJ, .long)]
theorem Gx.k {l : Launch} {s0 : State} {D : va_G} {cI cF cJ : ClassId} (G : Gx l s0 D cI cF cJ) {U : State} (hW : s0.WarmedH U.vm) : va_K D vcl (tys cI cF cJ) U := G.2.1.moved hW.alike
/-- int arrays whose cells are natural numbers; any int array -/
abbrev aN (cI : ClassId) (n : Nat) (c : Nat → Nat) : va_E := .inl (cI, n, .inl (fun q => nI (c q)))
abbrev aI (cI : ClassId) (n : Nat) (f : Nat → Int32) : va_E := .inl (cI, n, .inl f)
abbrev aJ (cJ : ClassId) (n : Nat) (f : Nat → Int64) : va_E := .inl (cJ, n, .inr (.inl f))
abbrev aQ (cF : ClassId) (n : Nat) (f : Nat → Option Nat) : va_E := .inl (cF, n, .inr (.inr (.inr (.inr f))))
/-- what may change: the addresses ad, and what is new -/
def Aa (ad : List Nat) (sz : Nat) : Nat → Prop := fun q => q ∈ ad ∨ sz ≤ q
theorem Aa.mono {ad ad' : List Nat} {sz sz' : Nat} (h : ∀ q ∈ ad, q ∈ ad') (hs : sz' ≤ sz) : ∀ q, Aa ad sz q → Aa ad' sz' q := fun q hq => hq.elim (fun h1 => Or.inl (h q h1)) (fun h1 => Or.inr (Nat.le_trans hs h1))
theorem Aa.up {ad : List Nat} {sz : Nat} : ∀ q, sz ≤ q → Aa ad sz q := fun _ h => Or.inr h
theorem upN (c : Nat → Nat) (k v : Nat) : upd (fun q => nI (c q)) k (nI v) = fun q => nI (va_up c k v q) := by
  funext q
  by_cases h : q = k
  · subst h; simp [upd, va_up]
  · simp [upd, va_up, h]
section ROWS
variable {p : Program} {l : Launch} {e : Env} {R : Room} {s : State} {m : MethodId} {args : Array Value} {below : List Frame} {meth : Method} {c : Code} {H : Heap} {locs : List Loc} {cells slots : Nat} {Q : State → Prop}
variable {cc : ByteArray} {pc : Nat} {ls : Array Slot} {rest : List Value} {D : va_G} {cI cF cJ : ClassId} {ws : va_W} {A : Nat → Prop} {H0 : Heap} {a : Nat}
theorem tp_i {x y : Int32} (h : x = y) (k : W p l e R s m args below meth c H locs cells slots Q (F0 m pc ls (.int y :: rest))) : W p l e R s m args below meth c H locs cells slots Q (F0 m pc ls (.int x :: rest)) := h ▸ k
theorem tp_l {x y : Int64} (h : x = y) (k : W p l e R s m args below meth c H locs cells slots Q (F0 m pc ls (.long y :: rest))) : W p l e R s m args below meth c H locs cells slots Q (F0 m pc ls (.long x :: rest)) := h ▸ k
theorem ia_ld (hx : p.tables.exec = Jvm.exec) (hb : c.code = cc) (hK : va_K D vcl (tys cI cF cJ) s) (hP : va_P D vcl ws H) (q0 : Nat) {n j : Nat} {f : Nat → Int32} (ha : ws[q0]? = some (a, aI cI n f)) (hj : j < n) (hn : n < 2 ^ 31) (hdg : decode cc pc = .ok (.iaload, 1))
    (kk : W p l e R s m args below meth c H locs cells slots Q (F0 m (pc + 1) ls (.int (f j) :: rest))) : W p l e R s m args below meth c H locs cells slots Q (F0 m pc ls (.int (nI j) :: .ref a :: rest)) := by
  refine va_iald hx hb hK hP q0 0 ha rfl (vp_in_nI hj hn) hdg ?_
  rw [nI_clamp (Nat.lt_trans hj hn)]
  exact kk
theorem ia_st (hx : p.tables.exec = Jvm.exec) (hb : c.code = cc) (hK : va_K D vcl (tys cI cF cJ) s) (hP : va_P D vcl ws H) (hD : va_D A ws) (hS : va_S A H0 H locs) (q0 : Nat) {n j : Nat} {f : Nat → Int32} {x : Int32} (ha : ws[q0]? = some (a, aI cI n f)) (hj : j < n) (hn : n < 2 ^ 31) (hdg : decode cc pc = .ok (.iastore, 1))
    (kk : ∀ (H1 : Heap) (locs1 : List Loc), va_P D vcl (ws.set q0 (a, aI cI n (upd f j x))) H1 → va_D A (ws.set q0 (a, aI cI n (upd f j x))) → va_S A H0 H1 locs1 → W p l e R s m args below meth c H1 locs1 cells slots Q (F0 m (pc + 1) ls rest)) : W p l e R s m args below meth c H locs cells slots Q (F0 m pc ls (.int x :: .int (nI j) :: .ref a :: rest)) := by
  refine va_iast hx hb hK hP hD hS q0 0 ha rfl (vp_in_nI hj hn) hdg (fun H1 l1 => ?_)
  rw [nI_clamp (Nat.lt_trans hj hn)]
  exact kk H1 l1
theorem ia_stN (hx : p.tables.exec = Jvm.exec) (hb : c.code = cc) (hK : va_K D vcl (tys cI cF cJ) s) (hP : va_P D vcl ws H) (hD : va_D A ws) (hS : va_S A H0 H locs) (q0 : Nat) {n j x : Nat} {f : Nat → Nat} (ha : ws[q0]? = some (a, aN cI n f)) (hj : j < n) (hn : n < 2 ^ 31) (hdg : decode cc pc = .ok (.iastore, 1))
    (kk : ∀ (H1 : Heap) (locs1 : List Loc), va_P D vcl (ws.set q0 (a, aN cI n (va_up f j x))) H1 → va_D A (ws.set q0 (a, aN cI n (va_up f j x))) → va_S A H0 H1 locs1 → W p l e R s m args below meth c H1 locs1 cells slots Q (F0 m (pc + 1) ls rest)) : W p l e R s m args below meth c H locs cells slots Q (F0 m pc ls (.int (nI x) :: .int (nI j) :: .ref a :: rest)) := by
  refine ia_st hx hb hK hP hD hS q0 ha hj hn hdg (fun H1 l1 => ?_)
  rw [upN]
  exact kk H1 l1
end ROWS
end
section
set_option maxRecDepth 20000 in
theorem Tb.sel {s0 : State} (h : Tb s0) {q : MethodName × Nat} (i : Nat) (hi : lw_privs[i]? = some q) (a : Array Value) {U : State} (hW : s0.WarmedH U.vm) : (Cond.selects q.1.cls q.1 q.1).before a U = true := by
  refine h.w (List.mem_append_left _ (List.mem_map.mpr ⟨q, List.mem_of_getElem? hi, rfl⟩)) ?_ a hW
  rfl
set_option maxRecDepth 20000 in
theorem Tb.nw {s0 : State} (h : Tb s0) {w : Cond} (i : Nat) (hi : tables_1[i]? = some w) (ht : w.onTables = true) : va_Nw w s0 := by
  obtain ⟨a0, h⟩ := h
  exact va_Nw.of ht (h w (List.mem_append_right _ (List.mem_of_getElem? hi)))
set_option maxRecDepth 20000 in
theorem cd_of {s0 s : State} (hW : s0.WarmedH s.vm) {y : MethodName} {cc : ByteArray} {maxL : Nat} {ret : Option FieldType} (h1 : ∀ (a : Array Value) (U : State), s0.WarmedH U.vm → (Cond.code y cc maxL ret).before a U = true) (h2 : ∀ (a : Array Value) (U : State), s0.WarmedH U.vm → (Cond.initialized y.cls).before a U = true) : mx_Cd s y (.code y cc maxL ret) maxL := by
  intro a U hU
  have hV := State.WarmedH.trans hW hU
  refine ⟨h1 a U hV, h2 a U hV, fun mY hn => ?_⟩
  obtain ⟨meth, c, q1, q2, -, q4, -⟩ := Cond.code_spec hn (h1 a U hV)
  exact ⟨meth, c, q1, q2, q4⟩
theorem cd_ofW {s0 s : State} (hW : s0.WarmedH s.vm) {y : MethodName} {cc : ByteArray} {maxL : Nat} {ret : Option FieldType} {hh : List (Nat × Nat × Nat × Nat)} (h1 : ∀ (a : Array Value) (U : State), s0.WarmedH U.vm → (Cond.codeWith y cc maxL ret hh).before a U = true) (h2 : ∀ (a : Array Value) (U : State), s0.WarmedH U.vm → (Cond.initialized y.cls).before a U = true) : mx_Cd s y (.codeWith y cc maxL ret hh) maxL := by
  intro a U hU
  have hV := State.WarmedH.trans hW hU
  refine ⟨h1 a U hV, h2 a U hV, fun mY hn => ?_⟩
  obtain ⟨m9, meth, c, hn9, q1, q2, q3, q4, -⟩ := Cond.codeWith_spec (h1 a U hV)
  cases Option.some.inj (hn9.symm.trans hn)
  exact ⟨meth, c, q1, q2, q4⟩
set_option maxRecDepth 20000 in
theorem us_C {l : Launch} {s0 : State} {D : va_G} {cI cF cJ : ClassId} (G : Gx l s0 D cI cF cJ) {s : State} {args : Array Value} (hW : s0.WarmedH s.vm) : ∀ w ∈ u_ws R_C T_C 6, w.before args s = true := by
  intro w hw
  have h : w ∈ ([196, 198, 200, 190, 192, 194] : List Nat).filterMap (fun i => tables_1[i]?) := (by decide +kernel : u_ws R_C T_C 6 = ([196, 198, 200, 190, 192, 194] : List Nat).filterMap (fun i => tables_1[i]?)) ▸ hw
  obtain ⟨i, hi, hj⟩ := List.mem_filterMap.mp h
  refine G.1.at i hj ?_ _ hW
  have hg : (u_ws R_C T_C 6).all goodWord = true := by decide +kernel
  exact List.all_eq_true.mp hg w hw
set_option maxRecDepth 20000 in
theorem us_B {l : Launch} {s0 : State} {D : va_G} {cI cF cJ : ClassId} (G : Gx l s0 D cI cF cJ) {s : State} {args : Array Value} (hW : s0.WarmedH s.vm) : ∀ w ∈ u_ws R_B T_B 6, w.before args s = true := by
  intro w hw
  have h : w ∈ ([219, 220, 221, 213, 215, 217] : List Nat).filterMap (fun i => tables_1[i]?) := (by decide +kernel : u_ws R_B T_B 6 = ([219, 220, 221, 213, 215, 217] : List Nat).filterMap (fun i => tables_1[i]?)) ▸ hw
  obtain ⟨i, hi, hj⟩ := List.mem_filterMap.mp h
  refine G.1.at i hj ?_ _ hW
  have hg : (u_ws R_B T_B 6).all goodWord = true := by decide +kernel
  exact List.all_eq_true.mp hg w hw
set_option maxRecDepth 20000 in
theorem us_R {l : Launch} {s0 : State} {D : va_G} {cI cF cJ : ClassId} (G : Gx l s0 D cI cF cJ) {s : State} {args : Array Value} (hW : s0.WarmedH s.vm) : ∀ w ∈ u_ws R_R T_R 5, w.before args s = true := by
  intro w hw
  have h : w ∈ ([235, 236, 237, 231, 233] : List Nat).filterMap (fun i => tables_1[i]?) := (by decide +kernel : u_ws R_R T_R 5 = ([235, 236, 237, 231, 233] : List Nat).filterMap (fun i => tables_1[i]?)) ▸ hw
  obtain ⟨i, hi, hj⟩ := List.mem_filterMap.mp h
  refine G.1.at i hj ?_ _ hW
  have hg : (u_ws R_R T_R 5).all goodWord = true := by decide +kernel
  exact List.all_eq_true.mp hg w hw
set_option maxRecDepth 20000 in
theorem us_F {l : Launch} {s0 : State} {D : va_G} {cI cF cJ : ClassId} (G : Gx l s0 D cI cF cJ) {s : State} {args : Array Value} (hW : s0.WarmedH s.vm) : ∀ w ∈ u_ws R_F T_F 2, w.before args s = true := by
  intro w hw
  have h : w ∈ ([30, 32] : List Nat).filterMap (fun i => tables_1[i]?) := (by decide +kernel : u_ws R_F T_F 2 = ([30, 32] : List Nat).filterMap (fun i => tables_1[i]?)) ▸ hw
  obtain ⟨i, hi, hj⟩ := List.mem_filterMap.mp h
  refine G.1.at i hj ?_ _ hW
  have hg : (u_ws R_F T_F 2).all goodWord = true := by decide +kernel
  exact List.all_eq_true.mp hg w hw
set_option maxRecDepth 20000 in
theorem us_M {l : Launch} {s0 : State} {D : va_G} {cI cF cJ : ClassId} (G : Gx l s0 D cI cF cJ) {s : State} {args : Array Value} (hW : s0.WarmedH s.vm) : ∀ w ∈ u_ws R_M T_M 12, w.before args s = true := by
  intro w hw
  have h : w ∈ ([665, 667, 669, 671, 673, 675, 677, 679, 681, 683, 685, 687] : List Nat).filterMap (fun i => tables_1[i]?) := (by decide +kernel : u_ws R_M T_M 12 = ([665, 667, 669, 671, 673, 675, 677, 679, 681, 683, 685, 687] : List Nat).filterMap (fun i => tables_1[i]?)) ▸ hw
  obtain ⟨i, hi, hj⟩ := List.mem_filterMap.mp h
  refine G.1.at i hj ?_ _ hW
  have hg : (u_ws R_M T_M 12).all goodWord = true := by decide +kernel
  exact List.all_eq_true.mp hg w hw
set_option maxRecDepth 20000 in
theorem cd_F_init {l : Launch} {s0 : State} {D : va_G} {cI cF cJ : ClassId} (G : Gx l s0 D cI cF cJ) {s : State} (hW : s0.WarmedH s.vm) : mx_Cd s y_F_init (.code y_F_init b_F_init 1 none) 1 := cd_of hW (fun a U hW => G.1.at 22 rfl rfl _ hW) (fun a U hW => G.1.at 1 rfl rfl _ hW)
set_option maxRecDepth 20000 in
theorem cd_F_mix {l : Launch} {s0 : State} {D : va_G} {cI cF cJ : ClassId} (G : Gx l s0 D cI cF cJ) {s : State} (hW : s0.WarmedH s.vm) : mx_Cd s y_F_mix (.code y_F_mix b_F_mix 4 (some .long)) 4 := cd_of hW (fun a U hW => G.1.at 38 rfl rfl _ hW) (fun a U hW => G.1.at 1 rfl rfl _ hW)
set_option maxRecDepth 20000 in
theorem cd_F_make {l : Launch} {s0 : State} {D : va_G} {cI cF cJ : ClassId} (G : Gx l s0 D cI cF cJ) {s : State} (hW : s0.WarmedH s.vm) : mx_Cd s y_F_make (.code y_F_make b_F_make 6 none) 6 := cd_of hW (fun a U hW => G.1.at 53 rfl rfl _ hW) (fun a U hW => G.1.at 1 rfl rfl _ hW)
set_option maxRecDepth 20000 in
theorem cd_F_add {l : Launch} {s0 : State} {D : va_G} {cI cF cJ : ClassId} (G : Gx l s0 D cI cF cJ) {s : State} (hW : s0.WarmedH s.vm) : mx_Cd s y_F_add (.code y_F_add b_F_add 5 (some .int)) 5 := cd_of hW (fun a U hW => G.1.at 270 rfl rfl _ hW) (fun a U hW => G.1.at 1 rfl rfl _ hW)
set_option maxRecDepth 20000 in
theorem cd_F_addAll {l : Launch} {s0 : State} {D : va_G} {cI cF cJ : ClassId} (G : Gx l s0 D cI cF cJ) {s : State} (hW : s0.WarmedH s.vm) : mx_Cd s y_F_addAll (.code y_F_addAll b_F_addAll 11 (some .int)) 11 := cd_of hW (fun a U hW => G.1.at 410 rfl rfl _ hW) (fun a U hW => G.1.at 1 rfl rfl _ hW)
set_option maxRecDepth 20000 in
theorem cd_F_remove {l : Launch} {s0 : State} {D : va_G} {cI cF cJ : ClassId} (G : Gx l s0 D cI cF cJ) {s : State} (hW : s0.WarmedH s.vm) : mx_Cd s y_F_remove (.code y_F_remove b_F_remove 5 (some .int)) 5 := cd_of hW (fun a U hW => G.1.at 422 rfl rfl _ hW) (fun a U hW => G.1.at 1 rfl rfl _ hW)
set_option maxRecDepth 20000 in
theorem cd_F_has {l : Launch} {s0 : State} {D : va_G} {cI cF cJ : ClassId} (G : Gx l s0 D cI cF cJ) {s : State} (hW : s0.WarmedH s.vm) : mx_Cd s y_F_has (.code y_F_has b_F_has 4 (some .boolean)) 4 := cd_of hW (fun a U hW => G.1.at 468 rfl rfl _ hW) (fun a U hW => G.1.at 1 rfl rfl _ hW)
set_option maxRecDepth 20000 in
theorem cd_F_hasAll {l : Launch} {s0 : State} {D : va_G} {cI cF cJ : ClassId} (G : Gx l s0 D cI cF cJ) {s : State} (hW : s0.WarmedH s.vm) : mx_Cd s y_F_hasAll (.code y_F_hasAll b_F_hasAll 12 (some .int)) 12 := cd_of hW (fun a U hW => G.1.at 487 rfl rfl _ hW) (fun a U hW => G.1.at 1 rfl rfl _ hW)
set_option maxRecDepth 20000 in
theorem cd_F_same {l : Launch} {s0 : State} {D : va_G} {cI cF cJ : ClassId} (G : Gx l s0 D cI cF cJ) {s : State} (hW : s0.WarmedH s.vm) : mx_Cd s y_F_same (.code y_F_same b_F_same 6 (some .boolean)) 6 := cd_of hW (fun a U hW => G.1.at 494 rfl rfl _ hW) (fun a U hW => G.1.at 1 rfl rfl _ hW)
set_option maxRecDepth 20000 in
theorem cd_F_count {l : Launch} {s0 : State} {D : va_G} {cI cF cJ : ClassId} (G : Gx l s0 D cI cF cJ) {s : State} (hW : s0.WarmedH s.vm) : mx_Cd s y_F_count (.code y_F_count b_F_count 4 (some .int)) 4 := cd_of hW (fun a U hW => G.1.at 513 rfl rfl _ hW) (fun a U hW => G.1.at 1 rfl rfl _ hW)
set_option maxRecDepth 20000 in
theorem cd_F_cell {l : Launch} {s0 : State} {D : va_G} {cI cF cJ : ClassId} (G : Gx l s0 D cI cF cJ) {s : State} (hW : s0.WarmedH s.vm) : mx_Cd s y_F_cell (.code y_F_cell b_F_cell 4 (some .int)) 4 := cd_of hW (fun a U hW => G.1.at 577 rfl rfl _ hW) (fun a U hW => G.1.at 1 rfl rfl _ hW)
set_option maxRecDepth 20000 in
theorem cd_F_merge {l : Launch} {s0 : State} {D : va_G} {cI cF cJ : ClassId} (G : Gx l s0 D cI cF cJ) {s : State} (hW : s0.WarmedH s.vm) : mx_Cd s y_F_merge (.code y_F_merge b_F_merge 7 (some .int)) 7 := cd_of hW (fun a U hW => G.1.at 617 rfl rfl _ hW) (fun a U hW => G.1.at 1 rfl rfl _ hW)
set_option maxRecDepth 20000 in
theorem cd_F_grow {l : Launch} {s0 : State} {D : va_G} {cI cF cJ : ClassId} (G : Gx l s0 D cI cF cJ) {s : State} (hW : s0.WarmedH s.vm) : mx_Cd s y_F_grow (.code y_F_grow b_F_grow 3 none) 3 := cd_of hW (fun a U hW => G.1.at 634 rfl rfl _ hW) (fun a U hW => G.1.at 1 rfl rfl _ hW)
set_option maxRecDepth 20000 in
theorem cd_F_clear {l : Launch} {s0 : State} {D : va_G} {cI cF cJ : ClassId} (G : Gx l s0 D cI cF cJ) {s : State} (hW : s0.WarmedH s.vm) : mx_Cd s y_F_clear (.code y_F_clear b_F_clear 4 (some .int)) 4 := cd_of hW (fun a U hW => G.1.at 646 rfl rfl _ hW) (fun a U hW => G.1.at 1 rfl rfl _ hW)
set_option maxRecDepth 20000 in
theorem cd_F_mixed {l : Launch} {s0 : State} {D : va_G} {cI cF cJ : ClassId} (G : Gx l s0 D cI cF cJ) {s : State} (hW : s0.WarmedH s.vm) : mx_Cd s y_F_mixed (.code y_F_mixed b_F_mixed 5 (some .long)) 5 := cd_of hW (fun a U hW => G.1.at 41 rfl rfl _ hW) (fun a U hW => G.1.at 1 rfl rfl _ hW)
set_option maxRecDepth 20000 in
theorem cd_F_isNumber {l : Launch} {s0 : State} {D : va_G} {cI cF cJ : ClassId} (G : Gx l s0 D cI cF cJ) {s : State} (hW : s0.WarmedH s.vm) : mx_Cd s y_F_isNumber (.code y_F_isNumber b_F_isNumber 1 (some .boolean)) 1 := cd_of hW (fun a U hW => G.1.at 59 rfl rfl _ hW) (fun a U hW => G.1.at 1 rfl rfl _ hW)
set_option maxRecDepth 20000 in
theorem cd_F_isWithin {l : Launch} {s0 : State} {D : va_G} {cI cF cJ : ClassId} (G : Gx l s0 D cI cF cJ) {s : State} (hW : s0.WarmedH s.vm) : mx_Cd s y_F_isWithin (.code y_F_isWithin b_F_isWithin 3 (some .boolean)) 3 := cd_of hW (fun a U hW => G.1.at 62 rfl rfl _ hW) (fun a U hW => G.1.at 1 rfl rfl _ hW)
set_option maxRecDepth 20000 in
theorem cd_F_mayBe {l : Launch} {s0 : State} {D : va_G} {cI cF cJ : ClassId} (G : Gx l s0 D cI cF cJ) {s : State} (hW : s0.WarmedH s.vm) : mx_Cd s y_F_mayBe (.code y_F_mayBe b_F_mayBe 3 (some .boolean)) 3 := cd_of hW (fun a U hW => G.1.at 135 rfl rfl _ hW) (fun a U hW => G.1.at 1 rfl rfl _ hW)
set_option maxRecDepth 20000 in
theorem cd_F_requireNumber {l : Launch} {s0 : State} {D : va_G} {cI cF cJ : ClassId} (G : Gx l s0 D cI cF cJ) {s : State} (hW : s0.WarmedH s.vm) : mx_Cd s y_F_requireNumber (.code y_F_requireNumber b_F_requireNumber 1 none) 1 := cd_of hW (fun a U hW => G.1.at 56 rfl rfl _ hW) (fun a U hW => G.1.at 1 rfl rfl _ hW)
set_option maxRecDepth 20000 in
theorem cd_F_requireItems {l : Launch} {s0 : State} {D : va_G} {cI cF cJ : ClassId} (G : Gx l s0 D cI cF cJ) {s : State} (hW : s0.WarmedH s.vm) : mx_Cd s y_F_requireItems (.code y_F_requireItems b_F_requireItems 1 none) 1 := cd_of hW (fun a U hW => G.1.at 413 rfl rfl _ hW) (fun a U hW => G.1.at 1 rfl rfl _ hW)
set_option maxRecDepth 20000 in
theorem cd_F_filterAt {l : Launch} {s0 : State} {D : va_G} {cI cF cJ : ClassId} (G : Gx l s0 D cI cF cJ) {s : State} (hW : s0.WarmedH s.vm) : mx_Cd s y_F_filterAt (.code y_F_filterAt b_F_filterAt 3 (some (.object "FewBits$Filter"))) 3 := cd_of hW (fun a U hW => G.1.at 274 rfl rfl _ hW) (fun a U hW => G.1.at 1 rfl rfl _ hW)
set_option maxRecDepth 20000 in
theorem cd_F_filterFor {l : Launch} {s0 : State} {D : va_G} {cI cF cJ : ClassId} (G : Gx l s0 D cI cF cJ) {s : State} (hW : s0.WarmedH s.vm) : mx_Cd s y_F_filterFor (.code y_F_filterFor b_F_filterFor 4 (some (.object "FewBits$Filter"))) 4 := cd_of hW (fun a U hW => G.1.at 155 rfl rfl _ hW) (fun a U hW => G.1.at 1 rfl rfl _ hW)
set_option maxRecDepth 20000 in
theorem cd_F_newFilter {l : Launch} {s0 : State} {D : va_G} {cI cF cJ : ClassId} (G : Gx l s0 D cI cF cJ) {s : State} (hW : s0.WarmedH s.vm) : mx_Cd s y_F_newFilter (.code y_F_newFilter b_F_newFilter 1 (some (.object "FewBits$Filter"))) 1 := cd_of hW (fun a U hW => G.1.at 158 rfl rfl _ hW) (fun a U hW => G.1.at 1 rfl rfl _ hW)
set_option maxRecDepth 20000 in
theorem cd_F_asRuns {l : Launch} {s0 : State} {D : va_G} {cI cF cJ : ClassId} (G : Gx l s0 D cI cF cJ) {s : State} (hW : s0.WarmedH s.vm) : mx_Cd s y_F_asRuns (.code y_F_asRuns b_F_asRuns 2 (some (.object "FewBits$Runs"))) 2 := cd_of hW (fun a U hW => G.1.at 620 rfl rfl _ hW) (fun a U hW => G.1.at 1 rfl rfl _ hW)
set_option maxRecDepth 20000 in
theorem cd_M_init {l : Launch} {s0 : State} {D : va_G} {cI cF cJ : ClassId} (G : Gx l s0 D cI cF cJ) {s : State} (hW : s0.WarmedH s.vm) : mx_Cd s y_M_init (.code y_M_init b_M_init 1 none) 1 := cd_of hW (fun a U hW => G.1.at 651 rfl rfl _ hW) (fun a U hW => G.1.at 2 rfl rfl _ hW)
set_option maxRecDepth 20000 in
theorem cd_M_thrown {l : Launch} {s0 : State} {D : va_G} {cI cF cJ : ClassId} (G : Gx l s0 D cI cF cJ) {s : State} (hW : s0.WarmedH s.vm) : mx_Cd s y_M_thrown (.code y_M_thrown b_M_thrown 1 (some .int)) 1 := cd_of hW (fun a U hW => G.1.at 693 rfl rfl _ hW) (fun a U hW => G.1.at 2 rfl rfl _ hW)
set_option maxRecDepth 20000 in
theorem cd_M_mixed {l : Launch} {s0 : State} {D : va_G} {cI cF cJ : ClassId} (G : Gx l s0 D cI cF cJ) {s : State} (hW : s0.WarmedH s.vm) : mx_Cd s y_M_mixed (.code y_M_mixed b_M_mixed 6 (some .long)) 6 := cd_of hW (fun a U hW => G.1.at 700 rfl rfl _ hW) (fun a U hW => G.1.at 2 rfl rfl _ hW)
set_option maxRecDepth 20000 in
theorem cd_M_mix {l : Launch} {s0 : State} {D : va_G} {cI cF cJ : ClassId} (G : Gx l s0 D cI cF cJ) {s : State} (hW : s0.WarmedH s.vm) : mx_Cd s y_M_mix (.code y_M_mix b_M_mix 4 (some .long)) 4 := cd_of hW (fun a U hW => G.1.at 697 rfl rfl _ hW) (fun a U hW => G.1.at 2 rfl rfl _ hW)
set_option maxRecDepth 20000 in
theorem cd_M_lowest {l : Launch} {s0 : State} {D : va_G} {cI cF cJ : ClassId} (G : Gx l s0 D cI cF cJ) {s : State} (hW : s0.WarmedH s.vm) : mx_Cd s y_M_lowest (.code y_M_lowest b_M_lowest 3 (some .int)) 3 := cd_of hW (fun a U hW => G.1.at 737 rfl rfl _ hW) (fun a U hW => G.1.at 2 rfl rfl _ hW)
set_option maxRecDepth 20000 in
theorem cd_M_isNumber {l : Launch} {s0 : State} {D : va_G} {cI cF cJ : ClassId} (G : Gx l s0 D cI cF cJ) {s : State} (hW : s0.WarmedH s.vm) : mx_Cd s y_M_isNumber (.code y_M_isNumber b_M_isNumber 1 (some .boolean)) 1 := cd_of hW (fun a U hW => G.1.at 710 rfl rfl _ hW) (fun a U hW => G.1.at 2 rfl rfl _ hW)
set_option maxRecDepth 20000 in
theorem cd_M_wrong {l : Launch} {s0 : State} {D : va_G} {cI cF cJ : ClassId} (G : Gx l s0 D cI cF cJ) {s : State} (hW : s0.WarmedH s.vm) : mx_Cd s y_M_wrong (.code y_M_wrong b_M_wrong 2 (some .int)) 2 := cd_of hW (fun a U hW => G.1.at 722 rfl rfl _ hW) (fun a U hW => G.1.at 2 rfl rfl _ hW)
set_option maxRecDepth 20000 in
theorem cd_M_fingerprint {l : Launch} {s0 : State} {D : va_G} {cI cF cJ : ClassId} (G : Gx l s0 D cI cF cJ) {s : State} (hW : s0.WarmedH s.vm) : mx_Cd s y_M_fingerprint (.code y_M_fingerprint b_M_fingerprint 5 (some .int)) 5 := cd_of hW (fun a U hW => G.1.at 748 rfl rfl _ hW) (fun a U hW => G.1.at 2 rfl rfl _ hW)
set_option maxRecDepth 20000 in
theorem cd_M_firstBucket {l : Launch} {s0 : State} {D : va_G} {cI cF cJ : ClassId} (G : Gx l s0 D cI cF cJ) {s : State} (hW : s0.WarmedH s.vm) : mx_Cd s y_M_firstBucket (.code y_M_firstBucket b_M_firstBucket 4 (some .int)) 4 := cd_of hW (fun a U hW => G.1.at 752 rfl rfl _ hW) (fun a U hW => G.1.at 2 rfl rfl _ hW)
set_option maxRecDepth 20000 in
theorem cd_M_otherBucket {l : Launch} {s0 : State} {D : va_G} {cI cF cJ : ClassId} (G : Gx l s0 D cI cF cJ) {s : State} (hW : s0.WarmedH s.vm) : mx_Cd s y_M_otherBucket (.code y_M_otherBucket b_M_otherBucket 4 (some .int)) 4 := cd_of hW (fun a U hW => G.1.at 760 rfl rfl _ hW) (fun a U hW => G.1.at 2 rfl rfl _ hW)
set_option maxRecDepth 20000 in
theorem cd_M_pair {l : Launch} {s0 : State} {D : va_G} {cI cF cJ : ClassId} (G : Gx l s0 D cI cF cJ) {s : State} (hW : s0.WarmedH s.vm) : mx_Cd s y_M_pair (.code y_M_pair b_M_pair 8 (some .int)) 8 := cd_of hW (fun a U hW => G.1.at 769 rfl rfl _ hW) (fun a U hW => G.1.at 2 rfl rfl _ hW)
set_option maxRecDepth 20000 in
theorem cd_M_findPlaces {l : Launch} {s0 : State} {D : va_G} {cI cF cJ : ClassId} (G : Gx l s0 D cI cF cJ) {s : State} (hW : s0.WarmedH s.vm) : mx_Cd s y_M_findPlaces (.code y_M_findPlaces b_M_findPlaces 6 none) 6 := cd_of hW (fun a U hW => G.1.at 734 rfl rfl _ hW) (fun a U hW => G.1.at 2 rfl rfl _ hW)
set_option maxRecDepth 20000 in
theorem cd_M_howOften {l : Launch} {s0 : State} {D : va_G} {cI cF cJ : ClassId} (G : Gx l s0 D cI cF cJ) {s : State} (hW : s0.WarmedH s.vm) : mx_Cd s y_M_howOften (.code y_M_howOften b_M_howOften 5 (some .int)) 5 := cd_of hW (fun a U hW => G.1.at 740 rfl rfl _ hW) (fun a U hW => G.1.at 2 rfl rfl _ hW)
set_option maxRecDepth 20000 in
theorem cd_M_slotWith {l : Launch} {s0 : State} {D : va_G} {cI cF cJ : ClassId} (G : Gx l s0 D cI cF cJ) {s : State} (hW : s0.WarmedH s.vm) : mx_Cd s y_M_slotWith (.code y_M_slotWith b_M_slotWith 6 (some .int)) 6 := cd_of hW (fun a U hW => G.1.at 756 rfl rfl _ hW) (fun a U hW => G.1.at 2 rfl rfl _ hW)
set_option maxRecDepth 20000 in
theorem cd_M_isThere {l : Launch} {s0 : State} {D : va_G} {cI cF cJ : ClassId} (G : Gx l s0 D cI cF cJ) {s : State} (hW : s0.WarmedH s.vm) : mx_Cd s y_M_isThere (.code y_M_isThere b_M_isThere 7 (some .boolean)) 7 := cd_of hW (fun a U hW => G.1.at 793 rfl rfl _ hW) (fun a U hW => G.1.at 2 rfl rfl _ hW)
set_option maxRecDepth 20000 in
theorem cd_M_findPair {l : Launch} {s0 : State} {D : va_G} {cI cF cJ : ClassId} (G : Gx l s0 D cI cF cJ) {s : State} (hW : s0.WarmedH s.vm) : mx_Cd s y_M_findPair (.code y_M_findPair b_M_findPair 4 (some .int)) 4 := cd_of hW (fun a U hW => G.1.at 785 rfl rfl _ hW) (fun a U hW => G.1.at 2 rfl rfl _ hW)
set_option maxRecDepth 20000 in
theorem cd_M_addCounted {l : Launch} {s0 : State} {D : va_G} {cI cF cJ : ClassId} (G : Gx l s0 D cI cF cJ) {s : State} (hW : s0.WarmedH s.vm) : mx_Cd s y_M_addCounted (.code y_M_addCounted b_M_addCounted 8 (some .boolean)) 8 := cd_of hW (fun a U hW => G.1.at 730 rfl rfl _ hW) (fun a U hW => G.1.at 2 rfl rfl _ hW)
set_option maxRecDepth 20000 in
theorem cd_M_addPrint {l : Launch} {s0 : State} {D : va_G} {cI cF cJ : ClassId} (G : Gx l s0 D cI cF cJ) {s : State} (hW : s0.WarmedH s.vm) : mx_Cd s y_M_addPrint (.code y_M_addPrint b_M_addPrint 14 (some .boolean)) 14 := cd_of hW (fun a U hW => G.1.at 744 rfl rfl _ hW) (fun a U hW => G.1.at 2 rfl rfl _ hW)
set_option maxRecDepth 20000 in
theorem cd_M_insertPair {l : Launch} {s0 : State} {D : va_G} {cI cF cJ : ClassId} (G : Gx l s0 D cI cF cJ) {s : State} (hW : s0.WarmedH s.vm) : mx_Cd s y_M_insertPair (.code y_M_insertPair b_M_insertPair 6 none) 6 := cd_of hW (fun a U hW => G.1.at 773 rfl rfl _ hW) (fun a U hW => G.1.at 2 rfl rfl _ hW)
set_option maxRecDepth 20000 in
theorem cd_M_addPair {l : Launch} {s0 : State} {D : va_G} {cI cF cJ : ClassId} (G : Gx l s0 D cI cF cJ) {s : State} (hW : s0.WarmedH s.vm) : mx_Cd s y_M_addPair (.code y_M_addPair b_M_addPair 4 (some .boolean)) 4 := cd_of hW (fun a U hW => G.1.at 765 rfl rfl _ hW) (fun a U hW => G.1.at 2 rfl rfl _ hW)
set_option maxRecDepth 20000 in
theorem cd_M_addOne {l : Launch} {s0 : State} {D : va_G} {cI cF cJ : ClassId} (G : Gx l s0 D cI cF cJ) {s : State} (hW : s0.WarmedH s.vm) : mx_Cd s y_M_addOne (.code y_M_addOne b_M_addOne 5 (some .boolean)) 5 := cd_of hW (fun a U hW => G.1.at 726 rfl rfl _ hW) (fun a U hW => G.1.at 2 rfl rfl _ hW)
set_option maxRecDepth 20000 in
theorem cd_M_make {l : Launch} {s0 : State} {D : va_G} {cI cF cJ : ClassId} (G : Gx l s0 D cI cF cJ) {s : State} (hW : s0.WarmedH s.vm) : mx_Cd s y_M_make (.code y_M_make b_M_make 6 none) 6 := cd_of hW (fun a U hW => G.1.at 707 rfl rfl _ hW) (fun a U hW => G.1.at 2 rfl rfl _ hW)
set_option maxRecDepth 20000 in
theorem cd_M_empty {l : Launch} {s0 : State} {D : va_G} {cI cF cJ : ClassId} (G : Gx l s0 D cI cF cJ) {s : State} (hW : s0.WarmedH s.vm) : mx_Cd s y_M_empty (.code y_M_empty b_M_empty 3 none) 3 := cd_of hW (fun a U hW => G.1.at 714 rfl rfl _ hW) (fun a U hW => G.1.at 2 rfl rfl _ hW)
set_option maxRecDepth 20000 in
theorem cd_M_add {l : Launch} {s0 : State} {D : va_G} {cI cF cJ : ClassId} (G : Gx l s0 D cI cF cJ) {s : State} (hW : s0.WarmedH s.vm) : mx_Cd s y_M_add (.code y_M_add b_M_add 4 (some .int)) 4 := cd_of hW (fun a U hW => G.1.at 718 rfl rfl _ hW) (fun a U hW => G.1.at 2 rfl rfl _ hW)
set_option maxRecDepth 20000 in
theorem cd_M_addAll {l : Launch} {s0 : State} {D : va_G} {cI cF cJ : ClassId} (G : Gx l s0 D cI cF cJ) {s : State} (hW : s0.WarmedH s.vm) : mx_Cd s y_M_addAll (.code y_M_addAll b_M_addAll 8 (some .int)) 8 := cd_of hW (fun a U hW => G.1.at 777 rfl rfl _ hW) (fun a U hW => G.1.at 2 rfl rfl _ hW)
set_option maxRecDepth 20000 in
theorem cd_M_remove {l : Launch} {s0 : State} {D : va_G} {cI cF cJ : ClassId} (G : Gx l s0 D cI cF cJ) {s : State} (hW : s0.WarmedH s.vm) : mx_Cd s y_M_remove (.code y_M_remove b_M_remove 8 (some .int)) 8 := cd_of hW (fun a U hW => G.1.at 781 rfl rfl _ hW) (fun a U hW => G.1.at 2 rfl rfl _ hW)
set_option maxRecDepth 20000 in
theorem cd_M_has {l : Launch} {s0 : State} {D : va_G} {cI cF cJ : ClassId} (G : Gx l s0 D cI cF cJ) {s : State} (hW : s0.WarmedH s.vm) : mx_Cd s y_M_has (.code y_M_has b_M_has 4 (some .boolean)) 4 := cd_of hW (fun a U hW => G.1.at 789 rfl rfl _ hW) (fun a U hW => G.1.at 2 rfl rfl _ hW)
set_option maxRecDepth 20000 in
theorem cd_M_hasAll {l : Launch} {s0 : State} {D : va_G} {cI cF cJ : ClassId} (G : Gx l s0 D cI cF cJ) {s : State} (hW : s0.WarmedH s.vm) : mx_Cd s y_M_hasAll (.code y_M_hasAll b_M_hasAll 9 (some .int)) 9 := cd_of hW (fun a U hW => G.1.at 797 rfl rfl _ hW) (fun a U hW => G.1.at 2 rfl rfl _ hW)
set_option maxRecDepth 20000 in
theorem cd_M_same {l : Launch} {s0 : State} {D : va_G} {cI cF cJ : ClassId} (G : Gx l s0 D cI cF cJ) {s : State} (hW : s0.WarmedH s.vm) : mx_Cd s y_M_same (.code y_M_same b_M_same 9 (some .boolean)) 9 := cd_of hW (fun a U hW => G.1.at 801 rfl rfl _ hW) (fun a U hW => G.1.at 2 rfl rfl _ hW)
set_option maxRecDepth 20000 in
theorem cd_M_layOut {l : Launch} {s0 : State} {D : va_G} {cI cF cJ : ClassId} (G : Gx l s0 D cI cF cJ) {s : State} (hW : s0.WarmedH s.vm) : mx_Cd s y_M_layOut (.code y_M_layOut b_M_layOut 8 none) 8 := cd_of hW (fun a U hW => G.1.at 813 rfl rfl _ hW) (fun a U hW => G.1.at 2 rfl rfl _ hW)
set_option maxRecDepth 20000 in
theorem cd_M_runCell {l : Launch} {s0 : State} {D : va_G} {cI cF cJ : ClassId} (G : Gx l s0 D cI cF cJ) {s : State} (hW : s0.WarmedH s.vm) : mx_Cd s y_M_runCell (.code y_M_runCell b_M_runCell 8 (some .int)) 8 := cd_of hW (fun a U hW => G.1.at 821 rfl rfl _ hW) (fun a U hW => G.1.at 2 rfl rfl _ hW)
set_option maxRecDepth 20000 in
theorem cd_M_longestRow {l : Launch} {s0 : State} {D : va_G} {cI cF cJ : ClassId} (G : Gx l s0 D cI cF cJ) {s : State} (hW : s0.WarmedH s.vm) : mx_Cd s y_M_longestRow (.code y_M_longestRow b_M_longestRow 6 (some .int)) 6 := cd_of hW (fun a U hW => G.1.at 809 rfl rfl _ hW) (fun a U hW => G.1.at 2 rfl rfl _ hW)
set_option maxRecDepth 20000 in
theorem cd_M_count {l : Launch} {s0 : State} {D : va_G} {cI cF cJ : ClassId} (G : Gx l s0 D cI cF cJ) {s : State} (hW : s0.WarmedH s.vm) : mx_Cd s y_M_count (.code y_M_count b_M_count 7 (some .int)) 7 := cd_of hW (fun a U hW => G.1.at 805 rfl rfl _ hW) (fun a U hW => G.1.at 2 rfl rfl _ hW)
set_option maxRecDepth 20000 in
theorem cd_M_cell {l : Launch} {s0 : State} {D : va_G} {cI cF cJ : ClassId} (G : Gx l s0 D cI cF cJ) {s : State} (hW : s0.WarmedH s.vm) : mx_Cd s y_M_cell (.code y_M_cell b_M_cell 4 (some .int)) 4 := cd_of hW (fun a U hW => G.1.at 817 rfl rfl _ hW) (fun a U hW => G.1.at 2 rfl rfl _ hW)
set_option maxRecDepth 20000 in
theorem cd_M_merge {l : Launch} {s0 : State} {D : va_G} {cI cF cJ : ClassId} (G : Gx l s0 D cI cF cJ) {s : State} (hW : s0.WarmedH s.vm) : mx_Cd s y_M_merge (.code y_M_merge b_M_merge 9 (some .int)) 9 := cd_of hW (fun a U hW => G.1.at 826 rfl rfl _ hW) (fun a U hW => G.1.at 2 rfl rfl _ hW)
set_option maxRecDepth 20000 in
theorem cd_M_grow {l : Launch} {s0 : State} {D : va_G} {cI cF cJ : ClassId} (G : Gx l s0 D cI cF cJ) {s : State} (hW : s0.WarmedH s.vm) : mx_Cd s y_M_grow (.code y_M_grow b_M_grow 6 none) 6 := cd_of hW (fun a U hW => G.1.at 830 rfl rfl _ hW) (fun a U hW => G.1.at 2 rfl rfl _ hW)
set_option maxRecDepth 20000 in
theorem cd_M_clear {l : Launch} {s0 : State} {D : va_G} {cI cF cJ : ClassId} (G : Gx l s0 D cI cF cJ) {s : State} (hW : s0.WarmedH s.vm) : mx_Cd s y_M_clear (.code y_M_clear b_M_clear 3 (some .int)) 3 := cd_of hW (fun a U hW => G.1.at 834 rfl rfl _ hW) (fun a U hW => G.1.at 2 rfl rfl _ hW)
set_option maxRecDepth 20000 in
theorem cd_B_init {l : Launch} {s0 : State} {D : va_G} {cI cF cJ : ClassId} (G : Gx l s0 D cI cF cJ) {s : State} (hW : s0.WarmedH s.vm) : mx_Cd s y_B_init (.code y_B_init b_B_init 1 none) 1 := cd_of hW (fun a U hW => G.1.at 208 rfl rfl _ hW) (fun a U hW => G.1.at 10 rfl rfl _ hW)
set_option maxRecDepth 20000 in
theorem cd_B_kind {l : Launch} {s0 : State} {D : va_G} {cI cF cJ : ClassId} (G : Gx l s0 D cI cF cJ) {s : State} (hW : s0.WarmedH s.vm) : mx_Cd s y_B_kind (.code y_B_kind b_B_kind 1 (some .int)) 1 := cd_of hW (fun a U hW => G.1.at 519 rfl rfl _ hW) (fun a U hW => G.1.at 10 rfl rfl _ hW)
set_option maxRecDepth 20000 in
theorem cd_B_cells {l : Launch} {s0 : State} {D : va_G} {cI cF cJ : ClassId} (G : Gx l s0 D cI cF cJ) {s : State} (hW : s0.WarmedH s.vm) : mx_Cd s y_B_cells (.code y_B_cells b_B_cells 1 (some .int)) 1 := cd_of hW (fun a U hW => G.1.at 583 rfl rfl _ hW) (fun a U hW => G.1.at 10 rfl rfl _ hW)
set_option maxRecDepth 20000 in
theorem cd_B_wipe {l : Launch} {s0 : State} {D : va_G} {cI cF cJ : ClassId} (G : Gx l s0 D cI cF cJ) {s : State} (hW : s0.WarmedH s.vm) : mx_Cd s y_B_wipe (.code y_B_wipe b_B_wipe 1 none) 1 := cd_of hW (fun a U hW => G.1.at 251 rfl rfl _ hW) (fun a U hW => G.1.at 10 rfl rfl _ hW)
set_option maxRecDepth 20000 in
theorem cd_B_put {l : Launch} {s0 : State} {D : va_G} {cI cF cJ : ClassId} (G : Gx l s0 D cI cF cJ) {s : State} (hW : s0.WarmedH s.vm) : mx_Cd s y_B_put (.code y_B_put b_B_put 6 (some .boolean)) 6 := cd_of hW (fun a U hW => G.1.at 303 rfl rfl _ hW) (fun a U hW => G.1.at 10 rfl rfl _ hW)
set_option maxRecDepth 20000 in
theorem cd_B_take {l : Launch} {s0 : State} {D : va_G} {cI cF cJ : ClassId} (G : Gx l s0 D cI cF cJ) {s : State} (hW : s0.WarmedH s.vm) : mx_Cd s y_B_take (.code y_B_take b_B_take 4 (some .boolean)) 4 := cd_of hW (fun a U hW => G.1.at 435 rfl rfl _ hW) (fun a U hW => G.1.at 10 rfl rfl _ hW)
set_option maxRecDepth 20000 in
theorem cd_B_holds {l : Launch} {s0 : State} {D : va_G} {cI cF cJ : ClassId} (G : Gx l s0 D cI cF cJ) {s : State} (hW : s0.WarmedH s.vm) : mx_Cd s y_B_holds (.code y_B_holds b_B_holds 3 (some .boolean)) 3 := cd_of hW (fun a U hW => G.1.at 474 rfl rfl _ hW) (fun a U hW => G.1.at 10 rfl rfl _ hW)
set_option maxRecDepth 20000 in
theorem cd_B_looksAlike {l : Launch} {s0 : State} {D : va_G} {cI cF cJ : ClassId} (G : Gx l s0 D cI cF cJ) {s : State} (hW : s0.WarmedH s.vm) : mx_Cd s y_B_looksAlike (.code y_B_looksAlike b_B_looksAlike 8 (some .boolean)) 8 := cd_of hW (fun a U hW => G.1.at 500 rfl rfl _ hW) (fun a U hW => G.1.at 10 rfl rfl _ hW)
set_option maxRecDepth 20000 in
theorem cd_B_strain {l : Launch} {s0 : State} {D : va_G} {cI cF cJ : ClassId} (G : Gx l s0 D cI cF cJ) {s : State} (hW : s0.WarmedH s.vm) : mx_Cd s y_B_strain (.code y_B_strain b_B_strain 1 (some .int)) 1 := cd_of hW (fun a U hW => G.1.at 543 rfl rfl _ hW) (fun a U hW => G.1.at 10 rfl rfl _ hW)
set_option maxRecDepth 20000 in
theorem cd_B_look {l : Launch} {s0 : State} {D : va_G} {cI cF cJ : ClassId} (G : Gx l s0 D cI cF cJ) {s : State} (hW : s0.WarmedH s.vm) : mx_Cd s y_B_look (.code y_B_look b_B_look 2 (some .int)) 2 := cd_of hW (fun a U hW => G.1.at 596 rfl rfl _ hW) (fun a U hW => G.1.at 10 rfl rfl _ hW)
set_option maxRecDepth 20000 in
theorem cd_B_fingerprint {l : Launch} {s0 : State} {D : va_G} {cI cF cJ : ClassId} (G : Gx l s0 D cI cF cJ) {s : State} (hW : s0.WarmedH s.vm) : mx_Cd s y_B_fingerprint (.code y_B_fingerprint b_B_fingerprint 4 (some .int)) 4 := cd_of hW (fun a U hW => G.1.at 307 rfl rfl _ hW) (fun a U hW => G.1.at 10 rfl rfl _ hW)
set_option maxRecDepth 20000 in
theorem cd_B_firstBucket {l : Launch} {s0 : State} {D : va_G} {cI cF cJ : ClassId} (G : Gx l s0 D cI cF cJ) {s : State} (hW : s0.WarmedH s.vm) : mx_Cd s y_B_firstBucket (.code y_B_firstBucket b_B_firstBucket 3 (some .int)) 3 := cd_of hW (fun a U hW => G.1.at 312 rfl rfl _ hW) (fun a U hW => G.1.at 10 rfl rfl _ hW)
set_option maxRecDepth 20000 in
theorem cd_B_otherBucket {l : Launch} {s0 : State} {D : va_G} {cI cF cJ : ClassId} (G : Gx l s0 D cI cF cJ) {s : State} (hW : s0.WarmedH s.vm) : mx_Cd s y_B_otherBucket (.code y_B_otherBucket b_B_otherBucket 3 (some .int)) 3 := cd_of hW (fun a U hW => G.1.at 329 rfl rfl _ hW) (fun a U hW => G.1.at 10 rfl rfl _ hW)
set_option maxRecDepth 20000 in
theorem cd_B_slotOf {l : Launch} {s0 : State} {D : va_G} {cI cF cJ : ClassId} (G : Gx l s0 D cI cF cJ) {s : State} (hW : s0.WarmedH s.vm) : mx_Cd s y_B_slotOf (.code y_B_slotOf b_B_slotOf 6 (some .int)) 6 := cd_of hW (fun a U hW => G.1.at 439 rfl rfl _ hW) (fun a U hW => G.1.at 10 rfl rfl _ hW)
set_option maxRecDepth 20000 in
theorem cd_B_slotWith {l : Launch} {s0 : State} {D : va_G} {cI cF cJ : ClassId} (G : Gx l s0 D cI cF cJ) {s : State} (hW : s0.WarmedH s.vm) : mx_Cd s y_B_slotWith (.code y_B_slotWith b_B_slotWith 5 (some .int)) 5 := cd_of hW (fun a U hW => G.1.at 337 rfl rfl _ hW) (fun a U hW => G.1.at 10 rfl rfl _ hW)
set_option maxRecDepth 20000 in
theorem cd_B_putFree {l : Launch} {s0 : State} {D : va_G} {cI cF cJ : ClassId} (G : Gx l s0 D cI cF cJ) {s : State} (hW : s0.WarmedH s.vm) : mx_Cd s y_B_putFree (.code y_B_putFree b_B_putFree 4 (some .boolean)) 4 := cd_of hW (fun a U hW => G.1.at 333 rfl rfl _ hW) (fun a U hW => G.1.at 10 rfl rfl _ hW)
set_option maxRecDepth 20000 in
theorem cd_B_pushInto {l : Launch} {s0 : State} {D : va_G} {cI cF cJ : ClassId} (G : Gx l s0 D cI cF cJ) {s : State} (hW : s0.WarmedH s.vm) : mx_Cd s y_B_pushInto (.code y_B_pushInto b_B_pushInto 6 (some .boolean)) 6 := cd_of hW (fun a U hW => G.1.at 341 rfl rfl _ hW) (fun a U hW => G.1.at 10 rfl rfl _ hW)
set_option maxRecDepth 20000 in
theorem cd_B_pushBack {l : Launch} {s0 : State} {D : va_G} {cI cF cJ : ClassId} (G : Gx l s0 D cI cF cJ) {s : State} (hW : s0.WarmedH s.vm) : mx_Cd s y_B_pushBack (.code y_B_pushBack b_B_pushBack 4 none) 4 := cd_of hW (fun a U hW => G.1.at 349 rfl rfl _ hW) (fun a U hW => G.1.at 10 rfl rfl _ hW)
set_option maxRecDepth 20000 in
theorem cd_B_exchange {l : Launch} {s0 : State} {D : va_G} {cI cF cJ : ClassId} (G : Gx l s0 D cI cF cJ) {s : State} (hW : s0.WarmedH s.vm) : mx_Cd s y_B_exchange (.code y_B_exchange b_B_exchange 4 (some .int)) 4 := cd_of hW (fun a U hW => G.1.at 345 rfl rfl _ hW) (fun a U hW => G.1.at 10 rfl rfl _ hW)
set_option maxRecDepth 20000 in
theorem cd_C_init {l : Launch} {s0 : State} {D : va_G} {cI cF cJ : ClassId} (G : Gx l s0 D cI cF cJ) {s : State} (hW : s0.WarmedH s.vm) : mx_Cd s y_C_init (.code y_C_init b_C_init 1 none) 1 := cd_of hW (fun a U hW => G.1.at 163 rfl rfl _ hW) (fun a U hW => G.1.at 9 rfl rfl _ hW)
set_option maxRecDepth 20000 in
theorem cd_C_kind {l : Launch} {s0 : State} {D : va_G} {cI cF cJ : ClassId} (G : Gx l s0 D cI cF cJ) {s : State} (hW : s0.WarmedH s.vm) : mx_Cd s y_C_kind (.code y_C_kind b_C_kind 1 (some .int)) 1 := cd_of hW (fun a U hW => G.1.at 522 rfl rfl _ hW) (fun a U hW => G.1.at 9 rfl rfl _ hW)
set_option maxRecDepth 20000 in
theorem cd_C_wipe {l : Launch} {s0 : State} {D : va_G} {cI cF cJ : ClassId} (G : Gx l s0 D cI cF cJ) {s : State} (hW : s0.WarmedH s.vm) : mx_Cd s y_C_wipe (.code y_C_wipe b_C_wipe 1 none) 1 := cd_of hW (fun a U hW => G.1.at 257 rfl rfl _ hW) (fun a U hW => G.1.at 9 rfl rfl _ hW)
set_option maxRecDepth 20000 in
theorem cd_C_put {l : Launch} {s0 : State} {D : va_G} {cI cF cJ : ClassId} (G : Gx l s0 D cI cF cJ) {s : State} (hW : s0.WarmedH s.vm) : mx_Cd s y_C_put (.code y_C_put b_C_put 4 (some .boolean)) 4 := cd_of hW (fun a U hW => G.1.at 352 rfl rfl _ hW) (fun a U hW => G.1.at 9 rfl rfl _ hW)
set_option maxRecDepth 20000 in
theorem cd_C_take {l : Launch} {s0 : State} {D : va_G} {cI cF cJ : ClassId} (G : Gx l s0 D cI cF cJ) {s : State} (hW : s0.WarmedH s.vm) : mx_Cd s y_C_take (.code y_C_take b_C_take 4 (some .boolean)) 4 := cd_of hW (fun a U hW => G.1.at 442 rfl rfl _ hW) (fun a U hW => G.1.at 9 rfl rfl _ hW)
set_option maxRecDepth 20000 in
theorem cd_C_holds {l : Launch} {s0 : State} {D : va_G} {cI cF cJ : ClassId} (G : Gx l s0 D cI cF cJ) {s : State} (hW : s0.WarmedH s.vm) : mx_Cd s y_C_holds (.code y_C_holds b_C_holds 4 (some .boolean)) 4 := cd_of hW (fun a U hW => G.1.at 477 rfl rfl _ hW) (fun a U hW => G.1.at 9 rfl rfl _ hW)
set_option maxRecDepth 20000 in
theorem cd_C_looksAlike {l : Launch} {s0 : State} {D : va_G} {cI cF cJ : ClassId} (G : Gx l s0 D cI cF cJ) {s : State} (hW : s0.WarmedH s.vm) : mx_Cd s y_C_looksAlike (.code y_C_looksAlike b_C_looksAlike 6 (some .boolean)) 6 := cd_of hW (fun a U hW => G.1.at 503 rfl rfl _ hW) (fun a U hW => G.1.at 9 rfl rfl _ hW)
set_option maxRecDepth 20000 in
theorem cd_C_filledCells {l : Launch} {s0 : State} {D : va_G} {cI cF cJ : ClassId} (G : Gx l s0 D cI cF cJ) {s : State} (hW : s0.WarmedH s.vm) : mx_Cd s y_C_filledCells (.code y_C_filledCells b_C_filledCells 3 (some .int)) 3 := cd_of hW (fun a U hW => G.1.at 532 rfl rfl _ hW) (fun a U hW => G.1.at 9 rfl rfl _ hW)
set_option maxRecDepth 20000 in
theorem cd_C_strain {l : Launch} {s0 : State} {D : va_G} {cI cF cJ : ClassId} (G : Gx l s0 D cI cF cJ) {s : State} (hW : s0.WarmedH s.vm) : mx_Cd s y_C_strain (.code y_C_strain b_C_strain 3 (some .int)) 3 := cd_of hW (fun a U hW => G.1.at 546 rfl rfl _ hW) (fun a U hW => G.1.at 9 rfl rfl _ hW)
set_option maxRecDepth 20000 in
theorem cd_C_look {l : Launch} {s0 : State} {D : va_G} {cI cF cJ : ClassId} (G : Gx l s0 D cI cF cJ) {s : State} (hW : s0.WarmedH s.vm) : mx_Cd s y_C_look (.code y_C_look b_C_look 2 (some .int)) 2 := cd_of hW (fun a U hW => G.1.at 599 rfl rfl _ hW) (fun a U hW => G.1.at 9 rfl rfl _ hW)
set_option maxRecDepth 20000 in
theorem cd_C_findPlaces {l : Launch} {s0 : State} {D : va_G} {cI cF cJ : ClassId} (G : Gx l s0 D cI cF cJ) {s : State} (hW : s0.WarmedH s.vm) : mx_Cd s y_C_findPlaces (.code y_C_findPlaces b_C_findPlaces 5 none) 5 := cd_of hW (fun a U hW => G.1.at 356 rfl rfl _ hW) (fun a U hW => G.1.at 9 rfl rfl _ hW)
set_option maxRecDepth 20000 in
theorem cd_C_timesIn {l : Launch} {s0 : State} {D : va_G} {cI cF cJ : ClassId} (G : Gx l s0 D cI cF cJ) {s : State} (hW : s0.WarmedH s.vm) : mx_Cd s y_C_timesIn (.code y_C_timesIn b_C_timesIn 5 (some .int)) 5 := cd_of hW (fun a U hW => G.1.at 364 rfl rfl _ hW) (fun a U hW => G.1.at 9 rfl rfl _ hW)
set_option maxRecDepth 20000 in
theorem cd_C_countBy {l : Launch} {s0 : State} {D : va_G} {cI cF cJ : ClassId} (G : Gx l s0 D cI cF cJ) {s : State} (hW : s0.WarmedH s.vm) : mx_Cd s y_C_countBy (.code y_C_countBy b_C_countBy 3 none) 3 := cd_of hW (fun a U hW => G.1.at 368 rfl rfl _ hW) (fun a U hW => G.1.at 9 rfl rfl _ hW)
set_option maxRecDepth 20000 in
theorem cd_P_init {l : Launch} {s0 : State} {D : va_G} {cI cF cJ : ClassId} (G : Gx l s0 D cI cF cJ) {s : State} (hW : s0.WarmedH s.vm) : mx_Cd s y_P_init (.code y_P_init b_P_init 1 none) 1 := cd_of hW (fun a U hW => G.1.at 166 rfl rfl _ hW) (fun a U hW => G.1.at 8 rfl rfl _ hW)
set_option maxRecDepth 20000 in
theorem cd_P_begin {l : Launch} {s0 : State} {D : va_G} {cI cF cJ : ClassId} (G : Gx l s0 D cI cF cJ) {s : State} (hW : s0.WarmedH s.vm) : mx_Cd s y_P_begin (.code y_P_begin b_P_begin 3 none) 3 := cd_of hW (fun a U hW => G.1.at 245 rfl rfl _ hW) (fun a U hW => G.1.at 8 rfl rfl _ hW)
set_option maxRecDepth 20000 in
theorem cd_P_accept {l : Launch} {s0 : State} {D : va_G} {cI cF cJ : ClassId} (G : Gx l s0 D cI cF cJ) {s : State} (hW : s0.WarmedH s.vm) : mx_Cd s y_P_accept (.code y_P_accept b_P_accept 3 (some .boolean)) 3 := cd_of hW (fun a U hW => G.1.at 297 rfl rfl _ hW) (fun a U hW => G.1.at 8 rfl rfl _ hW)
set_option maxRecDepth 20000 in
theorem cd_P_release {l : Launch} {s0 : State} {D : va_G} {cI cF cJ : ClassId} (G : Gx l s0 D cI cF cJ) {s : State} (hW : s0.WarmedH s.vm) : mx_Cd s y_P_release (.code y_P_release b_P_release 3 (some .boolean)) 3 := cd_of hW (fun a U hW => G.1.at 429 rfl rfl _ hW) (fun a U hW => G.1.at 8 rfl rfl _ hW)
set_option maxRecDepth 20000 in
theorem cd_P_power {l : Launch} {s0 : State} {D : va_G} {cI cF cJ : ClassId} (G : Gx l s0 D cI cF cJ) {s : State} (hW : s0.WarmedH s.vm) : mx_Cd s y_P_power (.code y_P_power b_P_power 1 (some .int)) 1 := cd_of hW (fun a U hW => G.1.at 325 rfl rfl _ hW) (fun a U hW => G.1.at 8 rfl rfl _ hW)
set_option maxRecDepth 20000 in
theorem cd_P_lowestBits {l : Launch} {s0 : State} {D : va_G} {cI cF cJ : ClassId} (G : Gx l s0 D cI cF cJ) {s : State} (hW : s0.WarmedH s.vm) : mx_Cd s y_P_lowestBits (.code y_P_lowestBits b_P_lowestBits 3 (some .int)) 3 := cd_of hW (fun a U hW => G.1.at 318 rfl rfl _ hW) (fun a U hW => G.1.at 8 rfl rfl _ hW)
set_option maxRecDepth 20000 in
theorem cd_P_cells {l : Launch} {s0 : State} {D : va_G} {cI cF cJ : ClassId} (G : Gx l s0 D cI cF cJ) {s : State} (hW : s0.WarmedH s.vm) : mx_Cd s y_P_cells (.code y_P_cells b_P_cells 1 (some .int)) 1 := cd_of hW (fun a U hW => G.1.at 589 rfl rfl _ hW) (fun a U hW => G.1.at 8 rfl rfl _ hW)
set_option maxRecDepth 20000 in
theorem cd_P_filledCells {l : Launch} {s0 : State} {D : va_G} {cI cF cJ : ClassId} (G : Gx l s0 D cI cF cJ) {s : State} (hW : s0.WarmedH s.vm) : mx_Cd s y_P_filledCells (.code y_P_filledCells b_P_filledCells 1 (some .int)) 1 := cd_of hW (fun a U hW => G.1.at 537 rfl rfl _ hW) (fun a U hW => G.1.at 8 rfl rfl _ hW)
set_option maxRecDepth 20000 in
theorem cd_R_init {l : Launch} {s0 : State} {D : va_G} {cI cF cJ : ClassId} (G : Gx l s0 D cI cF cJ) {s : State} (hW : s0.WarmedH s.vm) : mx_Cd s y_R_init (.code y_R_init b_R_init 1 none) 1 := cd_of hW (fun a U hW => G.1.at 227 rfl rfl _ hW) (fun a U hW => G.1.at 11 rfl rfl _ hW)
set_option maxRecDepth 20000 in
theorem cd_R_kind {l : Launch} {s0 : State} {D : va_G} {cI cF cJ : ClassId} (G : Gx l s0 D cI cF cJ) {s : State} (hW : s0.WarmedH s.vm) : mx_Cd s y_R_kind (.code y_R_kind b_R_kind 1 (some .int)) 1 := cd_of hW (fun a U hW => G.1.at 525 rfl rfl _ hW) (fun a U hW => G.1.at 11 rfl rfl _ hW)
set_option maxRecDepth 20000 in
theorem cd_R_wipe {l : Launch} {s0 : State} {D : va_G} {cI cF cJ : ClassId} (G : Gx l s0 D cI cF cJ) {s : State} (hW : s0.WarmedH s.vm) : mx_Cd s y_R_wipe (.code y_R_wipe b_R_wipe 1 none) 1 := cd_of hW (fun a U hW => G.1.at 261 rfl rfl _ hW) (fun a U hW => G.1.at 11 rfl rfl _ hW)
set_option maxRecDepth 20000 in
theorem cd_R_put {l : Launch} {s0 : State} {D : va_G} {cI cF cJ : ClassId} (G : Gx l s0 D cI cF cJ) {s : State} (hW : s0.WarmedH s.vm) : mx_Cd s y_R_put (.code y_R_put b_R_put 5 (some .boolean)) 5 := cd_of hW (fun a U hW => G.1.at 371 rfl rfl _ hW) (fun a U hW => G.1.at 11 rfl rfl _ hW)
set_option maxRecDepth 20000 in
theorem cd_R_take {l : Launch} {s0 : State} {D : va_G} {cI cF cJ : ClassId} (G : Gx l s0 D cI cF cJ) {s : State} (hW : s0.WarmedH s.vm) : mx_Cd s y_R_take (.code y_R_take b_R_take 5 (some .boolean)) 5 := cd_of hW (fun a U hW => G.1.at 445 rfl rfl _ hW) (fun a U hW => G.1.at 11 rfl rfl _ hW)
set_option maxRecDepth 20000 in
theorem cd_R_holds {l : Launch} {s0 : State} {D : va_G} {cI cF cJ : ClassId} (G : Gx l s0 D cI cF cJ) {s : State} (hW : s0.WarmedH s.vm) : mx_Cd s y_R_holds (.code y_R_holds b_R_holds 5 (some .boolean)) 5 := cd_of hW (fun a U hW => G.1.at 480 rfl rfl _ hW) (fun a U hW => G.1.at 11 rfl rfl _ hW)
set_option maxRecDepth 20000 in
theorem cd_R_looksAlike {l : Launch} {s0 : State} {D : va_G} {cI cF cJ : ClassId} (G : Gx l s0 D cI cF cJ) {s : State} (hW : s0.WarmedH s.vm) : mx_Cd s y_R_looksAlike (.code y_R_looksAlike b_R_looksAlike 5 (some .boolean)) 5 := cd_of hW (fun a U hW => G.1.at 506 rfl rfl _ hW) (fun a U hW => G.1.at 11 rfl rfl _ hW)
set_option maxRecDepth 20000 in
theorem cd_R_strain {l : Launch} {s0 : State} {D : va_G} {cI cF cJ : ClassId} (G : Gx l s0 D cI cF cJ) {s : State} (hW : s0.WarmedH s.vm) : mx_Cd s y_R_strain (.code y_R_strain b_R_strain 4 (some .int)) 4 := cd_of hW (fun a U hW => G.1.at 552 rfl rfl _ hW) (fun a U hW => G.1.at 11 rfl rfl _ hW)
set_option maxRecDepth 20000 in
theorem cd_R_look {l : Launch} {s0 : State} {D : va_G} {cI cF cJ : ClassId} (G : Gx l s0 D cI cF cJ) {s : State} (hW : s0.WarmedH s.vm) : mx_Cd s y_R_look (.code y_R_look b_R_look 5 (some .int)) 5 := cd_of hW (fun a U hW => G.1.at 602 rfl rfl _ hW) (fun a U hW => G.1.at 11 rfl rfl _ hW)
set_option maxRecDepth 20000 in
theorem cd_R_acceptPairs {l : Launch} {s0 : State} {D : va_G} {cI cF cJ : ClassId} (G : Gx l s0 D cI cF cJ) {s : State} (hW : s0.WarmedH s.vm) : mx_Cd s y_R_acceptPairs (.code y_R_acceptPairs b_R_acceptPairs 6 (some .boolean)) 6 := cd_of hW (fun a U hW => G.1.at 626 rfl rfl _ hW) (fun a U hW => G.1.at 11 rfl rfl _ hW)
set_option maxRecDepth 20000 in
theorem cd_R_moveOneBit {l : Launch} {s0 : State} {D : va_G} {cI cF cJ : ClassId} (G : Gx l s0 D cI cF cJ) {s : State} (hW : s0.WarmedH s.vm) : mx_Cd s y_R_moveOneBit (.code y_R_moveOneBit b_R_moveOneBit 1 none) 1 := cd_of hW (fun a U hW => G.1.at 639 rfl rfl _ hW) (fun a U hW => G.1.at 11 rfl rfl _ hW)
set_option maxRecDepth 20000 in
theorem cd_R_pairOf {l : Launch} {s0 : State} {D : va_G} {cI cF cJ : ClassId} (G : Gx l s0 D cI cF cJ) {s : State} (hW : s0.WarmedH s.vm) : mx_Cd s y_R_pairOf (.code y_R_pairOf b_R_pairOf 3 (some .int)) 3 := cd_of hW (fun a U hW => G.1.at 379 rfl rfl _ hW) (fun a U hW => G.1.at 11 rfl rfl _ hW)
set_option maxRecDepth 20000 in
theorem cd_R_quotient {l : Launch} {s0 : State} {D : va_G} {cI cF cJ : ClassId} (G : Gx l s0 D cI cF cJ) {s : State} (hW : s0.WarmedH s.vm) : mx_Cd s y_R_quotient (.code y_R_quotient b_R_quotient 2 (some .int)) 2 := cd_of hW (fun a U hW => G.1.at 565 rfl rfl _ hW) (fun a U hW => G.1.at 11 rfl rfl _ hW)
set_option maxRecDepth 20000 in
theorem cd_R_remainder {l : Launch} {s0 : State} {D : va_G} {cI cF cJ : ClassId} (G : Gx l s0 D cI cF cJ) {s : State} (hW : s0.WarmedH s.vm) : mx_Cd s y_R_remainder (.code y_R_remainder b_R_remainder 2 (some .int)) 2 := cd_of hW (fun a U hW => G.1.at 606 rfl rfl _ hW) (fun a U hW => G.1.at 11 rfl rfl _ hW)
set_option maxRecDepth 20000 in
theorem cd_R_isClaimed {l : Launch} {s0 : State} {D : va_G} {cI cF cJ : ClassId} (G : Gx l s0 D cI cF cJ) {s : State} (hW : s0.WarmedH s.vm) : mx_Cd s y_R_isClaimed (.code y_R_isClaimed b_R_isClaimed 3 (some .boolean)) 3 := cd_of hW (fun a U hW => G.1.at 610 rfl rfl _ hW) (fun a U hW => G.1.at 11 rfl rfl _ hW)
set_option maxRecDepth 20000 in
theorem cd_R_firstNotBelow {l : Launch} {s0 : State} {D : va_G} {cI cF cJ : ClassId} (G : Gx l s0 D cI cF cJ) {s : State} (hW : s0.WarmedH s.vm) : mx_Cd s y_R_firstNotBelow (.code y_R_firstNotBelow b_R_firstNotBelow 4 (some .int)) 4 := cd_of hW (fun a U hW => G.1.at 384 rfl rfl _ hW) (fun a U hW => G.1.at 11 rfl rfl _ hW)
set_option maxRecDepth 20000 in
theorem cd_R_layOut {l : Launch} {s0 : State} {D : va_G} {cI cF cJ : ClassId} (G : Gx l s0 D cI cF cJ) {s : State} (hW : s0.WarmedH s.vm) : mx_Cd s y_R_layOut (.code y_R_layOut b_R_layOut 4 none) 4 := cd_of hW (fun a U hW => G.1.at 556 rfl rfl _ hW) (fun a U hW => G.1.at 11 rfl rfl _ hW)
set_option maxRecDepth 20000 in
theorem cd_R_overEnd {l : Launch} {s0 : State} {D : va_G} {cI cF cJ : ClassId} (G : Gx l s0 D cI cF cJ) {s : State} (hW : s0.WarmedH s.vm) : mx_Cd s y_R_overEnd (.code y_R_overEnd b_R_overEnd 3 (some .int)) 3 := cd_of hW (fun a U hW => G.1.at 561 rfl rfl _ hW) (fun a U hW => G.1.at 11 rfl rfl _ hW)
set_option maxRecDepth 20000 in
theorem cd_L_make {l : Launch} {s0 : State} {D : va_G} {cI cF cJ : ClassId} (G : Gx l s0 D cI cF cJ) {s : State} (hW : s0.WarmedH s.vm) : mx_Cd s y_L_make (.codeWith y_L_make b_L_make 6 (some .int) [(0, 9, 12, 13), (0, 9, 16, 15)]) 6 := cd_ofW hW (fun a U hW => G.1.at 47 rfl rfl _ hW) (fun a U hW => G.1.at 0 rfl rfl _ hW)
set_option maxRecDepth 20000 in
theorem cd_L_add {l : Launch} {s0 : State} {D : va_G} {cI cF cJ : ClassId} (G : Gx l s0 D cI cF cJ) {s : State} (hW : s0.WarmedH s.vm) : mx_Cd s y_L_add (.codeWith y_L_add b_L_add 6 (some .int) [(0, 11, 14, 13), (0, 11, 18, 21), (0, 11, 22, 23)]) 6 := cd_ofW hW (fun a U hW => G.1.at 264 rfl rfl _ hW) (fun a U hW => G.1.at 0 rfl rfl _ hW)
set_option maxRecDepth 20000 in
theorem cd_L_addAll {l : Launch} {s0 : State} {D : va_G} {cI cF cJ : ClassId} (G : Gx l s0 D cI cF cJ) {s : State} (hW : s0.WarmedH s.vm) : mx_Cd s y_L_addAll (.codeWith y_L_addAll b_L_addAll 9 (some .int) [(0, 15, 18, 13), (0, 15, 22, 21), (0, 15, 26, 15)]) 9 := cd_ofW hW (fun a U hW => G.1.at 406 rfl rfl _ hW) (fun a U hW => G.1.at 0 rfl rfl _ hW)
set_option maxRecDepth 20000 in
theorem cd_L_remove {l : Launch} {s0 : State} {D : va_G} {cI cF cJ : ClassId} (G : Gx l s0 D cI cF cJ) {s : State} (hW : s0.WarmedH s.vm) : mx_Cd s y_L_remove (.codeWith y_L_remove b_L_remove 6 (some .int) [(0, 11, 14, 13), (0, 11, 18, 21), (0, 11, 22, 32)]) 6 := cd_ofW hW (fun a U hW => G.1.at 417 rfl rfl _ hW) (fun a U hW => G.1.at 0 rfl rfl _ hW)
set_option maxRecDepth 20000 in
theorem cd_L_has {l : Launch} {s0 : State} {D : va_G} {cI cF cJ : ClassId} (G : Gx l s0 D cI cF cJ) {s : State} (hW : s0.WarmedH s.vm) : mx_Cd s y_L_has (.codeWith y_L_has b_L_has 6 (some .int) [(0, 18, 21, 13), (0, 18, 25, 21)]) 6 := cd_ofW hW (fun a U hW => G.1.at 464 rfl rfl _ hW) (fun a U hW => G.1.at 0 rfl rfl _ hW)
set_option maxRecDepth 20000 in
theorem cd_L_hasAll {l : Launch} {s0 : State} {D : va_G} {cI cF cJ : ClassId} (G : Gx l s0 D cI cF cJ) {s : State} (hW : s0.WarmedH s.vm) : mx_Cd s y_L_hasAll (.codeWith y_L_hasAll b_L_hasAll 9 (some .int) [(0, 15, 18, 13), (0, 15, 22, 21), (0, 15, 26, 15)]) 9 := cd_ofW hW (fun a U hW => G.1.at 483 rfl rfl _ hW) (fun a U hW => G.1.at 0 rfl rfl _ hW)
set_option maxRecDepth 20000 in
theorem cd_L_same {l : Launch} {s0 : State} {D : va_G} {cI cF cJ : ClassId} (G : Gx l s0 D cI cF cJ) {s : State} (hW : s0.WarmedH s.vm) : mx_Cd s y_L_same (.codeWith y_L_same b_L_same 8 (some .int) [(0, 20, 23, 13), (0, 20, 27, 21)]) 8 := cd_ofW hW (fun a U hW => G.1.at 490 rfl rfl _ hW) (fun a U hW => G.1.at 0 rfl rfl _ hW)
set_option maxRecDepth 20000 in
theorem cd_L_count {l : Launch} {s0 : State} {D : va_G} {cI cF cJ : ClassId} (G : Gx l s0 D cI cF cJ) {s : State} (hW : s0.WarmedH s.vm) : mx_Cd s y_L_count (.codeWith y_L_count b_L_count 5 (some .int) [(0, 10, 13, 13), (0, 10, 17, 21), (0, 10, 21, 15)]) 5 := cd_ofW hW (fun a U hW => G.1.at 509 rfl rfl _ hW) (fun a U hW => G.1.at 0 rfl rfl _ hW)
set_option maxRecDepth 20000 in
theorem cd_L_cell {l : Launch} {s0 : State} {D : va_G} {cI cF cJ : ClassId} (G : Gx l s0 D cI cF cJ) {s : State} (hW : s0.WarmedH s.vm) : mx_Cd s y_L_cell (.codeWith y_L_cell b_L_cell 5 (some .int) [(0, 10, 13, 21), (0, 10, 17, 13)]) 5 := cd_ofW hW (fun a U hW => G.1.at 573 rfl rfl _ hW) (fun a U hW => G.1.at 0 rfl rfl _ hW)
set_option maxRecDepth 20000 in
theorem cd_L_merge {l : Launch} {s0 : State} {D : va_G} {cI cF cJ : ClassId} (G : Gx l s0 D cI cF cJ) {s : State} (hW : s0.WarmedH s.vm) : mx_Cd s y_L_merge (.codeWith y_L_merge b_L_merge 5 (some .int) [(0, 10, 13, 13), (0, 10, 17, 21), (0, 10, 21, 15), (0, 10, 25, 23)]) 5 := cd_ofW hW (fun a U hW => G.1.at 613 rfl rfl _ hW) (fun a U hW => G.1.at 0 rfl rfl _ hW)
set_option maxRecDepth 20000 in
theorem cd_L_grow {l : Launch} {s0 : State} {D : va_G} {cI cF cJ : ClassId} (G : Gx l s0 D cI cF cJ) {s : State} (hW : s0.WarmedH s.vm) : mx_Cd s y_L_grow (.codeWith y_L_grow b_L_grow 3 (some .int) [(0, 5, 8, 13), (0, 5, 11, 21), (0, 5, 14, 15)]) 3 := cd_ofW hW (fun a U hW => G.1.at 630 rfl rfl _ hW) (fun a U hW => G.1.at 0 rfl rfl _ hW)
set_option maxRecDepth 20000 in
theorem cd_L_clear {l : Launch} {s0 : State} {D : va_G} {cI cF cJ : ClassId} (G : Gx l s0 D cI cF cJ) {s : State} (hW : s0.WarmedH s.vm) : mx_Cd s y_L_clear (.codeWith y_L_clear b_L_clear 4 (some .int) [(0, 9, 12, 13), (0, 9, 15, 21)]) 4 := cd_ofW hW (fun a U hW => G.1.at 642 rfl rfl _ hW) (fun a U hW => G.1.at 0 rfl rfl _ hW)
set_option maxRecDepth 20000 in
theorem cd_A_fill {l : Launch} {s0 : State} {D : va_G} {cI cF cJ : ClassId} (G : Gx l s0 D cI cF cJ) {s : State} (hW : s0.WarmedH s.vm) : mx_Cd s y_A_fill (.code y_A_fill b_A_fill 4 none) 4 := cd_of hW (fun a U hW => G.1.at 254 rfl rfl _ hW) (fun a U hW => G.1.at 12 rfl rfl _ hW)
set_option maxRecDepth 20000 in
theorem fl_F_11 {l : Launch} {s0 : State} {D : va_G} {cI cF cJ : ClassId} (G : Gx l s0 D cI cF cJ) {s : State} {args : Array Value} (hW : s0.WarmedH s.vm) : (Cond.fieldLink "FewBits" 11 "FewBits" "filters" "[LFewBits$Filter;").before args s = true := G.1.at 28 rfl rfl _ hW
set_option maxRecDepth 20000 in
theorem fl_F_15 {l : Launch} {s0 : State} {D : va_G} {cI cF cJ : ClassId} (G : Gx l s0 D cI cF cJ) {s : State} {args : Array Value} (hW : s0.WarmedH s.vm) : (Cond.fieldLink "FewBits" 15 "FewBits" "made" "[LFewBits$Filter;").before args s = true := G.1.at 29 rfl rfl _ hW
set_option maxRecDepth 20000 in
theorem fl_C_11 {l : Launch} {s0 : State} {D : va_G} {cI cF cJ : ClassId} (G : Gx l s0 D cI cF cJ) {s : State} {args : Array Value} (hW : s0.WarmedH s.vm) : (Cond.fieldLink "FewBits$Counters" 11 "FewBits$Counters" "counters" "[I").before args s = true := G.1.at 168 rfl rfl _ hW
set_option maxRecDepth 20000 in
theorem fl_C_15 {l : Launch} {s0 : State} {D : va_G} {cI cF cJ : ClassId} (G : Gx l s0 D cI cF cJ) {s : State} {args : Array Value} (hW : s0.WarmedH s.vm) : (Cond.fieldLink "FewBits$Counters" 15 "FewBits$Counters" "places" "[I").before args s = true := G.1.at 169 rfl rfl _ hW
set_option maxRecDepth 20000 in
theorem fl_C_18 {l : Launch} {s0 : State} {D : va_G} {cI cF cJ : ClassId} (G : Gx l s0 D cI cF cJ) {s : State} {args : Array Value} (hW : s0.WarmedH s.vm) : (Cond.fieldLink "FewBits$Counters" 18 "FewBits$Counters" "placesBeside" "[I").before args s = true := G.1.at 170 rfl rfl _ hW
set_option maxRecDepth 20000 in
theorem fl_P_7 {l : Launch} {s0 : State} {D : va_G} {cI cF cJ : ClassId} (G : Gx l s0 D cI cF cJ) {s : State} {args : Array Value} (hW : s0.WarmedH s.vm) : (Cond.fieldLink "FewBits$Filter" 7 "FewBits$Filter" "a" "I").before args s = true := G.1.at 171 rfl rfl _ hW
set_option maxRecDepth 20000 in
theorem fl_F_84 {l : Launch} {s0 : State} {D : va_G} {cI cF cJ : ClassId} (G : Gx l s0 D cI cF cJ) {s : State} {args : Array Value} (hW : s0.WarmedH s.vm) : (Cond.fieldLink "FewBits" 84 "FewBits$Filter" "a" "I").before args s = true := G.1.at 172 rfl rfl _ hW
set_option maxRecDepth 20000 in
theorem fl_R_62 {l : Launch} {s0 : State} {D : va_G} {cI cF cJ : ClassId} (G : Gx l s0 D cI cF cJ) {s : State} {args : Array Value} (hW : s0.WarmedH s.vm) : (Cond.fieldLink "FewBits$Runs" 62 "FewBits$Runs" "a" "I").before args s = true := G.1.at 173 rfl rfl _ hW
set_option maxRecDepth 20000 in
theorem fl_F_123 {l : Launch} {s0 : State} {D : va_G} {cI cF cJ : ClassId} (G : Gx l s0 D cI cF cJ) {s : State} {args : Array Value} (hW : s0.WarmedH s.vm) : (Cond.fieldLink "FewBits" 123 "FewBits$Runs" "a" "I").before args s = true := G.1.at 175 rfl rfl _ hW
set_option maxRecDepth 20000 in
theorem fl_P_13 {l : Launch} {s0 : State} {D : va_G} {cI cF cJ : ClassId} (G : Gx l s0 D cI cF cJ) {s : State} {args : Array Value} (hW : s0.WarmedH s.vm) : (Cond.fieldLink "FewBits$Filter" 13 "FewBits$Filter" "b" "I").before args s = true := G.1.at 176 rfl rfl _ hW
set_option maxRecDepth 20000 in
theorem fl_C_31 {l : Launch} {s0 : State} {D : va_G} {cI cF cJ : ClassId} (G : Gx l s0 D cI cF cJ) {s : State} {args : Array Value} (hW : s0.WarmedH s.vm) : (Cond.fieldLink "FewBits$Counters" 31 "FewBits$Counters" "b" "I").before args s = true := G.1.at 177 rfl rfl _ hW
set_option maxRecDepth 20000 in
theorem fl_F_87 {l : Launch} {s0 : State} {D : va_G} {cI cF cJ : ClassId} (G : Gx l s0 D cI cF cJ) {s : State} {args : Array Value} (hW : s0.WarmedH s.vm) : (Cond.fieldLink "FewBits" 87 "FewBits$Filter" "b" "I").before args s = true := G.1.at 179 rfl rfl _ hW
set_option maxRecDepth 20000 in
theorem fl_B_57 {l : Launch} {s0 : State} {D : va_G} {cI cF cJ : ClassId} (G : Gx l s0 D cI cF cJ) {s : State} {args : Array Value} (hW : s0.WarmedH s.vm) : (Cond.fieldLink "FewBits$Buckets" 57 "FewBits$Buckets" "b" "I").before args s = true := G.1.at 180 rfl rfl _ hW
set_option maxRecDepth 20000 in
theorem fl_R_65 {l : Launch} {s0 : State} {D : va_G} {cI cF cJ : ClassId} (G : Gx l s0 D cI cF cJ) {s : State} {args : Array Value} (hW : s0.WarmedH s.vm) : (Cond.fieldLink "FewBits$Runs" 65 "FewBits$Runs" "b" "I").before args s = true := G.1.at 182 rfl rfl _ hW
set_option maxRecDepth 20000 in
theorem fl_F_126 {l : Launch} {s0 : State} {D : va_G} {cI cF cJ : ClassId} (G : Gx l s0 D cI cF cJ) {s : State} {args : Array Value} (hW : s0.WarmedH s.vm) : (Cond.fieldLink "FewBits" 126 "FewBits$Runs" "b" "I").before args s = true := G.1.at 184 rfl rfl _ hW
set_option maxRecDepth 20000 in
theorem fl_P_16 {l : Launch} {s0 : State} {D : va_G} {cI cF cJ : ClassId} (G : Gx l s0 D cI cF cJ) {s : State} {args : Array Value} (hW : s0.WarmedH s.vm) : (Cond.fieldLink "FewBits$Filter" 16 "FewBits$Filter" "held" "I").before args s = true := G.1.at 185 rfl rfl _ hW
set_option maxRecDepth 20000 in
theorem fl_R_18 {l : Launch} {s0 : State} {D : va_G} {cI cF cJ : ClassId} (G : Gx l s0 D cI cF cJ) {s : State} {args : Array Value} (hW : s0.WarmedH s.vm) : (Cond.fieldLink "FewBits$Runs" 18 "FewBits$Runs" "held" "I").before args s = true := G.1.at 186 rfl rfl _ hW
set_option maxRecDepth 20000 in
theorem fl_F_58 {l : Launch} {s0 : State} {D : va_G} {cI cF cJ : ClassId} (G : Gx l s0 D cI cF cJ) {s : State} {args : Array Value} (hW : s0.WarmedH s.vm) : (Cond.fieldLink "FewBits" 58 "FewBits$Filter" "held" "I").before args s = true := G.1.at 188 rfl rfl _ hW
set_option maxRecDepth 20000 in
theorem fl_F_135 {l : Launch} {s0 : State} {D : va_G} {cI cF cJ : ClassId} (G : Gx l s0 D cI cF cJ) {s : State} {args : Array Value} (hW : s0.WarmedH s.vm) : (Cond.fieldLink "FewBits" 135 "FewBits$Runs" "held" "I").before args s = true := G.1.at 189 rfl rfl _ hW
set_option maxRecDepth 20000 in
theorem fl_B_11 {l : Launch} {s0 : State} {D : va_G} {cI cF cJ : ClassId} (G : Gx l s0 D cI cF cJ) {s : State} {args : Array Value} (hW : s0.WarmedH s.vm) : (Cond.fieldLink "FewBits$Buckets" 11 "FewBits$Buckets" "slots" "[I").before args s = true := G.1.at 210 rfl rfl _ hW
set_option maxRecDepth 20000 in
theorem fl_B_15 {l : Launch} {s0 : State} {D : va_G} {cI cF cJ : ClassId} (G : Gx l s0 D cI cF cJ) {s : State} {args : Array Value} (hW : s0.WarmedH s.vm) : (Cond.fieldLink "FewBits$Buckets" 15 "FewBits$Buckets" "path" "[I").before args s = true := G.1.at 211 rfl rfl _ hW
set_option maxRecDepth 20000 in
theorem fl_B_28 {l : Launch} {s0 : State} {D : va_G} {cI cF cJ : ClassId} (G : Gx l s0 D cI cF cJ) {s : State} {args : Array Value} (hW : s0.WarmedH s.vm) : (Cond.fieldLink "FewBits$Buckets" 28 "FewBits$Buckets" "pushed" "I").before args s = true := G.1.at 212 rfl rfl _ hW
set_option maxRecDepth 20000 in
theorem fl_R_11 {l : Launch} {s0 : State} {D : va_G} {cI cF cJ : ClassId} (G : Gx l s0 D cI cF cJ) {s : State} {args : Array Value} (hW : s0.WarmedH s.vm) : (Cond.fieldLink "FewBits$Runs" 11 "FewBits$Runs" "pairs" "[I").before args s = true := G.1.at 229 rfl rfl _ hW
set_option maxRecDepth 20000 in
theorem fl_R_15 {l : Launch} {s0 : State} {D : va_G} {cI cF cJ : ClassId} (G : Gx l s0 D cI cF cJ) {s : State} {args : Array Value} (hW : s0.WarmedH s.vm) : (Cond.fieldLink "FewBits$Runs" 15 "FewBits$Runs" "circle" "[I").before args s = true := G.1.at 230 rfl rfl _ hW
set_option maxRecDepth 20000 in
theorem fl_M_43 {l : Launch} {s0 : State} {D : va_G} {cI cF cJ : ClassId} (G : Gx l s0 D cI cF cJ) {s : State} {args : Array Value} (hW : s0.WarmedH s.vm) : (Cond.fieldLink "FewBitsModel" 43 "FewBitsModel" "thrown" "I").before args s = true := G.1.at 653 rfl rfl _ hW
set_option maxRecDepth 20000 in
theorem fl_M_7 {l : Launch} {s0 : State} {D : va_G} {cI cF cJ : ClassId} (G : Gx l s0 D cI cF cJ) {s : State} {args : Array Value} (hW : s0.WarmedH s.vm) : (Cond.fieldLink "FewBitsModel" 7 "FewBitsModel" "kinds" "[I").before args s = true := G.1.at 654 rfl rfl _ hW
set_option maxRecDepth 20000 in
theorem fl_M_13 {l : Launch} {s0 : State} {D : va_G} {cI cF cJ : ClassId} (G : Gx l s0 D cI cF cJ) {s : State} {args : Array Value} (hW : s0.WarmedH s.vm) : (Cond.fieldLink "FewBitsModel" 13 "FewBitsModel" "as" "[I").before args s = true := G.1.at 655 rfl rfl _ hW
set_option maxRecDepth 20000 in
theorem fl_M_16 {l : Launch} {s0 : State} {D : va_G} {cI cF cJ : ClassId} (G : Gx l s0 D cI cF cJ) {s : State} {args : Array Value} (hW : s0.WarmedH s.vm) : (Cond.fieldLink "FewBitsModel" 16 "FewBitsModel" "bs" "[I").before args s = true := G.1.at 656 rfl rfl _ hW
set_option maxRecDepth 20000 in
theorem fl_M_19 {l : Launch} {s0 : State} {D : va_G} {cI cF cJ : ClassId} (G : Gx l s0 D cI cF cJ) {s : State} {args : Array Value} (hW : s0.WarmedH s.vm) : (Cond.fieldLink "FewBitsModel" 19 "FewBitsModel" "sizes" "[I").before args s = true := G.1.at 657 rfl rfl _ hW
set_option maxRecDepth 20000 in
theorem fl_M_22 {l : Launch} {s0 : State} {D : va_G} {cI cF cJ : ClassId} (G : Gx l s0 D cI cF cJ) {s : State} {args : Array Value} (hW : s0.WarmedH s.vm) : (Cond.fieldLink "FewBitsModel" 22 "FewBitsModel" "pushed" "[I").before args s = true := G.1.at 658 rfl rfl _ hW
set_option maxRecDepth 20000 in
theorem fl_M_25 {l : Launch} {s0 : State} {D : va_G} {cI cF cJ : ClassId} (G : Gx l s0 D cI cF cJ) {s : State} {args : Array Value} (hW : s0.WarmedH s.vm) : (Cond.fieldLink "FewBitsModel" 25 "FewBitsModel" "cells" "[I").before args s = true := G.1.at 659 rfl rfl _ hW
set_option maxRecDepth 20000 in
theorem fl_M_28 {l : Launch} {s0 : State} {D : va_G} {cI cF cJ : ClassId} (G : Gx l s0 D cI cF cJ) {s : State} {args : Array Value} (hW : s0.WarmedH s.vm) : (Cond.fieldLink "FewBitsModel" 28 "FewBitsModel" "pairs" "[I").before args s = true := G.1.at 660 rfl rfl _ hW
set_option maxRecDepth 20000 in
theorem fl_M_31 {l : Launch} {s0 : State} {D : va_G} {cI cF cJ : ClassId} (G : Gx l s0 D cI cF cJ) {s : State} {args : Array Value} (hW : s0.WarmedH s.vm) : (Cond.fieldLink "FewBitsModel" 31 "FewBitsModel" "tried" "[I").before args s = true := G.1.at 661 rfl rfl _ hW
set_option maxRecDepth 20000 in
theorem fl_M_34 {l : Launch} {s0 : State} {D : va_G} {cI cF cJ : ClassId} (G : Gx l s0 D cI cF cJ) {s : State} {args : Array Value} (hW : s0.WarmedH s.vm) : (Cond.fieldLink "FewBitsModel" 34 "FewBitsModel" "slots" "[I").before args s = true := G.1.at 662 rfl rfl _ hW
set_option maxRecDepth 20000 in
theorem fl_M_37 {l : Launch} {s0 : State} {D : va_G} {cI cF cJ : ClassId} (G : Gx l s0 D cI cF cJ) {s : State} {args : Array Value} (hW : s0.WarmedH s.vm) : (Cond.fieldLink "FewBitsModel" 37 "FewBitsModel" "places" "[I").before args s = true := G.1.at 663 rfl rfl _ hW
set_option maxRecDepth 20000 in
theorem fl_M_40 {l : Launch} {s0 : State} {D : va_G} {cI cF cJ : ClassId} (G : Gx l s0 D cI cF cJ) {s : State} {args : Array Value} (hW : s0.WarmedH s.vm) : (Cond.fieldLink "FewBitsModel" 40 "FewBitsModel" "others" "[I").before args s = true := G.1.at 664 rfl rfl _ hW
set_option maxRecDepth 20000 in
theorem iv_F_mix_2 {l : Launch} {s0 : State} {D : va_G} {cI cF cJ : ClassId} (G : Gx l s0 D cI cF cJ) {p : Program} {e : Env} {R : Room} {s : State} {m : MethodId} {args : Array Value} {below : List Frame} {meth : Method} {c : Code} {H : Heap} {locs : List Loc} {cells slots : Nat} {ls : Array Slot} (hx : p.tables.exec = Jvm.exec) (hb : c.code = b_F_mix) (hown : s.vm.findClass "FewBits" = some m.cls) (hW : s0.WarmedH s.vm) (as rest : List Value) (hn : as.length = 2) : ∀ T, T.heap = H → Stand p l e R s m args below meth c T locs cells slots → mx_Inv p l e R s m args below meth c T locs cells slots (F0 m 2 ls (as.reverse ++ rest)) (F0 m 2 ls rest) y_F_mixed as := fun T hT X => mx_invS X hx hown (G.1.at 39 rfl rfl _ hW) (G.1.at 40 rfl rfl _ hW) (G.1.at 1 rfl rfl _ hW) (G.1.at 41 rfl rfl _ hW) ⟨⟨by decide, by decide⟩, by decide +kernel⟩ rfl hn rfl (by rw [hb]; exact d_F_mix_2)
set_option maxRecDepth 20000 in
theorem iv_F_make_1 {l : Launch} {s0 : State} {D : va_G} {cI cF cJ : ClassId} (G : Gx l s0 D cI cF cJ) {p : Program} {e : Env} {R : Room} {s : State} {m : MethodId} {args : Array Value} {below : List Frame} {meth : Method} {c : Code} {H : Heap} {locs : List Loc} {cells slots : Nat} {ls : Array Slot} (hx : p.tables.exec = Jvm.exec) (hb : c.code = b_F_make) (hown : s.vm.findClass "FewBits" = some m.cls) (hW : s0.WarmedH s.vm) (as rest : List Value) (hn : as.length = 1) : ∀ T, T.heap = H → Stand p l e R s m args below meth c T locs cells slots → mx_Inv p l e R s m args below meth c T locs cells slots (F0 m 1 ls (as.reverse ++ rest)) (F0 m 1 ls rest) y_F_requireNumber as := fun T hT X => mx_invS X hx hown (G.1.at 54 rfl rfl _ hW) (G.1.at 55 rfl rfl _ hW) (G.1.at 1 rfl rfl _ hW) (G.1.at 56 rfl rfl _ hW) ⟨⟨by decide, by decide⟩, by decide +kernel⟩ rfl hn rfl (by rw [hb]; exact d_F_make_1)
set_option maxRecDepth 20000 in
theorem iv_F_make_8 {l : Launch} {s0 : State} {D : va_G} {cI cF cJ : ClassId} (G : Gx l s0 D cI cF cJ) {p : Program} {e : Env} {R : Room} {s : State} {m : MethodId} {args : Array Value} {below : List Frame} {meth : Method} {c : Code} {H : Heap} {locs : List Loc} {cells slots : Nat} {ls : Array Slot} (hx : p.tables.exec = Jvm.exec) (hb : c.code = b_F_make) (hown : s.vm.findClass "FewBits" = some m.cls) (hW : s0.WarmedH s.vm) (as rest : List Value) (hn : as.length = 3) : ∀ T, T.heap = H → Stand p l e R s m args below meth c T locs cells slots → mx_Inv p l e R s m args below meth c T locs cells slots (F0 m 8 ls (as.reverse ++ rest)) (F0 m 8 ls rest) y_F_mayBe as := fun T hT X => mx_invS X hx hown (G.1.at 133 rfl rfl _ hW) (G.1.at 134 rfl rfl _ hW) (G.1.at 1 rfl rfl _ hW) (G.1.at 135 rfl rfl _ hW) ⟨⟨by decide, by decide⟩, by decide +kernel⟩ rfl hn rfl (by rw [hb]; exact d_F_make_8)
set_option maxRecDepth 20000 in
theorem iv_F_make_27 {l : Launch} {s0 : State} {D : va_G} {cI cF cJ : ClassId} (G : Gx l s0 D cI cF cJ) {p : Program} {e : Env} {R : Room} {s : State} {m : MethodId} {args : Array Value} {below : List Frame} {meth : Method} {c : Code} {H : Heap} {locs : List Loc} {cells slots : Nat} {ls : Array Slot} (hx : p.tables.exec = Jvm.exec) (hb : c.code = b_F_make) (hown : s.vm.findClass "FewBits" = some m.cls) (hW : s0.WarmedH s.vm) {b : Nat} (hob : mx_Ob s H "FewBits" b) (as rest : List Value) (hn : as.length = 2) : ∀ T, T.heap = H → Stand p l e R s m args below meth c T locs cells slots → mx_Inv p l e R s m args below meth c T locs cells slots (F0 m 27 ls (as.reverse ++ .ref b :: rest)) (F0 m 27 ls rest) y_F_filterFor (.ref b :: as) := fun T hT X => mx_invV X hT hx hown (G.1.at 152 rfl rfl _ hW) (G.1.at 154 rfl rfl _ hW) (G.1.sel 1 rfl _ hW) (G.1.at 155 rfl rfl _ hW) ⟨⟨by decide, by decide⟩, by decide +kernel⟩ hob rfl hn rfl (by rw [hb]; exact d_F_make_27)
set_option maxRecDepth 20000 in
theorem iv_F_make_37_C {l : Launch} {s0 : State} {D : va_G} {cI cF cJ : ClassId} (G : Gx l s0 D cI cF cJ) {p : Program} {e : Env} {R : Room} {s : State} {m : MethodId} {args : Array Value} {below : List Frame} {meth : Method} {c : Code} {H : Heap} {locs : List Loc} {cells slots : Nat} {ls : Array Slot} (hx : p.tables.exec = Jvm.exec) (hb : c.code = b_F_make) (hown : s.vm.findClass "FewBits" = some m.cls) (hW : s0.WarmedH s.vm) {b : Nat} (hob : mx_Ob s H "FewBits$Counters" b) (as rest : List Value) (hn : as.length = 2) : ∀ T, T.heap = H → Stand p l e R s m args below meth c T locs cells slots → mx_Inv p l e R s m args below meth c T locs cells slots (F0 m 37 ls (as.reverse ++ .ref b :: rest)) (F0 m 37 ls rest) y_P_begin (.ref b :: as) := fun T hT X => mx_invU X hT hx (owner := "FewBits$Filter") (x := y_P_begin) hown (G.1.at 239 rfl rfl _ hW) (G.1.at 241 rfl rfl _ hW) (va_Decl.of (args := args) (G.1.at 240 rfl rfl _ hW) (G.1.at 245 rfl rfl _ hW)) ⟨by decide, by decide⟩ (G.1.at 243 rfl rfl _ hW) (G.1.at 240 rfl rfl _ hW) ⟨⟨by decide, by decide⟩, by decide +kernel⟩ hob rfl hn rfl (by rw [hb]; exact d_F_make_37)
set_option maxRecDepth 20000 in
theorem iv_F_make_37_B {l : Launch} {s0 : State} {D : va_G} {cI cF cJ : ClassId} (G : Gx l s0 D cI cF cJ) {p : Program} {e : Env} {R : Room} {s : State} {m : MethodId} {args : Array Value} {below : List Frame} {meth : Method} {c : Code} {H : Heap} {locs : List Loc} {cells slots : Nat} {ls : Array Slot} (hx : p.tables.exec = Jvm.exec) (hb : c.code = b_F_make) (hown : s.vm.findClass "FewBits" = some m.cls) (hW : s0.WarmedH s.vm) {b : Nat} (hob : mx_Ob s H "FewBits$Buckets" b) (as rest : List Value) (hn : as.length = 2) : ∀ T, T.heap = H → Stand p l e R s m args below meth c T locs cells slots → mx_Inv p l e R s m args below meth c T locs cells slots (F0 m 37 ls (as.reverse ++ .ref b :: rest)) (F0 m 37 ls rest) y_P_begin (.ref b :: as) := fun T hT X => mx_invU X hT hx (owner := "FewBits$Filter") (x := y_P_begin) hown (G.1.at 239 rfl rfl _ hW) (G.1.at 241 rfl rfl _ hW) (va_Decl.of (args := args) (G.1.at 240 rfl rfl _ hW) (G.1.at 245 rfl rfl _ hW)) ⟨by decide, by decide⟩ (G.1.at 242 rfl rfl _ hW) (G.1.at 240 rfl rfl _ hW) ⟨⟨by decide, by decide⟩, by decide +kernel⟩ hob rfl hn rfl (by rw [hb]; exact d_F_make_37)
set_option maxRecDepth 20000 in
theorem iv_F_make_37_R {l : Launch} {s0 : State} {D : va_G} {cI cF cJ : ClassId} (G : Gx l s0 D cI cF cJ) {p : Program} {e : Env} {R : Room} {s : State} {m : MethodId} {args : Array Value} {below : List Frame} {meth : Method} {c : Code} {H : Heap} {locs : List Loc} {cells slots : Nat} {ls : Array Slot} (hx : p.tables.exec = Jvm.exec) (hb : c.code = b_F_make) (hown : s.vm.findClass "FewBits" = some m.cls) (hW : s0.WarmedH s.vm) {b : Nat} (hob : mx_Ob s H "FewBits$Runs" b) (as rest : List Value) (hn : as.length = 2) : ∀ T, T.heap = H → Stand p l e R s m args below meth c T locs cells slots → mx_Inv p l e R s m args below meth c T locs cells slots (F0 m 37 ls (as.reverse ++ .ref b :: rest)) (F0 m 37 ls rest) y_P_begin (.ref b :: as) := fun T hT X => mx_invU X hT hx (owner := "FewBits$Filter") (x := y_P_begin) hown (G.1.at 239 rfl rfl _ hW) (G.1.at 241 rfl rfl _ hW) (va_Decl.of (args := args) (G.1.at 240 rfl rfl _ hW) (G.1.at 245 rfl rfl _ hW)) ⟨by decide, by decide⟩ (G.1.at 244 rfl rfl _ hW) (G.1.at 240 rfl rfl _ hW) ⟨⟨by decide, by decide⟩, by decide +kernel⟩ hob rfl hn rfl (by rw [hb]; exact d_F_make_37)
set_option maxRecDepth 20000 in
theorem iv_F_add_2 {l : Launch} {s0 : State} {D : va_G} {cI cF cJ : ClassId} (G : Gx l s0 D cI cF cJ) {p : Program} {e : Env} {R : Room} {s : State} {m : MethodId} {args : Array Value} {below : List Frame} {meth : Method} {c : Code} {H : Heap} {locs : List Loc} {cells slots : Nat} {ls : Array Slot} (hx : p.tables.exec = Jvm.exec) (hb : c.code = b_F_add) (hown : s.vm.findClass "FewBits" = some m.cls) (hW : s0.WarmedH s.vm) {b : Nat} (hob : mx_Ob s H "FewBits" b) (as rest : List Value) (hn : as.length = 1) : ∀ T, T.heap = H → Stand p l e R s m args below meth c T locs cells slots → mx_Inv p l e R s m args below meth c T locs cells slots (F0 m 2 ls (as.reverse ++ .ref b :: rest)) (F0 m 2 ls rest) y_F_filterAt (.ref b :: as) := fun T hT X => mx_invV X hT hx hown (G.1.at 271 rfl rfl _ hW) (G.1.at 273 rfl rfl _ hW) (G.1.sel 2 rfl _ hW) (G.1.at 274 rfl rfl _ hW) ⟨⟨by decide, by decide⟩, by decide +kernel⟩ hob rfl hn rfl (by rw [hb]; exact d_F_add_2)
set_option maxRecDepth 20000 in
theorem iv_F_add_10_C {l : Launch} {s0 : State} {D : va_G} {cI cF cJ : ClassId} (G : Gx l s0 D cI cF cJ) {p : Program} {e : Env} {R : Room} {s : State} {m : MethodId} {args : Array Value} {below : List Frame} {meth : Method} {c : Code} {H : Heap} {locs : List Loc} {cells slots : Nat} {ls : Array Slot} (hx : p.tables.exec = Jvm.exec) (hb : c.code = b_F_add) (hown : s.vm.findClass "FewBits" = some m.cls) (hW : s0.WarmedH s.vm) {b : Nat} (hob : mx_Ob s H "FewBits$Counters" b) (as rest : List Value) (hn : as.length = 1) : ∀ T, T.heap = H → Stand p l e R s m args below meth c T locs cells slots → mx_Inv p l e R s m args below meth c T locs cells slots (F0 m 10 ls (as.reverse ++ .ref b :: rest)) (F0 m 10 ls rest) y_P_accept (.ref b :: as) := fun T hT X => mx_invU X hT hx (owner := "FewBits$Filter") (x := y_P_accept) hown (G.1.at 291 rfl rfl _ hW) (G.1.at 293 rfl rfl _ hW) (va_Decl.of (args := args) (G.1.at 292 rfl rfl _ hW) (G.1.at 297 rfl rfl _ hW)) ⟨by decide, by decide⟩ (G.1.at 295 rfl rfl _ hW) (G.1.at 292 rfl rfl _ hW) ⟨⟨by decide, by decide⟩, by decide +kernel⟩ hob rfl hn rfl (by rw [hb]; exact d_F_add_10)
set_option maxRecDepth 20000 in
theorem iv_F_add_10_B {l : Launch} {s0 : State} {D : va_G} {cI cF cJ : ClassId} (G : Gx l s0 D cI cF cJ) {p : Program} {e : Env} {R : Room} {s : State} {m : MethodId} {args : Array Value} {below : List Frame} {meth : Method} {c : Code} {H : Heap} {locs : List Loc} {cells slots : Nat} {ls : Array Slot} (hx : p.tables.exec = Jvm.exec) (hb : c.code = b_F_add) (hown : s.vm.findClass "FewBits" = some m.cls) (hW : s0.WarmedH s.vm) {b : Nat} (hob : mx_Ob s H "FewBits$Buckets" b) (as rest : List Value) (hn : as.length = 1) : ∀ T, T.heap = H → Stand p l e R s m args below meth c T locs cells slots → mx_Inv p l e R s m args below meth c T locs cells slots (F0 m 10 ls (as.reverse ++ .ref b :: rest)) (F0 m 10 ls rest) y_P_accept (.ref b :: as) := fun T hT X => mx_invU X hT hx (owner := "FewBits$Filter") (x := y_P_accept) hown (G.1.at 291 rfl rfl _ hW) (G.1.at 293 rfl rfl _ hW) (va_Decl.of (args := args) (G.1.at 292 rfl rfl _ hW) (G.1.at 297 rfl rfl _ hW)) ⟨by decide, by decide⟩ (G.1.at 294 rfl rfl _ hW) (G.1.at 292 rfl rfl _ hW) ⟨⟨by decide, by decide⟩, by decide +kernel⟩ hob rfl hn rfl (by rw [hb]; exact d_F_add_10)
set_option maxRecDepth 20000 in
theorem iv_F_add_10_R {l : Launch} {s0 : State} {D : va_G} {cI cF cJ : ClassId} (G : Gx l s0 D cI cF cJ) {p : Program} {e : Env} {R : Room} {s : State} {m : MethodId} {args : Array Value} {below : List Frame} {meth : Method} {c : Code} {H : Heap} {locs : List Loc} {cells slots : Nat} {ls : Array Slot} (hx : p.tables.exec = Jvm.exec) (hb : c.code = b_F_add) (hown : s.vm.findClass "FewBits" = some m.cls) (hW : s0.WarmedH s.vm) {b : Nat} (hob : mx_Ob s H "FewBits$Runs" b) (as rest : List Value) (hn : as.length = 1) : ∀ T, T.heap = H → Stand p l e R s m args below meth c T locs cells slots → mx_Inv p l e R s m args below meth c T locs cells slots (F0 m 10 ls (as.reverse ++ .ref b :: rest)) (F0 m 10 ls rest) y_P_accept (.ref b :: as) := fun T hT X => mx_invU X hT hx (owner := "FewBits$Filter") (x := y_P_accept) hown (G.1.at 291 rfl rfl _ hW) (G.1.at 293 rfl rfl _ hW) (va_Decl.of (args := args) (G.1.at 292 rfl rfl _ hW) (G.1.at 297 rfl rfl _ hW)) ⟨by decide, by decide⟩ (G.1.at 296 rfl rfl _ hW) (G.1.at 292 rfl rfl _ hW) ⟨⟨by decide, by decide⟩, by decide +kernel⟩ hob rfl hn rfl (by rw [hb]; exact d_F_add_10)
set_option maxRecDepth 20000 in
theorem iv_F_addAll_2 {l : Launch} {s0 : State} {D : va_G} {cI cF cJ : ClassId} (G : Gx l s0 D cI cF cJ) {p : Program} {e : Env} {R : Room} {s : State} {m : MethodId} {args : Array Value} {below : List Frame} {meth : Method} {c : Code} {H : Heap} {locs : List Loc} {cells slots : Nat} {ls : Array Slot} (hx : p.tables.exec = Jvm.exec) (hb : c.code = b_F_addAll) (hown : s.vm.findClass "FewBits" = some m.cls) (hW : s0.WarmedH s.vm) {b : Nat} (hob : mx_Ob s H "FewBits" b) (as rest : List Value) (hn : as.length = 1) : ∀ T, T.heap = H → Stand p l e R s m args below meth c T locs cells slots → mx_Inv p l e R s m args below meth c T locs cells slots (F0 m 2 ls (as.reverse ++ .ref b :: rest)) (F0 m 2 ls rest) y_F_filterAt (.ref b :: as) := fun T hT X => mx_invV X hT hx hown (G.1.at 271 rfl rfl _ hW) (G.1.at 273 rfl rfl _ hW) (G.1.sel 2 rfl _ hW) (G.1.at 274 rfl rfl _ hW) ⟨⟨by decide, by decide⟩, by decide +kernel⟩ hob rfl hn rfl (by rw [hb]; exact d_F_addAll_2)
set_option maxRecDepth 20000 in
theorem iv_F_addAll_9 {l : Launch} {s0 : State} {D : va_G} {cI cF cJ : ClassId} (G : Gx l s0 D cI cF cJ) {p : Program} {e : Env} {R : Room} {s : State} {m : MethodId} {args : Array Value} {below : List Frame} {meth : Method} {c : Code} {H : Heap} {locs : List Loc} {cells slots : Nat} {ls : Array Slot} (hx : p.tables.exec = Jvm.exec) (hb : c.code = b_F_addAll) (hown : s.vm.findClass "FewBits" = some m.cls) (hW : s0.WarmedH s.vm) (as rest : List Value) (hn : as.length = 1) : ∀ T, T.heap = H → Stand p l e R s m args below meth c T locs cells slots → mx_Inv p l e R s m args below meth c T locs cells slots (F0 m 9 ls (as.reverse ++ rest)) (F0 m 9 ls rest) y_F_requireItems as := fun T hT X => mx_invS X hx hown (G.1.at 411 rfl rfl _ hW) (G.1.at 412 rfl rfl _ hW) (G.1.at 1 rfl rfl _ hW) (G.1.at 413 rfl rfl _ hW) ⟨⟨by decide, by decide⟩, by decide +kernel⟩ rfl hn rfl (by rw [hb]; exact d_F_addAll_9)
set_option maxRecDepth 20000 in
theorem iv_F_addAll_29_C {l : Launch} {s0 : State} {D : va_G} {cI cF cJ : ClassId} (G : Gx l s0 D cI cF cJ) {p : Program} {e : Env} {R : Room} {s : State} {m : MethodId} {args : Array Value} {below : List Frame} {meth : Method} {c : Code} {H : Heap} {locs : List Loc} {cells slots : Nat} {ls : Array Slot} (hx : p.tables.exec = Jvm.exec) (hb : c.code = b_F_addAll) (hown : s.vm.findClass "FewBits" = some m.cls) (hW : s0.WarmedH s.vm) {b : Nat} (hob : mx_Ob s H "FewBits$Counters" b) (as rest : List Value) (hn : as.length = 1) : ∀ T, T.heap = H → Stand p l e R s m args below meth c T locs cells slots → mx_Inv p l e R s m args below meth c T locs cells slots (F0 m 29 ls (as.reverse ++ .ref b :: rest)) (F0 m 29 ls rest) y_P_accept (.ref b :: as) := fun T hT X => mx_invU X hT hx (owner := "FewBits$Filter") (x := y_P_accept) hown (G.1.at 291 rfl rfl _ hW) (G.1.at 293 rfl rfl _ hW) (va_Decl.of (args := args) (G.1.at 292 rfl rfl _ hW) (G.1.at 297 rfl rfl _ hW)) ⟨by decide, by decide⟩ (G.1.at 295 rfl rfl _ hW) (G.1.at 292 rfl rfl _ hW) ⟨⟨by decide, by decide⟩, by decide +kernel⟩ hob rfl hn rfl (by rw [hb]; exact d_F_addAll_29)
set_option maxRecDepth 20000 in
theorem iv_F_addAll_29_B {l : Launch} {s0 : State} {D : va_G} {cI cF cJ : ClassId} (G : Gx l s0 D cI cF cJ) {p : Program} {e : Env} {R : Room} {s : State} {m : MethodId} {args : Array Value} {below : List Frame} {meth : Method} {c : Code} {H : Heap} {locs : List Loc} {cells slots : Nat} {ls : Array Slot} (hx : p.tables.exec = Jvm.exec) (hb : c.code = b_F_addAll) (hown : s.vm.findClass "FewBits" = some m.cls) (hW : s0.WarmedH s.vm) {b : Nat} (hob : mx_Ob s H "FewBits$Buckets" b) (as rest : List Value) (hn : as.length = 1) : ∀ T, T.heap = H → Stand p l e R s m args below meth c T locs cells slots → mx_Inv p l e R s m args below meth c T locs cells slots (F0 m 29 ls (as.reverse ++ .ref b :: rest)) (F0 m 29 ls rest) y_P_accept (.ref b :: as) := fun T hT X => mx_invU X hT hx (owner := "FewBits$Filter") (x := y_P_accept) hown (G.1.at 291 rfl rfl _ hW) (G.1.at 293 rfl rfl _ hW) (va_Decl.of (args := args) (G.1.at 292 rfl rfl _ hW) (G.1.at 297 rfl rfl _ hW)) ⟨by decide, by decide⟩ (G.1.at 294 rfl rfl _ hW) (G.1.at 292 rfl rfl _ hW) ⟨⟨by decide, by decide⟩, by decide +kernel⟩ hob rfl hn rfl (by rw [hb]; exact d_F_addAll_29)
set_option maxRecDepth 20000 in
theorem iv_F_addAll_29_R {l : Launch} {s0 : State} {D : va_G} {cI cF cJ : ClassId} (G : Gx l s0 D cI cF cJ) {p : Program} {e : Env} {R : Room} {s : State} {m : MethodId} {args : Array Value} {below : List Frame} {meth : Method} {c : Code} {H : Heap} {locs : List Loc} {cells slots : Nat} {ls : Array Slot} (hx : p.tables.exec = Jvm.exec) (hb : c.code = b_F_addAll) (hown : s.vm.findClass "FewBits" = some m.cls) (hW : s0.WarmedH s.vm) {b : Nat} (hob : mx_Ob s H "FewBits$Runs" b) (as rest : List Value) (hn : as.length = 1) : ∀ T, T.heap = H → Stand p l e R s m args below meth c T locs cells slots → mx_Inv p l e R s m args below meth c T locs cells slots (F0 m 29 ls (as.reverse ++ .ref b :: rest)) (F0 m 29 ls rest) y_P_accept (.ref b :: as) := fun T hT X => mx_invU X hT hx (owner := "FewBits$Filter") (x := y_P_accept) hown (G.1.at 291 rfl rfl _ hW) (G.1.at 293 rfl rfl _ hW) (va_Decl.of (args := args) (G.1.at 292 rfl rfl _ hW) (G.1.at 297 rfl rfl _ hW)) ⟨by decide, by decide⟩ (G.1.at 296 rfl rfl _ hW) (G.1.at 292 rfl rfl _ hW) ⟨⟨by decide, by decide⟩, by decide +kernel⟩ hob rfl hn rfl (by rw [hb]; exact d_F_addAll_29)
set_option maxRecDepth 20000 in
theorem iv_F_remove_2 {l : Launch} {s0 : State} {D : va_G} {cI cF cJ : ClassId} (G : Gx l s0 D cI cF cJ) {p : Program} {e : Env} {R : Room} {s : State} {m : MethodId} {args : Array Value} {below : List Frame} {meth : Method} {c : Code} {H : Heap} {locs : List Loc} {cells slots : Nat} {ls : Array Slot} (hx : p.tables.exec = Jvm.exec) (hb : c.code = b_F_remove) (hown : s.vm.findClass "FewBits" = some m.cls) (hW : s0.WarmedH s.vm) {b : Nat} (hob : mx_Ob s H "FewBits" b) (as rest : List Value) (hn : as.length = 1) : ∀ T, T.heap = H → Stand p l e R s m args below meth c T locs cells slots → mx_Inv p l e R s m args below meth c T locs cells slots (F0 m 2 ls (as.reverse ++ .ref b :: rest)) (F0 m 2 ls rest) y_F_filterAt (.ref b :: as) := fun T hT X => mx_invV X hT hx hown (G.1.at 271 rfl rfl _ hW) (G.1.at 273 rfl rfl _ hW) (G.1.sel 2 rfl _ hW) (G.1.at 274 rfl rfl _ hW) ⟨⟨by decide, by decide⟩, by decide +kernel⟩ hob rfl hn rfl (by rw [hb]; exact d_F_remove_2)
set_option maxRecDepth 20000 in
theorem iv_F_remove_10_C {l : Launch} {s0 : State} {D : va_G} {cI cF cJ : ClassId} (G : Gx l s0 D cI cF cJ) {p : Program} {e : Env} {R : Room} {s : State} {m : MethodId} {args : Array Value} {below : List Frame} {meth : Method} {c : Code} {H : Heap} {locs : List Loc} {cells slots : Nat} {ls : Array Slot} (hx : p.tables.exec = Jvm.exec) (hb : c.code = b_F_remove) (hown : s.vm.findClass "FewBits" = some m.cls) (hW : s0.WarmedH s.vm) {b : Nat} (hob : mx_Ob s H "FewBits$Counters" b) (as rest : List Value) (hn : as.length = 1) : ∀ T, T.heap = H → Stand p l e R s m args below meth c T locs cells slots → mx_Inv p l e R s m args below meth c T locs cells slots (F0 m 10 ls (as.reverse ++ .ref b :: rest)) (F0 m 10 ls rest) y_P_release (.ref b :: as) := fun T hT X => mx_invU X hT hx (owner := "FewBits$Filter") (x := y_P_release) hown (G.1.at 423 rfl rfl _ hW) (G.1.at 425 rfl rfl _ hW) (va_Decl.of (args := args) (G.1.at 424 rfl rfl _ hW) (G.1.at 429 rfl rfl _ hW)) ⟨by decide, by decide⟩ (G.1.at 427 rfl rfl _ hW) (G.1.at 424 rfl rfl _ hW) ⟨⟨by decide, by decide⟩, by decide +kernel⟩ hob rfl hn rfl (by rw [hb]; exact d_F_remove_10)
set_option maxRecDepth 20000 in
theorem iv_F_remove_10_B {l : Launch} {s0 : State} {D : va_G} {cI cF cJ : ClassId} (G : Gx l s0 D cI cF cJ) {p : Program} {e : Env} {R : Room} {s : State} {m : MethodId} {args : Array Value} {below : List Frame} {meth : Method} {c : Code} {H : Heap} {locs : List Loc} {cells slots : Nat} {ls : Array Slot} (hx : p.tables.exec = Jvm.exec) (hb : c.code = b_F_remove) (hown : s.vm.findClass "FewBits" = some m.cls) (hW : s0.WarmedH s.vm) {b : Nat} (hob : mx_Ob s H "FewBits$Buckets" b) (as rest : List Value) (hn : as.length = 1) : ∀ T, T.heap = H → Stand p l e R s m args below meth c T locs cells slots → mx_Inv p l e R s m args below meth c T locs cells slots (F0 m 10 ls (as.reverse ++ .ref b :: rest)) (F0 m 10 ls rest) y_P_release (.ref b :: as) := fun T hT X => mx_invU X hT hx (owner := "FewBits$Filter") (x := y_P_release) hown (G.1.at 423 rfl rfl _ hW) (G.1.at 425 rfl rfl _ hW) (va_Decl.of (args := args) (G.1.at 424 rfl rfl _ hW) (G.1.at 429 rfl rfl _ hW)) ⟨by decide, by decide⟩ (G.1.at 426 rfl rfl _ hW) (G.1.at 424 rfl rfl _ hW) ⟨⟨by decide, by decide⟩, by decide +kernel⟩ hob rfl hn rfl (by rw [hb]; exact d_F_remove_10)
set_option maxRecDepth 20000 in
theorem iv_F_remove_10_R {l : Launch} {s0 : State} {D : va_G} {cI cF cJ : ClassId} (G : Gx l s0 D cI cF cJ) {p : Program} {e : Env} {R : Room} {s : State} {m : MethodId} {args : Array Value} {below : List Frame} {meth : Method} {c : Code} {H : Heap} {locs : List Loc} {cells slots : Nat} {ls : Array Slot} (hx : p.tables.exec = Jvm.exec) (hb : c.code = b_F_remove) (hown : s.vm.findClass "FewBits" = some m.cls) (hW : s0.WarmedH s.vm) {b : Nat} (hob : mx_Ob s H "FewBits$Runs" b) (as rest : List Value) (hn : as.length = 1) : ∀ T, T.heap = H → Stand p l e R s m args below meth c T locs cells slots → mx_Inv p l e R s m args below meth c T locs cells slots (F0 m 10 ls (as.reverse ++ .ref b :: rest)) (F0 m 10 ls rest) y_P_release (.ref b :: as) := fun T hT X => mx_invU X hT hx (owner := "FewBits$Filter") (x := y_P_release) hown (G.1.at 423 rfl rfl _ hW) (G.1.at 425 rfl rfl _ hW) (va_Decl.of (args := args) (G.1.at 424 rfl rfl _ hW) (G.1.at 429 rfl rfl _ hW)) ⟨by decide, by decide⟩ (G.1.at 428 rfl rfl _ hW) (G.1.at 424 rfl rfl _ hW) ⟨⟨by decide, by decide⟩, by decide +kernel⟩ hob rfl hn rfl (by rw [hb]; exact d_F_remove_10)
set_option maxRecDepth 20000 in
theorem iv_F_has_2 {l : Launch} {s0 : State} {D : va_G} {cI cF cJ : ClassId} (G : Gx l s0 D cI cF cJ) {p : Program} {e : Env} {R : Room} {s : State} {m : MethodId} {args : Array Value} {below : List Frame} {meth : Method} {c : Code} {H : Heap} {locs : List Loc} {cells slots : Nat} {ls : Array Slot} (hx : p.tables.exec = Jvm.exec) (hb : c.code = b_F_has) (hown : s.vm.findClass "FewBits" = some m.cls) (hW : s0.WarmedH s.vm) {b : Nat} (hob : mx_Ob s H "FewBits" b) (as rest : List Value) (hn : as.length = 1) : ∀ T, T.heap = H → Stand p l e R s m args below meth c T locs cells slots → mx_Inv p l e R s m args below meth c T locs cells slots (F0 m 2 ls (as.reverse ++ .ref b :: rest)) (F0 m 2 ls rest) y_F_filterAt (.ref b :: as) := fun T hT X => mx_invV X hT hx hown (G.1.at 271 rfl rfl _ hW) (G.1.at 273 rfl rfl _ hW) (G.1.sel 2 rfl _ hW) (G.1.at 274 rfl rfl _ hW) ⟨⟨by decide, by decide⟩, by decide +kernel⟩ hob rfl hn rfl (by rw [hb]; exact d_F_has_2)
set_option maxRecDepth 20000 in
theorem iv_F_has_6_C {l : Launch} {s0 : State} {D : va_G} {cI cF cJ : ClassId} (G : Gx l s0 D cI cF cJ) {p : Program} {e : Env} {R : Room} {s : State} {m : MethodId} {args : Array Value} {below : List Frame} {meth : Method} {c : Code} {H : Heap} {locs : List Loc} {cells slots : Nat} {ls : Array Slot} (hx : p.tables.exec = Jvm.exec) (hb : c.code = b_F_has) (hown : s.vm.findClass "FewBits" = some m.cls) (hW : s0.WarmedH s.vm) {b : Nat} (hob : mx_Ob s H "FewBits$Counters" b) (as rest : List Value) (hn : as.length = 1) : ∀ T, T.heap = H → Stand p l e R s m args below meth c T locs cells slots → mx_Inv p l e R s m args below meth c T locs cells slots (F0 m 6 ls (as.reverse ++ .ref b :: rest)) (F0 m 6 ls rest) y_C_holds (.ref b :: as) := fun T hT X => mx_invU X hT hx (owner := "FewBits$Filter") (x := ⟨"FewBits$Filter", "holds", "(J)Z"⟩) hown (G.1.at 469 rfl rfl _ hW) (G.1.at 471 rfl rfl _ hW) (va_Decl.abs (va_Nw.warmD hW (G.1.nw 470 rfl rfl))) ⟨by decide, by decide⟩ (G.1.at 475 rfl rfl _ hW) (G.1.at 476 rfl rfl _ hW) ⟨⟨by decide, by decide⟩, by decide +kernel⟩ hob rfl hn rfl (by rw [hb]; exact d_F_has_6)
set_option maxRecDepth 20000 in
theorem iv_F_has_6_B {l : Launch} {s0 : State} {D : va_G} {cI cF cJ : ClassId} (G : Gx l s0 D cI cF cJ) {p : Program} {e : Env} {R : Room} {s : State} {m : MethodId} {args : Array Value} {below : List Frame} {meth : Method} {c : Code} {H : Heap} {locs : List Loc} {cells slots : Nat} {ls : Array Slot} (hx : p.tables.exec = Jvm.exec) (hb : c.code = b_F_has) (hown : s.vm.findClass "FewBits" = some m.cls) (hW : s0.WarmedH s.vm) {b : Nat} (hob : mx_Ob s H "FewBits$Buckets" b) (as rest : List Value) (hn : as.length = 1) : ∀ T, T.heap = H → Stand p l e R s m args below meth c T locs cells slots → mx_Inv p l e R s m args below meth c T locs cells slots (F0 m 6 ls (as.reverse ++ .ref b :: rest)) (F0 m 6 ls rest) y_B_holds (.ref b :: as) := fun T hT X => mx_invU X hT hx (owner := "FewBits$Filter") (x := ⟨"FewBits$Filter", "holds", "(J)Z"⟩) hown (G.1.at 469 rfl rfl _ hW) (G.1.at 471 rfl rfl _ hW) (va_Decl.abs (va_Nw.warmD hW (G.1.nw 470 rfl rfl))) ⟨by decide, by decide⟩ (G.1.at 472 rfl rfl _ hW) (G.1.at 473 rfl rfl _ hW) ⟨⟨by decide, by decide⟩, by decide +kernel⟩ hob rfl hn rfl (by rw [hb]; exact d_F_has_6)
set_option maxRecDepth 20000 in
theorem iv_F_has_6_R {l : Launch} {s0 : State} {D : va_G} {cI cF cJ : ClassId} (G : Gx l s0 D cI cF cJ) {p : Program} {e : Env} {R : Room} {s : State} {m : MethodId} {args : Array Value} {below : List Frame} {meth : Method} {c : Code} {H : Heap} {locs : List Loc} {cells slots : Nat} {ls : Array Slot} (hx : p.tables.exec = Jvm.exec) (hb : c.code = b_F_has) (hown : s.vm.findClass "FewBits" = some m.cls) (hW : s0.WarmedH s.vm) {b : Nat} (hob : mx_Ob s H "FewBits$Runs" b) (as rest : List Value) (hn : as.length = 1) : ∀ T, T.heap = H → Stand p l e R s m args below meth c T locs cells slots → mx_Inv p l e R s m args below meth c T locs cells slots (F0 m 6 ls (as.reverse ++ .ref b :: rest)) (F0 m 6 ls rest) y_R_holds (.ref b :: as) := fun T hT X => mx_invU X hT hx (owner := "FewBits$Filter") (x := ⟨"FewBits$Filter", "holds", "(J)Z"⟩) hown (G.1.at 469 rfl rfl _ hW) (G.1.at 471 rfl rfl _ hW) (va_Decl.abs (va_Nw.warmD hW (G.1.nw 470 rfl rfl))) ⟨by decide, by decide⟩ (G.1.at 478 rfl rfl _ hW) (G.1.at 479 rfl rfl _ hW) ⟨⟨by decide, by decide⟩, by decide +kernel⟩ hob rfl hn rfl (by rw [hb]; exact d_F_has_6)
set_option maxRecDepth 20000 in
theorem iv_F_hasAll_2 {l : Launch} {s0 : State} {D : va_G} {cI cF cJ : ClassId} (G : Gx l s0 D cI cF cJ) {p : Program} {e : Env} {R : Room} {s : State} {m : MethodId} {args : Array Value} {below : List Frame} {meth : Method} {c : Code} {H : Heap} {locs : List Loc} {cells slots : Nat} {ls : Array Slot} (hx : p.tables.exec = Jvm.exec) (hb : c.code = b_F_hasAll) (hown : s.vm.findClass "FewBits" = some m.cls) (hW : s0.WarmedH s.vm) {b : Nat} (hob : mx_Ob s H "FewBits" b) (as rest : List Value) (hn : as.length = 1) : ∀ T, T.heap = H → Stand p l e R s m args below meth c T locs cells slots → mx_Inv p l e R s m args below meth c T locs cells slots (F0 m 2 ls (as.reverse ++ .ref b :: rest)) (F0 m 2 ls rest) y_F_filterAt (.ref b :: as) := fun T hT X => mx_invV X hT hx hown (G.1.at 271 rfl rfl _ hW) (G.1.at 273 rfl rfl _ hW) (G.1.sel 2 rfl _ hW) (G.1.at 274 rfl rfl _ hW) ⟨⟨by decide, by decide⟩, by decide +kernel⟩ hob rfl hn rfl (by rw [hb]; exact d_F_hasAll_2)
set_option maxRecDepth 20000 in
theorem iv_F_hasAll_9 {l : Launch} {s0 : State} {D : va_G} {cI cF cJ : ClassId} (G : Gx l s0 D cI cF cJ) {p : Program} {e : Env} {R : Room} {s : State} {m : MethodId} {args : Array Value} {below : List Frame} {meth : Method} {c : Code} {H : Heap} {locs : List Loc} {cells slots : Nat} {ls : Array Slot} (hx : p.tables.exec = Jvm.exec) (hb : c.code = b_F_hasAll) (hown : s.vm.findClass "FewBits" = some m.cls) (hW : s0.WarmedH s.vm) (as rest : List Value) (hn : as.length = 1) : ∀ T, T.heap = H → Stand p l e R s m args below meth c T locs cells slots → mx_Inv p l e R s m args below meth c T locs cells slots (F0 m 9 ls (as.reverse ++ rest)) (F0 m 9 ls rest) y_F_requireItems as := fun T hT X => mx_invS X hx hown (G.1.at 411 rfl rfl _ hW) (G.1.at 412 rfl rfl _ hW) (G.1.at 1 rfl rfl _ hW) (G.1.at 413 rfl rfl _ hW) ⟨⟨by decide, by decide⟩, by decide +kernel⟩ rfl hn rfl (by rw [hb]; exact d_F_hasAll_9)
set_option maxRecDepth 20000 in
theorem iv_F_hasAll_32_C {l : Launch} {s0 : State} {D : va_G} {cI cF cJ : ClassId} (G : Gx l s0 D cI cF cJ) {p : Program} {e : Env} {R : Room} {s : State} {m : MethodId} {args : Array Value} {below : List Frame} {meth : Method} {c : Code} {H : Heap} {locs : List Loc} {cells slots : Nat} {ls : Array Slot} (hx : p.tables.exec = Jvm.exec) (hb : c.code = b_F_hasAll) (hown : s.vm.findClass "FewBits" = some m.cls) (hW : s0.WarmedH s.vm) {b : Nat} (hob : mx_Ob s H "FewBits$Counters" b) (as rest : List Value) (hn : as.length = 1) : ∀ T, T.heap = H → Stand p l e R s m args below meth c T locs cells slots → mx_Inv p l e R s m args below meth c T locs cells slots (F0 m 32 ls (as.reverse ++ .ref b :: rest)) (F0 m 32 ls rest) y_C_holds (.ref b :: as) := fun T hT X => mx_invU X hT hx (owner := "FewBits$Filter") (x := ⟨"FewBits$Filter", "holds", "(J)Z"⟩) hown (G.1.at 469 rfl rfl _ hW) (G.1.at 471 rfl rfl _ hW) (va_Decl.abs (va_Nw.warmD hW (G.1.nw 470 rfl rfl))) ⟨by decide, by decide⟩ (G.1.at 475 rfl rfl _ hW) (G.1.at 476 rfl rfl _ hW) ⟨⟨by decide, by decide⟩, by decide +kernel⟩ hob rfl hn rfl (by rw [hb]; exact d_F_hasAll_32)
set_option maxRecDepth 20000 in
theorem iv_F_hasAll_32_B {l : Launch} {s0 : State} {D : va_G} {cI cF cJ : ClassId} (G : Gx l s0 D cI cF cJ) {p : Program} {e : Env} {R : Room} {s : State} {m : MethodId} {args : Array Value} {below : List Frame} {meth : Method} {c : Code} {H : Heap} {locs : List Loc} {cells slots : Nat} {ls : Array Slot} (hx : p.tables.exec = Jvm.exec) (hb : c.code = b_F_hasAll) (hown : s.vm.findClass "FewBits" = some m.cls) (hW : s0.WarmedH s.vm) {b : Nat} (hob : mx_Ob s H "FewBits$Buckets" b) (as rest : List Value) (hn : as.length = 1) : ∀ T, T.heap = H → Stand p l e R s m args below meth c T locs cells slots → mx_Inv p l e R s m args below meth c T locs cells slots (F0 m 32 ls (as.reverse ++ .ref b :: rest)) (F0 m 32 ls rest) y_B_holds (.ref b :: as) := fun T hT X => mx_invU X hT hx (owner := "FewBits$Filter") (x := ⟨"FewBits$Filter", "holds", "(J)Z"⟩) hown (G.1.at 469 rfl rfl _ hW) (G.1.at 471 rfl rfl _ hW) (va_Decl.abs (va_Nw.warmD hW (G.1.nw 470 rfl rfl))) ⟨by decide, by decide⟩ (G.1.at 472 rfl rfl _ hW) (G.1.at 473 rfl rfl _ hW) ⟨⟨by decide, by decide⟩, by decide +kernel⟩ hob rfl hn rfl (by rw [hb]; exact d_F_hasAll_32)
set_option maxRecDepth 20000 in
theorem iv_F_hasAll_32_R {l : Launch} {s0 : State} {D : va_G} {cI cF cJ : ClassId} (G : Gx l s0 D cI cF cJ) {p : Program} {e : Env} {R : Room} {s : State} {m : MethodId} {args : Array Value} {below : List Frame} {meth : Method} {c : Code} {H : Heap} {locs : List Loc} {cells slots : Nat} {ls : Array Slot} (hx : p.tables.exec = Jvm.exec) (hb : c.code = b_F_hasAll) (hown : s.vm.findClass "FewBits" = some m.cls) (hW : s0.WarmedH s.vm) {b : Nat} (hob : mx_Ob s H "FewBits$Runs" b) (as rest : List Value) (hn : as.length = 1) : ∀ T, T.heap = H → Stand p l e R s m args below meth c T locs cells slots → mx_Inv p l e R s m args below meth c T locs cells slots (F0 m 32 ls (as.reverse ++ .ref b :: rest)) (F0 m 32 ls rest) y_R_holds (.ref b :: as) := fun T hT X => mx_invU X hT hx (owner := "FewBits$Filter") (x := ⟨"FewBits$Filter", "holds", "(J)Z"⟩) hown (G.1.at 469 rfl rfl _ hW) (G.1.at 471 rfl rfl _ hW) (va_Decl.abs (va_Nw.warmD hW (G.1.nw 470 rfl rfl))) ⟨by decide, by decide⟩ (G.1.at 478 rfl rfl _ hW) (G.1.at 479 rfl rfl _ hW) ⟨⟨by decide, by decide⟩, by decide +kernel⟩ hob rfl hn rfl (by rw [hb]; exact d_F_hasAll_32)
set_option maxRecDepth 20000 in
theorem iv_F_same_2 {l : Launch} {s0 : State} {D : va_G} {cI cF cJ : ClassId} (G : Gx l s0 D cI cF cJ) {p : Program} {e : Env} {R : Room} {s : State} {m : MethodId} {args : Array Value} {below : List Frame} {meth : Method} {c : Code} {H : Heap} {locs : List Loc} {cells slots : Nat} {ls : Array Slot} (hx : p.tables.exec = Jvm.exec) (hb : c.code = b_F_same) (hown : s.vm.findClass "FewBits" = some m.cls) (hW : s0.WarmedH s.vm) {b : Nat} (hob : mx_Ob s H "FewBits" b) (as rest : List Value) (hn : as.length = 1) : ∀ T, T.heap = H → Stand p l e R s m args below meth c T locs cells slots → mx_Inv p l e R s m args below meth c T locs cells slots (F0 m 2 ls (as.reverse ++ .ref b :: rest)) (F0 m 2 ls rest) y_F_filterAt (.ref b :: as) := fun T hT X => mx_invV X hT hx hown (G.1.at 271 rfl rfl _ hW) (G.1.at 273 rfl rfl _ hW) (G.1.sel 2 rfl _ hW) (G.1.at 274 rfl rfl _ hW) ⟨⟨by decide, by decide⟩, by decide +kernel⟩ hob rfl hn rfl (by rw [hb]; exact d_F_same_2)
set_option maxRecDepth 20000 in
theorem iv_F_same_8_C {l : Launch} {s0 : State} {D : va_G} {cI cF cJ : ClassId} (G : Gx l s0 D cI cF cJ) {p : Program} {e : Env} {R : Room} {s : State} {m : MethodId} {args : Array Value} {below : List Frame} {meth : Method} {c : Code} {H : Heap} {locs : List Loc} {cells slots : Nat} {ls : Array Slot} (hx : p.tables.exec = Jvm.exec) (hb : c.code = b_F_same) (hown : s.vm.findClass "FewBits" = some m.cls) (hW : s0.WarmedH s.vm) {b : Nat} (hob : mx_Ob s H "FewBits$Counters" b) (as rest : List Value) (hn : as.length = 2) : ∀ T, T.heap = H → Stand p l e R s m args below meth c T locs cells slots → mx_Inv p l e R s m args below meth c T locs cells slots (F0 m 8 ls (as.reverse ++ .ref b :: rest)) (F0 m 8 ls rest) y_C_looksAlike (.ref b :: as) := fun T hT X => mx_invU X hT hx (owner := "FewBits$Filter") (x := ⟨"FewBits$Filter", "looksAlike", "(JJ)Z"⟩) hown (G.1.at 495 rfl rfl _ hW) (G.1.at 497 rfl rfl _ hW) (va_Decl.abs (va_Nw.warmD hW (G.1.nw 496 rfl rfl))) ⟨by decide, by decide⟩ (G.1.at 501 rfl rfl _ hW) (G.1.at 502 rfl rfl _ hW) ⟨⟨by decide, by decide⟩, by decide +kernel⟩ hob rfl hn rfl (by rw [hb]; exact d_F_same_8)
set_option maxRecDepth 20000 in
theorem iv_F_same_8_B {l : Launch} {s0 : State} {D : va_G} {cI cF cJ : ClassId} (G : Gx l s0 D cI cF cJ) {p : Program} {e : Env} {R : Room} {s : State} {m : MethodId} {args : Array Value} {below : List Frame} {meth : Method} {c : Code} {H : Heap} {locs : List Loc} {cells slots : Nat} {ls : Array Slot} (hx : p.tables.exec = Jvm.exec) (hb : c.code = b_F_same) (hown : s.vm.findClass "FewBits" = some m.cls) (hW : s0.WarmedH s.vm) {b : Nat} (hob : mx_Ob s H "FewBits$Buckets" b) (as rest : List Value) (hn : as.length = 2) : ∀ T, T.heap = H → Stand p l e R s m args below meth c T locs cells slots → mx_Inv p l e R s m args below meth c T locs cells slots (F0 m 8 ls (as.reverse ++ .ref b :: rest)) (F0 m 8 ls rest) y_B_looksAlike (.ref b :: as) := fun T hT X => mx_invU X hT hx (owner := "FewBits$Filter") (x := ⟨"FewBits$Filter", "looksAlike", "(JJ)Z"⟩) hown (G.1.at 495 rfl rfl _ hW) (G.1.at 497 rfl rfl _ hW) (va_Decl.abs (va_Nw.warmD hW (G.1.nw 496 rfl rfl))) ⟨by decide, by decide⟩ (G.1.at 498 rfl rfl _ hW) (G.1.at 499 rfl rfl _ hW) ⟨⟨by decide, by decide⟩, by decide +kernel⟩ hob rfl hn rfl (by rw [hb]; exact d_F_same_8)
set_option maxRecDepth 20000 in
theorem iv_F_same_8_R {l : Launch} {s0 : State} {D : va_G} {cI cF cJ : ClassId} (G : Gx l s0 D cI cF cJ) {p : Program} {e : Env} {R : Room} {s : State} {m : MethodId} {args : Array Value} {below : List Frame} {meth : Method} {c : Code} {H : Heap} {locs : List Loc} {cells slots : Nat} {ls : Array Slot} (hx : p.tables.exec = Jvm.exec) (hb : c.code = b_F_same) (hown : s.vm.findClass "FewBits" = some m.cls) (hW : s0.WarmedH s.vm) {b : Nat} (hob : mx_Ob s H "FewBits$Runs" b) (as rest : List Value) (hn : as.length = 2) : ∀ T, T.heap = H → Stand p l e R s m args below meth c T locs cells slots → mx_Inv p l e R s m args below meth c T locs cells slots (F0 m 8 ls (as.reverse ++ .ref b :: rest)) (F0 m 8 ls rest) y_R_looksAlike (.ref b :: as) := fun T hT X => mx_invU X hT hx (owner := "FewBits$Filter") (x := ⟨"FewBits$Filter", "looksAlike", "(JJ)Z"⟩) hown (G.1.at 495 rfl rfl _ hW) (G.1.at 497 rfl rfl _ hW) (va_Decl.abs (va_Nw.warmD hW (G.1.nw 496 rfl rfl))) ⟨by decide, by decide⟩ (G.1.at 504 rfl rfl _ hW) (G.1.at 505 rfl rfl _ hW) ⟨⟨by decide, by decide⟩, by decide +kernel⟩ hob rfl hn rfl (by rw [hb]; exact d_F_same_8)
set_option maxRecDepth 20000 in
theorem iv_F_count_2 {l : Launch} {s0 : State} {D : va_G} {cI cF cJ : ClassId} (G : Gx l s0 D cI cF cJ) {p : Program} {e : Env} {R : Room} {s : State} {m : MethodId} {args : Array Value} {below : List Frame} {meth : Method} {c : Code} {H : Heap} {locs : List Loc} {cells slots : Nat} {ls : Array Slot} (hx : p.tables.exec = Jvm.exec) (hb : c.code = b_F_count) (hown : s.vm.findClass "FewBits" = some m.cls) (hW : s0.WarmedH s.vm) {b : Nat} (hob : mx_Ob s H "FewBits" b) (as rest : List Value) (hn : as.length = 1) : ∀ T, T.heap = H → Stand p l e R s m args below meth c T locs cells slots → mx_Inv p l e R s m args below meth c T locs cells slots (F0 m 2 ls (as.reverse ++ .ref b :: rest)) (F0 m 2 ls rest) y_F_filterAt (.ref b :: as) := fun T hT X => mx_invV X hT hx hown (G.1.at 271 rfl rfl _ hW) (G.1.at 273 rfl rfl _ hW) (G.1.sel 2 rfl _ hW) (G.1.at 274 rfl rfl _ hW) ⟨⟨by decide, by decide⟩, by decide +kernel⟩ hob rfl hn rfl (by rw [hb]; exact d_F_count_2)
set_option maxRecDepth 20000 in
theorem iv_F_count_45_C {l : Launch} {s0 : State} {D : va_G} {cI cF cJ : ClassId} (G : Gx l s0 D cI cF cJ) {p : Program} {e : Env} {R : Room} {s : State} {m : MethodId} {args : Array Value} {below : List Frame} {meth : Method} {c : Code} {H : Heap} {locs : List Loc} {cells slots : Nat} {ls : Array Slot} (hx : p.tables.exec = Jvm.exec) (hb : c.code = b_F_count) (hown : s.vm.findClass "FewBits" = some m.cls) (hW : s0.WarmedH s.vm) {b : Nat} (hob : mx_Ob s H "FewBits$Counters" b) (as rest : List Value) (hn : as.length = 0) : ∀ T, T.heap = H → Stand p l e R s m args below meth c T locs cells slots → mx_Inv p l e R s m args below meth c T locs cells slots (F0 m 45 ls (as.reverse ++ .ref b :: rest)) (F0 m 45 ls rest) y_C_kind (.ref b :: as) := fun T hT X => mx_invU X hT hx (owner := "FewBits$Filter") (x := ⟨"FewBits$Filter", "kind", "()I"⟩) hown (G.1.at 514 rfl rfl _ hW) (G.1.at 516 rfl rfl _ hW) (va_Decl.abs (va_Nw.warmD hW (G.1.nw 515 rfl rfl))) ⟨by decide, by decide⟩ (G.1.at 520 rfl rfl _ hW) (G.1.at 521 rfl rfl _ hW) ⟨⟨by decide, by decide⟩, by decide +kernel⟩ hob rfl hn rfl (by rw [hb]; exact d_F_count_45)
set_option maxRecDepth 20000 in
theorem iv_F_count_45_B {l : Launch} {s0 : State} {D : va_G} {cI cF cJ : ClassId} (G : Gx l s0 D cI cF cJ) {p : Program} {e : Env} {R : Room} {s : State} {m : MethodId} {args : Array Value} {below : List Frame} {meth : Method} {c : Code} {H : Heap} {locs : List Loc} {cells slots : Nat} {ls : Array Slot} (hx : p.tables.exec = Jvm.exec) (hb : c.code = b_F_count) (hown : s.vm.findClass "FewBits" = some m.cls) (hW : s0.WarmedH s.vm) {b : Nat} (hob : mx_Ob s H "FewBits$Buckets" b) (as rest : List Value) (hn : as.length = 0) : ∀ T, T.heap = H → Stand p l e R s m args below meth c T locs cells slots → mx_Inv p l e R s m args below meth c T locs cells slots (F0 m 45 ls (as.reverse ++ .ref b :: rest)) (F0 m 45 ls rest) y_B_kind (.ref b :: as) := fun T hT X => mx_invU X hT hx (owner := "FewBits$Filter") (x := ⟨"FewBits$Filter", "kind", "()I"⟩) hown (G.1.at 514 rfl rfl _ hW) (G.1.at 516 rfl rfl _ hW) (va_Decl.abs (va_Nw.warmD hW (G.1.nw 515 rfl rfl))) ⟨by decide, by decide⟩ (G.1.at 517 rfl rfl _ hW) (G.1.at 518 rfl rfl _ hW) ⟨⟨by decide, by decide⟩, by decide +kernel⟩ hob rfl hn rfl (by rw [hb]; exact d_F_count_45)
set_option maxRecDepth 20000 in
theorem iv_F_count_45_R {l : Launch} {s0 : State} {D : va_G} {cI cF cJ : ClassId} (G : Gx l s0 D cI cF cJ) {p : Program} {e : Env} {R : Room} {s : State} {m : MethodId} {args : Array Value} {below : List Frame} {meth : Method} {c : Code} {H : Heap} {locs : List Loc} {cells slots : Nat} {ls : Array Slot} (hx : p.tables.exec = Jvm.exec) (hb : c.code = b_F_count) (hown : s.vm.findClass "FewBits" = some m.cls) (hW : s0.WarmedH s.vm) {b : Nat} (hob : mx_Ob s H "FewBits$Runs" b) (as rest : List Value) (hn : as.length = 0) : ∀ T, T.heap = H → Stand p l e R s m args below meth c T locs cells slots → mx_Inv p l e R s m args below meth c T locs cells slots (F0 m 45 ls (as.reverse ++ .ref b :: rest)) (F0 m 45 ls rest) y_R_kind (.ref b :: as) := fun T hT X => mx_invU X hT hx (owner := "FewBits$Filter") (x := ⟨"FewBits$Filter", "kind", "()I"⟩) hown (G.1.at 514 rfl rfl _ hW) (G.1.at 516 rfl rfl _ hW) (va_Decl.abs (va_Nw.warmD hW (G.1.nw 515 rfl rfl))) ⟨by decide, by decide⟩ (G.1.at 523 rfl rfl _ hW) (G.1.at 524 rfl rfl _ hW) ⟨⟨by decide, by decide⟩, by decide +kernel⟩ hob rfl hn rfl (by rw [hb]; exact d_F_count_45)
set_option maxRecDepth 20000 in
theorem iv_F_count_65_C {l : Launch} {s0 : State} {D : va_G} {cI cF cJ : ClassId} (G : Gx l s0 D cI cF cJ) {p : Program} {e : Env} {R : Room} {s : State} {m : MethodId} {args : Array Value} {below : List Frame} {meth : Method} {c : Code} {H : Heap} {locs : List Loc} {cells slots : Nat} {ls : Array Slot} (hx : p.tables.exec = Jvm.exec) (hb : c.code = b_F_count) (hown : s.vm.findClass "FewBits" = some m.cls) (hW : s0.WarmedH s.vm) {b : Nat} (hob : mx_Ob s H "FewBits$Counters" b) (as rest : List Value) (hn : as.length = 0) : ∀ T, T.heap = H → Stand p l e R s m args below meth c T locs cells slots → mx_Inv p l e R s m args below meth c T locs cells slots (F0 m 65 ls (as.reverse ++ .ref b :: rest)) (F0 m 65 ls rest) y_C_filledCells (.ref b :: as) := fun T hT X => mx_invU X hT hx (owner := "FewBits$Filter") (x := y_P_filledCells) hown (G.1.at 526 rfl rfl _ hW) (G.1.at 528 rfl rfl _ hW) (va_Decl.of (args := args) (G.1.at 527 rfl rfl _ hW) (G.1.at 537 rfl rfl _ hW)) ⟨by decide, by decide⟩ (G.1.at 530 rfl rfl _ hW) (G.1.at 531 rfl rfl _ hW) ⟨⟨by decide, by decide⟩, by decide +kernel⟩ hob rfl hn rfl (by rw [hb]; exact d_F_count_65)
set_option maxRecDepth 20000 in
theorem iv_F_count_65_B {l : Launch} {s0 : State} {D : va_G} {cI cF cJ : ClassId} (G : Gx l s0 D cI cF cJ) {p : Program} {e : Env} {R : Room} {s : State} {m : MethodId} {args : Array Value} {below : List Frame} {meth : Method} {c : Code} {H : Heap} {locs : List Loc} {cells slots : Nat} {ls : Array Slot} (hx : p.tables.exec = Jvm.exec) (hb : c.code = b_F_count) (hown : s.vm.findClass "FewBits" = some m.cls) (hW : s0.WarmedH s.vm) {b : Nat} (hob : mx_Ob s H "FewBits$Buckets" b) (as rest : List Value) (hn : as.length = 0) : ∀ T, T.heap = H → Stand p l e R s m args below meth c T locs cells slots → mx_Inv p l e R s m args below meth c T locs cells slots (F0 m 65 ls (as.reverse ++ .ref b :: rest)) (F0 m 65 ls rest) y_P_filledCells (.ref b :: as) := fun T hT X => mx_invU X hT hx (owner := "FewBits$Filter") (x := y_P_filledCells) hown (G.1.at 526 rfl rfl _ hW) (G.1.at 528 rfl rfl _ hW) (va_Decl.of (args := args) (G.1.at 527 rfl rfl _ hW) (G.1.at 537 rfl rfl _ hW)) ⟨by decide, by decide⟩ (G.1.at 529 rfl rfl _ hW) (G.1.at 527 rfl rfl _ hW) ⟨⟨by decide, by decide⟩, by decide +kernel⟩ hob rfl hn rfl (by rw [hb]; exact d_F_count_65)
set_option maxRecDepth 20000 in
theorem iv_F_count_65_R {l : Launch} {s0 : State} {D : va_G} {cI cF cJ : ClassId} (G : Gx l s0 D cI cF cJ) {p : Program} {e : Env} {R : Room} {s : State} {m : MethodId} {args : Array Value} {below : List Frame} {meth : Method} {c : Code} {H : Heap} {locs : List Loc} {cells slots : Nat} {ls : Array Slot} (hx : p.tables.exec = Jvm.exec) (hb : c.code = b_F_count) (hown : s.vm.findClass "FewBits" = some m.cls) (hW : s0.WarmedH s.vm) {b : Nat} (hob : mx_Ob s H "FewBits$Runs" b) (as rest : List Value) (hn : as.length = 0) : ∀ T, T.heap = H → Stand p l e R s m args below meth c T locs cells slots → mx_Inv p l e R s m args below meth c T locs cells slots (F0 m 65 ls (as.reverse ++ .ref b :: rest)) (F0 m 65 ls rest) y_P_filledCells (.ref b :: as) := fun T hT X => mx_invU X hT hx (owner := "FewBits$Filter") (x := y_P_filledCells) hown (G.1.at 526 rfl rfl _ hW) (G.1.at 528 rfl rfl _ hW) (va_Decl.of (args := args) (G.1.at 527 rfl rfl _ hW) (G.1.at 537 rfl rfl _ hW)) ⟨by decide, by decide⟩ (G.1.at 536 rfl rfl _ hW) (G.1.at 527 rfl rfl _ hW) ⟨⟨by decide, by decide⟩, by decide +kernel⟩ hob rfl hn rfl (by rw [hb]; exact d_F_count_65)
set_option maxRecDepth 20000 in
theorem iv_F_count_70_C {l : Launch} {s0 : State} {D : va_G} {cI cF cJ : ClassId} (G : Gx l s0 D cI cF cJ) {p : Program} {e : Env} {R : Room} {s : State} {m : MethodId} {args : Array Value} {below : List Frame} {meth : Method} {c : Code} {H : Heap} {locs : List Loc} {cells slots : Nat} {ls : Array Slot} (hx : p.tables.exec = Jvm.exec) (hb : c.code = b_F_count) (hown : s.vm.findClass "FewBits" = some m.cls) (hW : s0.WarmedH s.vm) {b : Nat} (hob : mx_Ob s H "FewBits$Counters" b) (as rest : List Value) (hn : as.length = 0) : ∀ T, T.heap = H → Stand p l e R s m args below meth c T locs cells slots → mx_Inv p l e R s m args below meth c T locs cells slots (F0 m 70 ls (as.reverse ++ .ref b :: rest)) (F0 m 70 ls rest) y_C_strain (.ref b :: as) := fun T hT X => mx_invU X hT hx (owner := "FewBits$Filter") (x := ⟨"FewBits$Filter", "strain", "()I"⟩) hown (G.1.at 538 rfl rfl _ hW) (G.1.at 540 rfl rfl _ hW) (va_Decl.abs (va_Nw.warmD hW (G.1.nw 539 rfl rfl))) ⟨by decide, by decide⟩ (G.1.at 544 rfl rfl _ hW) (G.1.at 545 rfl rfl _ hW) ⟨⟨by decide, by decide⟩, by decide +kernel⟩ hob rfl hn rfl (by rw [hb]; exact d_F_count_70)
set_option maxRecDepth 20000 in
theorem iv_F_count_70_B {l : Launch} {s0 : State} {D : va_G} {cI cF cJ : ClassId} (G : Gx l s0 D cI cF cJ) {p : Program} {e : Env} {R : Room} {s : State} {m : MethodId} {args : Array Value} {below : List Frame} {meth : Method} {c : Code} {H : Heap} {locs : List Loc} {cells slots : Nat} {ls : Array Slot} (hx : p.tables.exec = Jvm.exec) (hb : c.code = b_F_count) (hown : s.vm.findClass "FewBits" = some m.cls) (hW : s0.WarmedH s.vm) {b : Nat} (hob : mx_Ob s H "FewBits$Buckets" b) (as rest : List Value) (hn : as.length = 0) : ∀ T, T.heap = H → Stand p l e R s m args below meth c T locs cells slots → mx_Inv p l e R s m args below meth c T locs cells slots (F0 m 70 ls (as.reverse ++ .ref b :: rest)) (F0 m 70 ls rest) y_B_strain (.ref b :: as) := fun T hT X => mx_invU X hT hx (owner := "FewBits$Filter") (x := ⟨"FewBits$Filter", "strain", "()I"⟩) hown (G.1.at 538 rfl rfl _ hW) (G.1.at 540 rfl rfl _ hW) (va_Decl.abs (va_Nw.warmD hW (G.1.nw 539 rfl rfl))) ⟨by decide, by decide⟩ (G.1.at 541 rfl rfl _ hW) (G.1.at 542 rfl rfl _ hW) ⟨⟨by decide, by decide⟩, by decide +kernel⟩ hob rfl hn rfl (by rw [hb]; exact d_F_count_70)
set_option maxRecDepth 20000 in
theorem iv_F_count_70_R {l : Launch} {s0 : State} {D : va_G} {cI cF cJ : ClassId} (G : Gx l s0 D cI cF cJ) {p : Program} {e : Env} {R : Room} {s : State} {m : MethodId} {args : Array Value} {below : List Frame} {meth : Method} {c : Code} {H : Heap} {locs : List Loc} {cells slots : Nat} {ls : Array Slot} (hx : p.tables.exec = Jvm.exec) (hb : c.code = b_F_count) (hown : s.vm.findClass "FewBits" = some m.cls) (hW : s0.WarmedH s.vm) {b : Nat} (hob : mx_Ob s H "FewBits$Runs" b) (as rest : List Value) (hn : as.length = 0) : ∀ T, T.heap = H → Stand p l e R s m args below meth c T locs cells slots → mx_Inv p l e R s m args below meth c T locs cells slots (F0 m 70 ls (as.reverse ++ .ref b :: rest)) (F0 m 70 ls rest) y_R_strain (.ref b :: as) := fun T hT X => mx_invU X hT hx (owner := "FewBits$Filter") (x := ⟨"FewBits$Filter", "strain", "()I"⟩) hown (G.1.at 538 rfl rfl _ hW) (G.1.at 540 rfl rfl _ hW) (va_Decl.abs (va_Nw.warmD hW (G.1.nw 539 rfl rfl))) ⟨by decide, by decide⟩ (G.1.at 550 rfl rfl _ hW) (G.1.at 551 rfl rfl _ hW) ⟨⟨by decide, by decide⟩, by decide +kernel⟩ hob rfl hn rfl (by rw [hb]; exact d_F_count_70)
set_option maxRecDepth 20000 in
theorem iv_F_cell_1 {l : Launch} {s0 : State} {D : va_G} {cI cF cJ : ClassId} (G : Gx l s0 D cI cF cJ) {p : Program} {e : Env} {R : Room} {s : State} {m : MethodId} {args : Array Value} {below : List Frame} {meth : Method} {c : Code} {H : Heap} {locs : List Loc} {cells slots : Nat} {ls : Array Slot} (hx : p.tables.exec = Jvm.exec) (hb : c.code = b_F_cell) (hown : s.vm.findClass "FewBits" = some m.cls) (hW : s0.WarmedH s.vm) (as rest : List Value) (hn : as.length = 1) : ∀ T, T.heap = H → Stand p l e R s m args below meth c T locs cells slots → mx_Inv p l e R s m args below meth c T locs cells slots (F0 m 1 ls (as.reverse ++ rest)) (F0 m 1 ls rest) y_F_isNumber as := fun T hT X => mx_invS X hx hown (G.1.at 57 rfl rfl _ hW) (G.1.at 58 rfl rfl _ hW) (G.1.at 1 rfl rfl _ hW) (G.1.at 59 rfl rfl _ hW) ⟨⟨by decide, by decide⟩, by decide +kernel⟩ rfl hn rfl (by rw [hb]; exact d_F_cell_1)
set_option maxRecDepth 20000 in
theorem iv_F_cell_39_C {l : Launch} {s0 : State} {D : va_G} {cI cF cJ : ClassId} (G : Gx l s0 D cI cF cJ) {p : Program} {e : Env} {R : Room} {s : State} {m : MethodId} {args : Array Value} {below : List Frame} {meth : Method} {c : Code} {H : Heap} {locs : List Loc} {cells slots : Nat} {ls : Array Slot} (hx : p.tables.exec = Jvm.exec) (hb : c.code = b_F_cell) (hown : s.vm.findClass "FewBits" = some m.cls) (hW : s0.WarmedH s.vm) {b : Nat} (hob : mx_Ob s H "FewBits$Counters" b) (as rest : List Value) (hn : as.length = 0) : ∀ T, T.heap = H → Stand p l e R s m args below meth c T locs cells slots → mx_Inv p l e R s m args below meth c T locs cells slots (F0 m 39 ls (as.reverse ++ .ref b :: rest)) (F0 m 39 ls rest) y_P_cells (.ref b :: as) := fun T hT X => mx_invU X hT hx (owner := "FewBits$Filter") (x := y_P_cells) hown (G.1.at 578 rfl rfl _ hW) (G.1.at 580 rfl rfl _ hW) (va_Decl.of (args := args) (G.1.at 579 rfl rfl _ hW) (G.1.at 589 rfl rfl _ hW)) ⟨by decide, by decide⟩ (G.1.at 587 rfl rfl _ hW) (G.1.at 579 rfl rfl _ hW) ⟨⟨by decide, by decide⟩, by decide +kernel⟩ hob rfl hn rfl (by rw [hb]; exact d_F_cell_39)
set_option maxRecDepth 20000 in
theorem iv_F_cell_39_B {l : Launch} {s0 : State} {D : va_G} {cI cF cJ : ClassId} (G : Gx l s0 D cI cF cJ) {p : Program} {e : Env} {R : Room} {s : State} {m : MethodId} {args : Array Value} {below : List Frame} {meth : Method} {c : Code} {H : Heap} {locs : List Loc} {cells slots : Nat} {ls : Array Slot} (hx : p.tables.exec = Jvm.exec) (hb : c.code = b_F_cell) (hown : s.vm.findClass "FewBits" = some m.cls) (hW : s0.WarmedH s.vm) {b : Nat} (hob : mx_Ob s H "FewBits$Buckets" b) (as rest : List Value) (hn : as.length = 0) : ∀ T, T.heap = H → Stand p l e R s m args below meth c T locs cells slots → mx_Inv p l e R s m args below meth c T locs cells slots (F0 m 39 ls (as.reverse ++ .ref b :: rest)) (F0 m 39 ls rest) y_B_cells (.ref b :: as) := fun T hT X => mx_invU X hT hx (owner := "FewBits$Filter") (x := y_P_cells) hown (G.1.at 578 rfl rfl _ hW) (G.1.at 580 rfl rfl _ hW) (va_Decl.of (args := args) (G.1.at 579 rfl rfl _ hW) (G.1.at 589 rfl rfl _ hW)) ⟨by decide, by decide⟩ (G.1.at 581 rfl rfl _ hW) (G.1.at 582 rfl rfl _ hW) ⟨⟨by decide, by decide⟩, by decide +kernel⟩ hob rfl hn rfl (by rw [hb]; exact d_F_cell_39)
set_option maxRecDepth 20000 in
theorem iv_F_cell_39_R {l : Launch} {s0 : State} {D : va_G} {cI cF cJ : ClassId} (G : Gx l s0 D cI cF cJ) {p : Program} {e : Env} {R : Room} {s : State} {m : MethodId} {args : Array Value} {below : List Frame} {meth : Method} {c : Code} {H : Heap} {locs : List Loc} {cells slots : Nat} {ls : Array Slot} (hx : p.tables.exec = Jvm.exec) (hb : c.code = b_F_cell) (hown : s.vm.findClass "FewBits" = some m.cls) (hW : s0.WarmedH s.vm) {b : Nat} (hob : mx_Ob s H "FewBits$Runs" b) (as rest : List Value) (hn : as.length = 0) : ∀ T, T.heap = H → Stand p l e R s m args below meth c T locs cells slots → mx_Inv p l e R s m args below meth c T locs cells slots (F0 m 39 ls (as.reverse ++ .ref b :: rest)) (F0 m 39 ls rest) y_P_cells (.ref b :: as) := fun T hT X => mx_invU X hT hx (owner := "FewBits$Filter") (x := y_P_cells) hown (G.1.at 578 rfl rfl _ hW) (G.1.at 580 rfl rfl _ hW) (va_Decl.of (args := args) (G.1.at 579 rfl rfl _ hW) (G.1.at 589 rfl rfl _ hW)) ⟨by decide, by decide⟩ (G.1.at 588 rfl rfl _ hW) (G.1.at 579 rfl rfl _ hW) ⟨⟨by decide, by decide⟩, by decide +kernel⟩ hob rfl hn rfl (by rw [hb]; exact d_F_cell_39)
set_option maxRecDepth 20000 in
theorem iv_F_cell_57_C {l : Launch} {s0 : State} {D : va_G} {cI cF cJ : ClassId} (G : Gx l s0 D cI cF cJ) {p : Program} {e : Env} {R : Room} {s : State} {m : MethodId} {args : Array Value} {below : List Frame} {meth : Method} {c : Code} {H : Heap} {locs : List Loc} {cells slots : Nat} {ls : Array Slot} (hx : p.tables.exec = Jvm.exec) (hb : c.code = b_F_cell) (hown : s.vm.findClass "FewBits" = some m.cls) (hW : s0.WarmedH s.vm) {b : Nat} (hob : mx_Ob s H "FewBits$Counters" b) (as rest : List Value) (hn : as.length = 1) : ∀ T, T.heap = H → Stand p l e R s m args below meth c T locs cells slots → mx_Inv p l e R s m args below meth c T locs cells slots (F0 m 57 ls (as.reverse ++ .ref b :: rest)) (F0 m 57 ls rest) y_C_look (.ref b :: as) := fun T hT X => mx_invU X hT hx (owner := "FewBits$Filter") (x := ⟨"FewBits$Filter", "look", "(I)I"⟩) hown (G.1.at 591 rfl rfl _ hW) (G.1.at 593 rfl rfl _ hW) (va_Decl.abs (va_Nw.warmD hW (G.1.nw 592 rfl rfl))) ⟨by decide, by decide⟩ (G.1.at 597 rfl rfl _ hW) (G.1.at 598 rfl rfl _ hW) ⟨⟨by decide, by decide⟩, by decide +kernel⟩ hob rfl hn rfl (by rw [hb]; exact d_F_cell_57)
set_option maxRecDepth 20000 in
theorem iv_F_cell_57_B {l : Launch} {s0 : State} {D : va_G} {cI cF cJ : ClassId} (G : Gx l s0 D cI cF cJ) {p : Program} {e : Env} {R : Room} {s : State} {m : MethodId} {args : Array Value} {below : List Frame} {meth : Method} {c : Code} {H : Heap} {locs : List Loc} {cells slots : Nat} {ls : Array Slot} (hx : p.tables.exec = Jvm.exec) (hb : c.code = b_F_cell) (hown : s.vm.findClass "FewBits" = some m.cls) (hW : s0.WarmedH s.vm) {b : Nat} (hob : mx_Ob s H "FewBits$Buckets" b) (as rest : List Value) (hn : as.length = 1) : ∀ T, T.heap = H → Stand p l e R s m args below meth c T locs cells slots → mx_Inv p l e R s m args below meth c T locs cells slots (F0 m 57 ls (as.reverse ++ .ref b :: rest)) (F0 m 57 ls rest) y_B_look (.ref b :: as) := fun T hT X => mx_invU X hT hx (owner := "FewBits$Filter") (x := ⟨"FewBits$Filter", "look", "(I)I"⟩) hown (G.1.at 591 rfl rfl _ hW) (G.1.at 593 rfl rfl _ hW) (va_Decl.abs (va_Nw.warmD hW (G.1.nw 592 rfl rfl))) ⟨by decide, by decide⟩ (G.1.at 594 rfl rfl _ hW) (G.1.at 595 rfl rfl _ hW) ⟨⟨by decide, by decide⟩, by decide +kernel⟩ hob rfl hn rfl (by rw [hb]; exact d_F_cell_57)
set_option maxRecDepth 20000 in
theorem iv_F_cell_57_R {l : Launch} {s0 : State} {D : va_G} {cI cF cJ : ClassId} (G : Gx l s0 D cI cF cJ) {p : Program} {e : Env} {R : Room} {s : State} {m : MethodId} {args : Array Value} {below : List Frame} {meth : Method} {c : Code} {H : Heap} {locs : List Loc} {cells slots : Nat} {ls : Array Slot} (hx : p.tables.exec = Jvm.exec) (hb : c.code = b_F_cell) (hown : s.vm.findClass "FewBits" = some m.cls) (hW : s0.WarmedH s.vm) {b : Nat} (hob : mx_Ob s H "FewBits$Runs" b) (as rest : List Value) (hn : as.length = 1) : ∀ T, T.heap = H → Stand p l e R s m args below meth c T locs cells slots → mx_Inv p l e R s m args below meth c T locs cells slots (F0 m 57 ls (as.reverse ++ .ref b :: rest)) (F0 m 57 ls rest) y_R_look (.ref b :: as) := fun T hT X => mx_invU X hT hx (owner := "FewBits$Filter") (x := ⟨"FewBits$Filter", "look", "(I)I"⟩) hown (G.1.at 591 rfl rfl _ hW) (G.1.at 593 rfl rfl _ hW) (va_Decl.abs (va_Nw.warmD hW (G.1.nw 592 rfl rfl))) ⟨by decide, by decide⟩ (G.1.at 600 rfl rfl _ hW) (G.1.at 601 rfl rfl _ hW) ⟨⟨by decide, by decide⟩, by decide +kernel⟩ hob rfl hn rfl (by rw [hb]; exact d_F_cell_57)
set_option maxRecDepth 20000 in
theorem iv_F_merge_1 {l : Launch} {s0 : State} {D : va_G} {cI cF cJ : ClassId} (G : Gx l s0 D cI cF cJ) {p : Program} {e : Env} {R : Room} {s : State} {m : MethodId} {args : Array Value} {below : List Frame} {meth : Method} {c : Code} {H : Heap} {locs : List Loc} {cells slots : Nat} {ls : Array Slot} (hx : p.tables.exec = Jvm.exec) (hb : c.code = b_F_merge) (hown : s.vm.findClass "FewBits" = some m.cls) (hW : s0.WarmedH s.vm) (as rest : List Value) (hn : as.length = 1) : ∀ T, T.heap = H → Stand p l e R s m args below meth c T locs cells slots → mx_Inv p l e R s m args below meth c T locs cells slots (F0 m 1 ls (as.reverse ++ rest)) (F0 m 1 ls rest) y_F_requireNumber as := fun T hT X => mx_invS X hx hown (G.1.at 54 rfl rfl _ hW) (G.1.at 55 rfl rfl _ hW) (G.1.at 1 rfl rfl _ hW) (G.1.at 56 rfl rfl _ hW) ⟨⟨by decide, by decide⟩, by decide +kernel⟩ rfl hn rfl (by rw [hb]; exact d_F_merge_1)
set_option maxRecDepth 20000 in
theorem iv_F_merge_5 {l : Launch} {s0 : State} {D : va_G} {cI cF cJ : ClassId} (G : Gx l s0 D cI cF cJ) {p : Program} {e : Env} {R : Room} {s : State} {m : MethodId} {args : Array Value} {below : List Frame} {meth : Method} {c : Code} {H : Heap} {locs : List Loc} {cells slots : Nat} {ls : Array Slot} (hx : p.tables.exec = Jvm.exec) (hb : c.code = b_F_merge) (hown : s.vm.findClass "FewBits" = some m.cls) (hW : s0.WarmedH s.vm) (as rest : List Value) (hn : as.length = 1) : ∀ T, T.heap = H → Stand p l e R s m args below meth c T locs cells slots → mx_Inv p l e R s m args below meth c T locs cells slots (F0 m 5 ls (as.reverse ++ rest)) (F0 m 5 ls rest) y_F_requireNumber as := fun T hT X => mx_invS X hx hown (G.1.at 54 rfl rfl _ hW) (G.1.at 55 rfl rfl _ hW) (G.1.at 1 rfl rfl _ hW) (G.1.at 56 rfl rfl _ hW) ⟨⟨by decide, by decide⟩, by decide +kernel⟩ rfl hn rfl (by rw [hb]; exact d_F_merge_5)
set_option maxRecDepth 20000 in
theorem iv_F_merge_10 {l : Launch} {s0 : State} {D : va_G} {cI cF cJ : ClassId} (G : Gx l s0 D cI cF cJ) {p : Program} {e : Env} {R : Room} {s : State} {m : MethodId} {args : Array Value} {below : List Frame} {meth : Method} {c : Code} {H : Heap} {locs : List Loc} {cells slots : Nat} {ls : Array Slot} (hx : p.tables.exec = Jvm.exec) (hb : c.code = b_F_merge) (hown : s.vm.findClass "FewBits" = some m.cls) (hW : s0.WarmedH s.vm) {b : Nat} (hob : mx_Ob s H "FewBits" b) (as rest : List Value) (hn : as.length = 1) : ∀ T, T.heap = H → Stand p l e R s m args below meth c T locs cells slots → mx_Inv p l e R s m args below meth c T locs cells slots (F0 m 10 ls (as.reverse ++ .ref b :: rest)) (F0 m 10 ls rest) y_F_filterAt (.ref b :: as) := fun T hT X => mx_invV X hT hx hown (G.1.at 271 rfl rfl _ hW) (G.1.at 273 rfl rfl _ hW) (G.1.sel 2 rfl _ hW) (G.1.at 274 rfl rfl _ hW) ⟨⟨by decide, by decide⟩, by decide +kernel⟩ hob rfl hn rfl (by rw [hb]; exact d_F_merge_10)
set_option maxRecDepth 20000 in
theorem iv_F_merge_16 {l : Launch} {s0 : State} {D : va_G} {cI cF cJ : ClassId} (G : Gx l s0 D cI cF cJ) {p : Program} {e : Env} {R : Room} {s : State} {m : MethodId} {args : Array Value} {below : List Frame} {meth : Method} {c : Code} {H : Heap} {locs : List Loc} {cells slots : Nat} {ls : Array Slot} (hx : p.tables.exec = Jvm.exec) (hb : c.code = b_F_merge) (hown : s.vm.findClass "FewBits" = some m.cls) (hW : s0.WarmedH s.vm) {b : Nat} (hob : mx_Ob s H "FewBits" b) (as rest : List Value) (hn : as.length = 1) : ∀ T, T.heap = H → Stand p l e R s m args below meth c T locs cells slots → mx_Inv p l e R s m args below meth c T locs cells slots (F0 m 16 ls (as.reverse ++ .ref b :: rest)) (F0 m 16 ls rest) y_F_filterAt (.ref b :: as) := fun T hT X => mx_invV X hT hx hown (G.1.at 271 rfl rfl _ hW) (G.1.at 273 rfl rfl _ hW) (G.1.sel 2 rfl _ hW) (G.1.at 274 rfl rfl _ hW) ⟨⟨by decide, by decide⟩, by decide +kernel⟩ hob rfl hn rfl (by rw [hb]; exact d_F_merge_16)
set_option maxRecDepth 20000 in
theorem iv_F_merge_22 {l : Launch} {s0 : State} {D : va_G} {cI cF cJ : ClassId} (G : Gx l s0 D cI cF cJ) {p : Program} {e : Env} {R : Room} {s : State} {m : MethodId} {args : Array Value} {below : List Frame} {meth : Method} {c : Code} {H : Heap} {locs : List Loc} {cells slots : Nat} {ls : Array Slot} (hx : p.tables.exec = Jvm.exec) (hb : c.code = b_F_merge) (hown : s.vm.findClass "FewBits" = some m.cls) (hW : s0.WarmedH s.vm) (as rest : List Value) (hn : as.length = 1) : ∀ T, T.heap = H → Stand p l e R s m args below meth c T locs cells slots → mx_Inv p l e R s m args below meth c T locs cells slots (F0 m 22 ls (as.reverse ++ rest)) (F0 m 22 ls rest) y_F_asRuns as := fun T hT X => mx_invS X hx hown (G.1.at 618 rfl rfl _ hW) (G.1.at 619 rfl rfl _ hW) (G.1.at 1 rfl rfl _ hW) (G.1.at 620 rfl rfl _ hW) ⟨⟨by decide, by decide⟩, by decide +kernel⟩ rfl hn rfl (by rw [hb]; exact d_F_merge_22)
set_option maxRecDepth 20000 in
theorem iv_F_merge_29 {l : Launch} {s0 : State} {D : va_G} {cI cF cJ : ClassId} (G : Gx l s0 D cI cF cJ) {p : Program} {e : Env} {R : Room} {s : State} {m : MethodId} {args : Array Value} {below : List Frame} {meth : Method} {c : Code} {H : Heap} {locs : List Loc} {cells slots : Nat} {ls : Array Slot} (hx : p.tables.exec = Jvm.exec) (hb : c.code = b_F_merge) (hown : s.vm.findClass "FewBits" = some m.cls) (hW : s0.WarmedH s.vm) (as rest : List Value) (hn : as.length = 1) : ∀ T, T.heap = H → Stand p l e R s m args below meth c T locs cells slots → mx_Inv p l e R s m args below meth c T locs cells slots (F0 m 29 ls (as.reverse ++ rest)) (F0 m 29 ls rest) y_F_asRuns as := fun T hT X => mx_invS X hx hown (G.1.at 618 rfl rfl _ hW) (G.1.at 619 rfl rfl _ hW) (G.1.at 1 rfl rfl _ hW) (G.1.at 620 rfl rfl _ hW) ⟨⟨by decide, by decide⟩, by decide +kernel⟩ rfl hn rfl (by rw [hb]; exact d_F_merge_29)
set_option maxRecDepth 20000 in
theorem iv_F_merge_74 {l : Launch} {s0 : State} {D : va_G} {cI cF cJ : ClassId} (G : Gx l s0 D cI cF cJ) {p : Program} {e : Env} {R : Room} {s : State} {m : MethodId} {args : Array Value} {below : List Frame} {meth : Method} {c : Code} {H : Heap} {locs : List Loc} {cells slots : Nat} {ls : Array Slot} (hx : p.tables.exec = Jvm.exec) (hb : c.code = b_F_merge) (hown : s.vm.findClass "FewBits" = some m.cls) (hW : s0.WarmedH s.vm) {b : Nat} (hob : mx_Ob s H "FewBits$Runs" b) (as rest : List Value) (hn : as.length = 1) : ∀ T, T.heap = H → Stand p l e R s m args below meth c T locs cells slots → mx_Inv p l e R s m args below meth c T locs cells slots (F0 m 74 ls (as.reverse ++ .ref b :: rest)) (F0 m 74 ls rest) y_R_acceptPairs (.ref b :: as) := fun T hT X => mx_invV X hT hx hown (G.1.at 623 rfl rfl _ hW) (G.1.at 624 rfl rfl _ hW) (G.1.at 625 rfl rfl _ hW) (G.1.at 626 rfl rfl _ hW) ⟨⟨by decide, by decide⟩, by decide +kernel⟩ hob rfl hn rfl (by rw [hb]; exact d_F_merge_74)
set_option maxRecDepth 20000 in
theorem iv_F_grow_2 {l : Launch} {s0 : State} {D : va_G} {cI cF cJ : ClassId} (G : Gx l s0 D cI cF cJ) {p : Program} {e : Env} {R : Room} {s : State} {m : MethodId} {args : Array Value} {below : List Frame} {meth : Method} {c : Code} {H : Heap} {locs : List Loc} {cells slots : Nat} {ls : Array Slot} (hx : p.tables.exec = Jvm.exec) (hb : c.code = b_F_grow) (hown : s.vm.findClass "FewBits" = some m.cls) (hW : s0.WarmedH s.vm) {b : Nat} (hob : mx_Ob s H "FewBits" b) (as rest : List Value) (hn : as.length = 1) : ∀ T, T.heap = H → Stand p l e R s m args below meth c T locs cells slots → mx_Inv p l e R s m args below meth c T locs cells slots (F0 m 2 ls (as.reverse ++ .ref b :: rest)) (F0 m 2 ls rest) y_F_filterAt (.ref b :: as) := fun T hT X => mx_invV X hT hx hown (G.1.at 271 rfl rfl _ hW) (G.1.at 273 rfl rfl _ hW) (G.1.sel 2 rfl _ hW) (G.1.at 274 rfl rfl _ hW) ⟨⟨by decide, by decide⟩, by decide +kernel⟩ hob rfl hn rfl (by rw [hb]; exact d_F_grow_2)
set_option maxRecDepth 20000 in
theorem iv_F_grow_5 {l : Launch} {s0 : State} {D : va_G} {cI cF cJ : ClassId} (G : Gx l s0 D cI cF cJ) {p : Program} {e : Env} {R : Room} {s : State} {m : MethodId} {args : Array Value} {below : List Frame} {meth : Method} {c : Code} {H : Heap} {locs : List Loc} {cells slots : Nat} {ls : Array Slot} (hx : p.tables.exec = Jvm.exec) (hb : c.code = b_F_grow) (hown : s.vm.findClass "FewBits" = some m.cls) (hW : s0.WarmedH s.vm) (as rest : List Value) (hn : as.length = 1) : ∀ T, T.heap = H → Stand p l e R s m args below meth c T locs cells slots → mx_Inv p l e R s m args below meth c T locs cells slots (F0 m 5 ls (as.reverse ++ rest)) (F0 m 5 ls rest) y_F_asRuns as := fun T hT X => mx_invS X hx hown (G.1.at 618 rfl rfl _ hW) (G.1.at 619 rfl rfl _ hW) (G.1.at 1 rfl rfl _ hW) (G.1.at 620 rfl rfl _ hW) ⟨⟨by decide, by decide⟩, by decide +kernel⟩ rfl hn rfl (by rw [hb]; exact d_F_grow_5)
set_option maxRecDepth 20000 in
theorem iv_F_grow_22 {l : Launch} {s0 : State} {D : va_G} {cI cF cJ : ClassId} (G : Gx l s0 D cI cF cJ) {p : Program} {e : Env} {R : Room} {s : State} {m : MethodId} {args : Array Value} {below : List Frame} {meth : Method} {c : Code} {H : Heap} {locs : List Loc} {cells slots : Nat} {ls : Array Slot} (hx : p.tables.exec = Jvm.exec) (hb : c.code = b_F_grow) (hown : s.vm.findClass "FewBits" = some m.cls) (hW : s0.WarmedH s.vm) (as rest : List Value) (hn : as.length = 3) : ∀ T, T.heap = H → Stand p l e R s m args below meth c T locs cells slots → mx_Inv p l e R s m args below meth c T locs cells slots (F0 m 22 ls (as.reverse ++ rest)) (F0 m 22 ls rest) y_F_mayBe as := fun T hT X => mx_invS X hx hown (G.1.at 133 rfl rfl _ hW) (G.1.at 134 rfl rfl _ hW) (G.1.at 1 rfl rfl _ hW) (G.1.at 135 rfl rfl _ hW) ⟨⟨by decide, by decide⟩, by decide +kernel⟩ rfl hn rfl (by rw [hb]; exact d_F_grow_22)
set_option maxRecDepth 20000 in
theorem iv_F_grow_39 {l : Launch} {s0 : State} {D : va_G} {cI cF cJ : ClassId} (G : Gx l s0 D cI cF cJ) {p : Program} {e : Env} {R : Room} {s : State} {m : MethodId} {args : Array Value} {below : List Frame} {meth : Method} {c : Code} {H : Heap} {locs : List Loc} {cells slots : Nat} {ls : Array Slot} (hx : p.tables.exec = Jvm.exec) (hb : c.code = b_F_grow) (hown : s.vm.findClass "FewBits" = some m.cls) (hW : s0.WarmedH s.vm) {b : Nat} (hob : mx_Ob s H "FewBits$Runs" b) (as rest : List Value) (hn : as.length = 0) : ∀ T, T.heap = H → Stand p l e R s m args below meth c T locs cells slots → mx_Inv p l e R s m args below meth c T locs cells slots (F0 m 39 ls (as.reverse ++ .ref b :: rest)) (F0 m 39 ls rest) y_R_moveOneBit (.ref b :: as) := fun T hT X => mx_invV X hT hx hown (G.1.at 636 rfl rfl _ hW) (G.1.at 637 rfl rfl _ hW) (G.1.at 638 rfl rfl _ hW) (G.1.at 639 rfl rfl _ hW) ⟨⟨by decide, by decide⟩, by decide +kernel⟩ hob rfl hn rfl (by rw [hb]; exact d_F_grow_39)
set_option maxRecDepth 20000 in
theorem iv_F_clear_2 {l : Launch} {s0 : State} {D : va_G} {cI cF cJ : ClassId} (G : Gx l s0 D cI cF cJ) {p : Program} {e : Env} {R : Room} {s : State} {m : MethodId} {args : Array Value} {below : List Frame} {meth : Method} {c : Code} {H : Heap} {locs : List Loc} {cells slots : Nat} {ls : Array Slot} (hx : p.tables.exec = Jvm.exec) (hb : c.code = b_F_clear) (hown : s.vm.findClass "FewBits" = some m.cls) (hW : s0.WarmedH s.vm) {b : Nat} (hob : mx_Ob s H "FewBits" b) (as rest : List Value) (hn : as.length = 1) : ∀ T, T.heap = H → Stand p l e R s m args below meth c T locs cells slots → mx_Inv p l e R s m args below meth c T locs cells slots (F0 m 2 ls (as.reverse ++ .ref b :: rest)) (F0 m 2 ls rest) y_F_filterAt (.ref b :: as) := fun T hT X => mx_invV X hT hx hown (G.1.at 271 rfl rfl _ hW) (G.1.at 273 rfl rfl _ hW) (G.1.sel 2 rfl _ hW) (G.1.at 274 rfl rfl _ hW) ⟨⟨by decide, by decide⟩, by decide +kernel⟩ hob rfl hn rfl (by rw [hb]; exact d_F_clear_2)
set_option maxRecDepth 20000 in
theorem iv_F_clear_20_C {l : Launch} {s0 : State} {D : va_G} {cI cF cJ : ClassId} (G : Gx l s0 D cI cF cJ) {p : Program} {e : Env} {R : Room} {s : State} {m : MethodId} {args : Array Value} {below : List Frame} {meth : Method} {c : Code} {H : Heap} {locs : List Loc} {cells slots : Nat} {ls : Array Slot} (hx : p.tables.exec = Jvm.exec) (hb : c.code = b_F_clear) (hown : s.vm.findClass "FewBits" = some m.cls) (hW : s0.WarmedH s.vm) {b : Nat} (hob : mx_Ob s H "FewBits$Counters" b) (as rest : List Value) (hn : as.length = 2) : ∀ T, T.heap = H → Stand p l e R s m args below meth c T locs cells slots → mx_Inv p l e R s m args below meth c T locs cells slots (F0 m 20 ls (as.reverse ++ .ref b :: rest)) (F0 m 20 ls rest) y_P_begin (.ref b :: as) := fun T hT X => mx_invU X hT hx (owner := "FewBits$Filter") (x := y_P_begin) hown (G.1.at 239 rfl rfl _ hW) (G.1.at 241 rfl rfl _ hW) (va_Decl.of (args := args) (G.1.at 240 rfl rfl _ hW) (G.1.at 245 rfl rfl _ hW)) ⟨by decide, by decide⟩ (G.1.at 243 rfl rfl _ hW) (G.1.at 240 rfl rfl _ hW) ⟨⟨by decide, by decide⟩, by decide +kernel⟩ hob rfl hn rfl (by rw [hb]; exact d_F_clear_20)
set_option maxRecDepth 20000 in
theorem iv_F_clear_20_B {l : Launch} {s0 : State} {D : va_G} {cI cF cJ : ClassId} (G : Gx l s0 D cI cF cJ) {p : Program} {e : Env} {R : Room} {s : State} {m : MethodId} {args : Array Value} {below : List Frame} {meth : Method} {c : Code} {H : Heap} {locs : List Loc} {cells slots : Nat} {ls : Array Slot} (hx : p.tables.exec = Jvm.exec) (hb : c.code = b_F_clear) (hown : s.vm.findClass "FewBits" = some m.cls) (hW : s0.WarmedH s.vm) {b : Nat} (hob : mx_Ob s H "FewBits$Buckets" b) (as rest : List Value) (hn : as.length = 2) : ∀ T, T.heap = H → Stand p l e R s m args below meth c T locs cells slots → mx_Inv p l e R s m args below meth c T locs cells slots (F0 m 20 ls (as.reverse ++ .ref b :: rest)) (F0 m 20 ls rest) y_P_begin (.ref b :: as) := fun T hT X => mx_invU X hT hx (owner := "FewBits$Filter") (x := y_P_begin) hown (G.1.at 239 rfl rfl _ hW) (G.1.at 241 rfl rfl _ hW) (va_Decl.of (args := args) (G.1.at 240 rfl rfl _ hW) (G.1.at 245 rfl rfl _ hW)) ⟨by decide, by decide⟩ (G.1.at 242 rfl rfl _ hW) (G.1.at 240 rfl rfl _ hW) ⟨⟨by decide, by decide⟩, by decide +kernel⟩ hob rfl hn rfl (by rw [hb]; exact d_F_clear_20)
set_option maxRecDepth 20000 in
theorem iv_F_clear_20_R {l : Launch} {s0 : State} {D : va_G} {cI cF cJ : ClassId} (G : Gx l s0 D cI cF cJ) {p : Program} {e : Env} {R : Room} {s : State} {m : MethodId} {args : Array Value} {below : List Frame} {meth : Method} {c : Code} {H : Heap} {locs : List Loc} {cells slots : Nat} {ls : Array Slot} (hx : p.tables.exec = Jvm.exec) (hb : c.code = b_F_clear) (hown : s.vm.findClass "FewBits" = some m.cls) (hW : s0.WarmedH s.vm) {b : Nat} (hob : mx_Ob s H "FewBits$Runs" b) (as rest : List Value) (hn : as.length = 2) : ∀ T, T.heap = H → Stand p l e R s m args below meth c T locs cells slots → mx_Inv p l e R s m args below meth c T locs cells slots (F0 m 20 ls (as.reverse ++ .ref b :: rest)) (F0 m 20 ls rest) y_P_begin (.ref b :: as) := fun T hT X => mx_invU X hT hx (owner := "FewBits$Filter") (x := y_P_begin) hown (G.1.at 239 rfl rfl _ hW) (G.1.at 241 rfl rfl _ hW) (va_Decl.of (args := args) (G.1.at 240 rfl rfl _ hW) (G.1.at 245 rfl rfl _ hW)) ⟨by decide, by decide⟩ (G.1.at 244 rfl rfl _ hW) (G.1.at 240 rfl rfl _ hW) ⟨⟨by decide, by decide⟩, by decide +kernel⟩ hob rfl hn rfl (by rw [hb]; exact d_F_clear_20)
set_option maxRecDepth 20000 in
theorem iv_F_isNumber_3 {l : Launch} {s0 : State} {D : va_G} {cI cF cJ : ClassId} (G : Gx l s0 D cI cF cJ) {p : Program} {e : Env} {R : Room} {s : State} {m : MethodId} {args : Array Value} {below : List Frame} {meth : Method} {c : Code} {H : Heap} {locs : List Loc} {cells slots : Nat} {ls : Array Slot} (hx : p.tables.exec = Jvm.exec) (hb : c.code = b_F_isNumber) (hown : s.vm.findClass "FewBits" = some m.cls) (hW : s0.WarmedH s.vm) (as rest : List Value) (hn : as.length = 3) : ∀ T, T.heap = H → Stand p l e R s m args below meth c T locs cells slots → mx_Inv p l e R s m args below meth c T locs cells slots (F0 m 3 ls (as.reverse ++ rest)) (F0 m 3 ls rest) y_F_isWithin as := fun T hT X => mx_invS X hx hown (G.1.at 60 rfl rfl _ hW) (G.1.at 61 rfl rfl _ hW) (G.1.at 1 rfl rfl _ hW) (G.1.at 62 rfl rfl _ hW) ⟨⟨by decide, by decide⟩, by decide +kernel⟩ rfl hn rfl (by rw [hb]; exact d_F_isNumber_3)
set_option maxRecDepth 20000 in
theorem iv_F_mayBe_32 {l : Launch} {s0 : State} {D : va_G} {cI cF cJ : ClassId} (G : Gx l s0 D cI cF cJ) {p : Program} {e : Env} {R : Room} {s : State} {m : MethodId} {args : Array Value} {below : List Frame} {meth : Method} {c : Code} {H : Heap} {locs : List Loc} {cells slots : Nat} {ls : Array Slot} (hx : p.tables.exec = Jvm.exec) (hb : c.code = b_F_mayBe) (hown : s.vm.findClass "FewBits" = some m.cls) (hW : s0.WarmedH s.vm) (as rest : List Value) (hn : as.length = 3) : ∀ T, T.heap = H → Stand p l e R s m args below meth c T locs cells slots → mx_Inv p l e R s m args below meth c T locs cells slots (F0 m 32 ls (as.reverse ++ rest)) (F0 m 32 ls rest) y_F_isWithin as := fun T hT X => mx_invS X hx hown (G.1.at 60 rfl rfl _ hW) (G.1.at 61 rfl rfl _ hW) (G.1.at 1 rfl rfl _ hW) (G.1.at 62 rfl rfl _ hW) ⟨⟨by decide, by decide⟩, by decide +kernel⟩ rfl hn rfl (by rw [hb]; exact d_F_mayBe_32)
set_option maxRecDepth 20000 in
theorem iv_F_mayBe_42 {l : Launch} {s0 : State} {D : va_G} {cI cF cJ : ClassId} (G : Gx l s0 D cI cF cJ) {p : Program} {e : Env} {R : Room} {s : State} {m : MethodId} {args : Array Value} {below : List Frame} {meth : Method} {c : Code} {H : Heap} {locs : List Loc} {cells slots : Nat} {ls : Array Slot} (hx : p.tables.exec = Jvm.exec) (hb : c.code = b_F_mayBe) (hown : s.vm.findClass "FewBits" = some m.cls) (hW : s0.WarmedH s.vm) (as rest : List Value) (hn : as.length = 3) : ∀ T, T.heap = H → Stand p l e R s m args below meth c T locs cells slots → mx_Inv p l e R s m args below meth c T locs cells slots (F0 m 42 ls (as.reverse ++ rest)) (F0 m 42 ls rest) y_F_isWithin as := fun T hT X => mx_invS X hx hown (G.1.at 60 rfl rfl _ hW) (G.1.at 61 rfl rfl _ hW) (G.1.at 1 rfl rfl _ hW) (G.1.at 62 rfl rfl _ hW) ⟨⟨by decide, by decide⟩, by decide +kernel⟩ rfl hn rfl (by rw [hb]; exact d_F_mayBe_42)
set_option maxRecDepth 20000 in
theorem iv_F_mayBe_58 {l : Launch} {s0 : State} {D : va_G} {cI cF cJ : ClassId} (G : Gx l s0 D cI cF cJ) {p : Program} {e : Env} {R : Room} {s : State} {m : MethodId} {args : Array Value} {below : List Frame} {meth : Method} {c : Code} {H : Heap} {locs : List Loc} {cells slots : Nat} {ls : Array Slot} (hx : p.tables.exec = Jvm.exec) (hb : c.code = b_F_mayBe) (hown : s.vm.findClass "FewBits" = some m.cls) (hW : s0.WarmedH s.vm) (as rest : List Value) (hn : as.length = 3) : ∀ T, T.heap = H → Stand p l e R s m args below meth c T locs cells slots → mx_Inv p l e R s m args below meth c T locs cells slots (F0 m 58 ls (as.reverse ++ rest)) (F0 m 58 ls rest) y_F_isWithin as := fun T hT X => mx_invS X hx hown (G.1.at 60 rfl rfl _ hW) (G.1.at 61 rfl rfl _ hW) (G.1.at 1 rfl rfl _ hW) (G.1.at 62 rfl rfl _ hW) ⟨⟨by decide, by decide⟩, by decide +kernel⟩ rfl hn rfl (by rw [hb]; exact d_F_mayBe_58)
set_option maxRecDepth 20000 in
theorem iv_F_mayBe_68 {l : Launch} {s0 : State} {D : va_G} {cI cF cJ : ClassId} (G : Gx l s0 D cI cF cJ) {p : Program} {e : Env} {R : Room} {s : State} {m : MethodId} {args : Array Value} {below : List Frame} {meth : Method} {c : Code} {H : Heap} {locs : List Loc} {cells slots : Nat} {ls : Array Slot} (hx : p.tables.exec = Jvm.exec) (hb : c.code = b_F_mayBe) (hown : s.vm.findClass "FewBits" = some m.cls) (hW : s0.WarmedH s.vm) (as rest : List Value) (hn : as.length = 3) : ∀ T, T.heap = H → Stand p l e R s m args below meth c T locs cells slots → mx_Inv p l e R s m args below meth c T locs cells slots (F0 m 68 ls (as.reverse ++ rest)) (F0 m 68 ls rest) y_F_isWithin as := fun T hT X => mx_invS X hx hown (G.1.at 60 rfl rfl _ hW) (G.1.at 61 rfl rfl _ hW) (G.1.at 1 rfl rfl _ hW) (G.1.at 62 rfl rfl _ hW) ⟨⟨by decide, by decide⟩, by decide +kernel⟩ rfl hn rfl (by rw [hb]; exact d_F_mayBe_68)
set_option maxRecDepth 20000 in
theorem iv_F_mayBe_84 {l : Launch} {s0 : State} {D : va_G} {cI cF cJ : ClassId} (G : Gx l s0 D cI cF cJ) {p : Program} {e : Env} {R : Room} {s : State} {m : MethodId} {args : Array Value} {below : List Frame} {meth : Method} {c : Code} {H : Heap} {locs : List Loc} {cells slots : Nat} {ls : Array Slot} (hx : p.tables.exec = Jvm.exec) (hb : c.code = b_F_mayBe) (hown : s.vm.findClass "FewBits" = some m.cls) (hW : s0.WarmedH s.vm) (as rest : List Value) (hn : as.length = 3) : ∀ T, T.heap = H → Stand p l e R s m args below meth c T locs cells slots → mx_Inv p l e R s m args below meth c T locs cells slots (F0 m 84 ls (as.reverse ++ rest)) (F0 m 84 ls rest) y_F_isWithin as := fun T hT X => mx_invS X hx hown (G.1.at 60 rfl rfl _ hW) (G.1.at 61 rfl rfl _ hW) (G.1.at 1 rfl rfl _ hW) (G.1.at 62 rfl rfl _ hW) ⟨⟨by decide, by decide⟩, by decide +kernel⟩ rfl hn rfl (by rw [hb]; exact d_F_mayBe_84)
set_option maxRecDepth 20000 in
theorem iv_F_mayBe_94 {l : Launch} {s0 : State} {D : va_G} {cI cF cJ : ClassId} (G : Gx l s0 D cI cF cJ) {p : Program} {e : Env} {R : Room} {s : State} {m : MethodId} {args : Array Value} {below : List Frame} {meth : Method} {c : Code} {H : Heap} {locs : List Loc} {cells slots : Nat} {ls : Array Slot} (hx : p.tables.exec = Jvm.exec) (hb : c.code = b_F_mayBe) (hown : s.vm.findClass "FewBits" = some m.cls) (hW : s0.WarmedH s.vm) (as rest : List Value) (hn : as.length = 3) : ∀ T, T.heap = H → Stand p l e R s m args below meth c T locs cells slots → mx_Inv p l e R s m args below meth c T locs cells slots (F0 m 94 ls (as.reverse ++ rest)) (F0 m 94 ls rest) y_F_isWithin as := fun T hT X => mx_invS X hx hown (G.1.at 60 rfl rfl _ hW) (G.1.at 61 rfl rfl _ hW) (G.1.at 1 rfl rfl _ hW) (G.1.at 62 rfl rfl _ hW) ⟨⟨by decide, by decide⟩, by decide +kernel⟩ rfl hn rfl (by rw [hb]; exact d_F_mayBe_94)
set_option maxRecDepth 20000 in
theorem iv_F_requireNumber_1 {l : Launch} {s0 : State} {D : va_G} {cI cF cJ : ClassId} (G : Gx l s0 D cI cF cJ) {p : Program} {e : Env} {R : Room} {s : State} {m : MethodId} {args : Array Value} {below : List Frame} {meth : Method} {c : Code} {H : Heap} {locs : List Loc} {cells slots : Nat} {ls : Array Slot} (hx : p.tables.exec = Jvm.exec) (hb : c.code = b_F_requireNumber) (hown : s.vm.findClass "FewBits" = some m.cls) (hW : s0.WarmedH s.vm) (as rest : List Value) (hn : as.length = 1) : ∀ T, T.heap = H → Stand p l e R s m args below meth c T locs cells slots → mx_Inv p l e R s m args below meth c T locs cells slots (F0 m 1 ls (as.reverse ++ rest)) (F0 m 1 ls rest) y_F_isNumber as := fun T hT X => mx_invS X hx hown (G.1.at 57 rfl rfl _ hW) (G.1.at 58 rfl rfl _ hW) (G.1.at 1 rfl rfl _ hW) (G.1.at 59 rfl rfl _ hW) ⟨⟨by decide, by decide⟩, by decide +kernel⟩ rfl hn rfl (by rw [hb]; exact d_F_requireNumber_1)
set_option maxRecDepth 20000 in
theorem iv_F_requireItems_5 {l : Launch} {s0 : State} {D : va_G} {cI cF cJ : ClassId} (G : Gx l s0 D cI cF cJ) {p : Program} {e : Env} {R : Room} {s : State} {m : MethodId} {args : Array Value} {below : List Frame} {meth : Method} {c : Code} {H : Heap} {locs : List Loc} {cells slots : Nat} {ls : Array Slot} (hx : p.tables.exec = Jvm.exec) (hb : c.code = b_F_requireItems) (hown : s.vm.findClass "FewBits" = some m.cls) (hW : s0.WarmedH s.vm) (as rest : List Value) (hn : as.length = 3) : ∀ T, T.heap = H → Stand p l e R s m args below meth c T locs cells slots → mx_Inv p l e R s m args below meth c T locs cells slots (F0 m 5 ls (as.reverse ++ rest)) (F0 m 5 ls rest) y_F_isWithin as := fun T hT X => mx_invS X hx hown (G.1.at 60 rfl rfl _ hW) (G.1.at 61 rfl rfl _ hW) (G.1.at 1 rfl rfl _ hW) (G.1.at 62 rfl rfl _ hW) ⟨⟨by decide, by decide⟩, by decide +kernel⟩ rfl hn rfl (by rw [hb]; exact d_F_requireItems_5)
set_option maxRecDepth 20000 in
theorem iv_F_filterAt_1 {l : Launch} {s0 : State} {D : va_G} {cI cF cJ : ClassId} (G : Gx l s0 D cI cF cJ) {p : Program} {e : Env} {R : Room} {s : State} {m : MethodId} {args : Array Value} {below : List Frame} {meth : Method} {c : Code} {H : Heap} {locs : List Loc} {cells slots : Nat} {ls : Array Slot} (hx : p.tables.exec = Jvm.exec) (hb : c.code = b_F_filterAt) (hown : s.vm.findClass "FewBits" = some m.cls) (hW : s0.WarmedH s.vm) (as rest : List Value) (hn : as.length = 1) : ∀ T, T.heap = H → Stand p l e R s m args below meth c T locs cells slots → mx_Inv p l e R s m args below meth c T locs cells slots (F0 m 1 ls (as.reverse ++ rest)) (F0 m 1 ls rest) y_F_requireNumber as := fun T hT X => mx_invS X hx hown (G.1.at 54 rfl rfl _ hW) (G.1.at 55 rfl rfl _ hW) (G.1.at 1 rfl rfl _ hW) (G.1.at 56 rfl rfl _ hW) ⟨⟨by decide, by decide⟩, by decide +kernel⟩ rfl hn rfl (by rw [hb]; exact d_F_filterAt_1)
set_option maxRecDepth 20000 in
theorem iv_F_filterFor_23 {l : Launch} {s0 : State} {D : va_G} {cI cF cJ : ClassId} (G : Gx l s0 D cI cF cJ) {p : Program} {e : Env} {R : Room} {s : State} {m : MethodId} {args : Array Value} {below : List Frame} {meth : Method} {c : Code} {H : Heap} {locs : List Loc} {cells slots : Nat} {ls : Array Slot} (hx : p.tables.exec = Jvm.exec) (hb : c.code = b_F_filterFor) (hown : s.vm.findClass "FewBits" = some m.cls) (hW : s0.WarmedH s.vm) (as rest : List Value) (hn : as.length = 1) : ∀ T, T.heap = H → Stand p l e R s m args below meth c T locs cells slots → mx_Inv p l e R s m args below meth c T locs cells slots (F0 m 23 ls (as.reverse ++ rest)) (F0 m 23 ls rest) y_F_newFilter as := fun T hT X => mx_invS X hx hown (G.1.at 156 rfl rfl _ hW) (G.1.at 157 rfl rfl _ hW) (G.1.at 1 rfl rfl _ hW) (G.1.at 158 rfl rfl _ hW) ⟨⟨by decide, by decide⟩, by decide +kernel⟩ rfl hn rfl (by rw [hb]; exact d_F_filterFor_23)
set_option maxRecDepth 20000 in
theorem iv_F_newFilter_32 {l : Launch} {s0 : State} {D : va_G} {cI cF cJ : ClassId} (G : Gx l s0 D cI cF cJ) {p : Program} {e : Env} {R : Room} {s : State} {m : MethodId} {args : Array Value} {below : List Frame} {meth : Method} {c : Code} {H : Heap} {locs : List Loc} {cells slots : Nat} {ls : Array Slot} (hx : p.tables.exec = Jvm.exec) (hb : c.code = b_F_newFilter) (hown : s.vm.findClass "FewBits" = some m.cls) (hW : s0.WarmedH s.vm) (b : Nat) (as rest : List Value) (hn : as.length = 0) : ∀ T, T.heap = H → Stand p l e R s m args below meth c T locs cells slots → mx_Inv p l e R s m args below meth c T locs cells slots (F0 m 32 ls (as.reverse ++ .ref b :: rest)) (F0 m 32 ls rest) y_C_init (.ref b :: as) := fun T hT X => mx_invIN X hx hown rfl (va_Nw.use rfl (va_Nw.warmM hW (G.1.nw 161 rfl rfl))) (G.1.at 162 rfl rfl _ hW) (G.1.at 163 rfl rfl _ hW) ⟨⟨by decide, by decide⟩, by decide +kernel⟩ rfl hn rfl (by rw [hb]; exact d_F_newFilter_32)
set_option maxRecDepth 20000 in
theorem iv_F_newFilter_40 {l : Launch} {s0 : State} {D : va_G} {cI cF cJ : ClassId} (G : Gx l s0 D cI cF cJ) {p : Program} {e : Env} {R : Room} {s : State} {m : MethodId} {args : Array Value} {below : List Frame} {meth : Method} {c : Code} {H : Heap} {locs : List Loc} {cells slots : Nat} {ls : Array Slot} (hx : p.tables.exec = Jvm.exec) (hb : c.code = b_F_newFilter) (hown : s.vm.findClass "FewBits" = some m.cls) (hW : s0.WarmedH s.vm) (b : Nat) (as rest : List Value) (hn : as.length = 0) : ∀ T, T.heap = H → Stand p l e R s m args below meth c T locs cells slots → mx_Inv p l e R s m args below meth c T locs cells slots (F0 m 40 ls (as.reverse ++ .ref b :: rest)) (F0 m 40 ls rest) y_B_init (.ref b :: as) := fun T hT X => mx_invIN X hx hown rfl (va_Nw.use rfl (va_Nw.warmM hW (G.1.nw 206 rfl rfl))) (G.1.at 207 rfl rfl _ hW) (G.1.at 208 rfl rfl _ hW) ⟨⟨by decide, by decide⟩, by decide +kernel⟩ rfl hn rfl (by rw [hb]; exact d_F_newFilter_40)
set_option maxRecDepth 20000 in
theorem iv_F_newFilter_48 {l : Launch} {s0 : State} {D : va_G} {cI cF cJ : ClassId} (G : Gx l s0 D cI cF cJ) {p : Program} {e : Env} {R : Room} {s : State} {m : MethodId} {args : Array Value} {below : List Frame} {meth : Method} {c : Code} {H : Heap} {locs : List Loc} {cells slots : Nat} {ls : Array Slot} (hx : p.tables.exec = Jvm.exec) (hb : c.code = b_F_newFilter) (hown : s.vm.findClass "FewBits" = some m.cls) (hW : s0.WarmedH s.vm) (b : Nat) (as rest : List Value) (hn : as.length = 0) : ∀ T, T.heap = H → Stand p l e R s m args below meth c T locs cells slots → mx_Inv p l e R s m args below meth c T locs cells slots (F0 m 48 ls (as.reverse ++ .ref b :: rest)) (F0 m 48 ls rest) y_R_init (.ref b :: as) := fun T hT X => mx_invIN X hx hown rfl (va_Nw.use rfl (va_Nw.warmM hW (G.1.nw 225 rfl rfl))) (G.1.at 226 rfl rfl _ hW) (G.1.at 227 rfl rfl _ hW) ⟨⟨by decide, by decide⟩, by decide +kernel⟩ rfl hn rfl (by rw [hb]; exact d_F_newFilter_48)
set_option maxRecDepth 20000 in
theorem iv_M_mix_8 {l : Launch} {s0 : State} {D : va_G} {cI cF cJ : ClassId} (G : Gx l s0 D cI cF cJ) {p : Program} {e : Env} {R : Room} {s : State} {m : MethodId} {args : Array Value} {below : List Frame} {meth : Method} {c : Code} {H : Heap} {locs : List Loc} {cells slots : Nat} {ls : Array Slot} (hx : p.tables.exec = Jvm.exec) (hb : c.code = b_M_mix) (hown : s.vm.findClass "FewBitsModel" = some m.cls) (hW : s0.WarmedH s.vm) (as rest : List Value) (hn : as.length = 2) : ∀ T, T.heap = H → Stand p l e R s m args below meth c T locs cells slots → mx_Inv p l e R s m args below meth c T locs cells slots (F0 m 8 ls (as.reverse ++ rest)) (F0 m 8 ls rest) y_M_mixed as := fun T hT X => mx_invS X hx hown (G.1.at 698 rfl rfl _ hW) (G.1.at 699 rfl rfl _ hW) (G.1.at 2 rfl rfl _ hW) (G.1.at 700 rfl rfl _ hW) ⟨⟨by decide, by decide⟩, by decide +kernel⟩ rfl hn rfl (by rw [hb]; exact d_M_mix_8)
set_option maxRecDepth 20000 in
theorem iv_M_wrong_1 {l : Launch} {s0 : State} {D : va_G} {cI cF cJ : ClassId} (G : Gx l s0 D cI cF cJ) {p : Program} {e : Env} {R : Room} {s : State} {m : MethodId} {args : Array Value} {below : List Frame} {meth : Method} {c : Code} {H : Heap} {locs : List Loc} {cells slots : Nat} {ls : Array Slot} (hx : p.tables.exec = Jvm.exec) (hb : c.code = b_M_wrong) (hown : s.vm.findClass "FewBitsModel" = some m.cls) (hW : s0.WarmedH s.vm) (as rest : List Value) (hn : as.length = 1) : ∀ T, T.heap = H → Stand p l e R s m args below meth c T locs cells slots → mx_Inv p l e R s m args below meth c T locs cells slots (F0 m 1 ls (as.reverse ++ rest)) (F0 m 1 ls rest) y_M_isNumber as := fun T hT X => mx_invS X hx hown (G.1.at 708 rfl rfl _ hW) (G.1.at 709 rfl rfl _ hW) (G.1.at 2 rfl rfl _ hW) (G.1.at 710 rfl rfl _ hW) ⟨⟨by decide, by decide⟩, by decide +kernel⟩ rfl hn rfl (by rw [hb]; exact d_M_wrong_1)
set_option maxRecDepth 20000 in
theorem iv_M_fingerprint_2 {l : Launch} {s0 : State} {D : va_G} {cI cF cJ : ClassId} (G : Gx l s0 D cI cF cJ) {p : Program} {e : Env} {R : Room} {s : State} {m : MethodId} {args : Array Value} {below : List Frame} {meth : Method} {c : Code} {H : Heap} {locs : List Loc} {cells slots : Nat} {ls : Array Slot} (hx : p.tables.exec = Jvm.exec) (hb : c.code = b_M_fingerprint) (hown : s.vm.findClass "FewBitsModel" = some m.cls) (hW : s0.WarmedH s.vm) (as rest : List Value) (hn : as.length = 2) : ∀ T, T.heap = H → Stand p l e R s m args below meth c T locs cells slots → mx_Inv p l e R s m args below meth c T locs cells slots (F0 m 2 ls (as.reverse ++ rest)) (F0 m 2 ls rest) y_M_mixed as := fun T hT X => mx_invS X hx hown (G.1.at 698 rfl rfl _ hW) (G.1.at 699 rfl rfl _ hW) (G.1.at 2 rfl rfl _ hW) (G.1.at 700 rfl rfl _ hW) ⟨⟨by decide, by decide⟩, by decide +kernel⟩ rfl hn rfl (by rw [hb]; exact d_M_fingerprint_2)
set_option maxRecDepth 20000 in
theorem iv_M_firstBucket_2 {l : Launch} {s0 : State} {D : va_G} {cI cF cJ : ClassId} (G : Gx l s0 D cI cF cJ) {p : Program} {e : Env} {R : Room} {s : State} {m : MethodId} {args : Array Value} {below : List Frame} {meth : Method} {c : Code} {H : Heap} {locs : List Loc} {cells slots : Nat} {ls : Array Slot} (hx : p.tables.exec = Jvm.exec) (hb : c.code = b_M_firstBucket) (hown : s.vm.findClass "FewBitsModel" = some m.cls) (hW : s0.WarmedH s.vm) (as rest : List Value) (hn : as.length = 2) : ∀ T, T.heap = H → Stand p l e R s m args below meth c T locs cells slots → mx_Inv p l e R s m args below meth c T locs cells slots (F0 m 2 ls (as.reverse ++ rest)) (F0 m 2 ls rest) y_M_mixed as := fun T hT X => mx_invS X hx hown (G.1.at 698 rfl rfl _ hW) (G.1.at 699 rfl rfl _ hW) (G.1.at 2 rfl rfl _ hW) (G.1.at 700 rfl rfl _ hW) ⟨⟨by decide, by decide⟩, by decide +kernel⟩ rfl hn rfl (by rw [hb]; exact d_M_firstBucket_2)
set_option maxRecDepth 20000 in
theorem iv_M_firstBucket_11 {l : Launch} {s0 : State} {D : va_G} {cI cF cJ : ClassId} (G : Gx l s0 D cI cF cJ) {p : Program} {e : Env} {R : Room} {s : State} {m : MethodId} {args : Array Value} {below : List Frame} {meth : Method} {c : Code} {H : Heap} {locs : List Loc} {cells slots : Nat} {ls : Array Slot} (hx : p.tables.exec = Jvm.exec) (hb : c.code = b_M_firstBucket) (hown : s.vm.findClass "FewBitsModel" = some m.cls) (hW : s0.WarmedH s.vm) (as rest : List Value) (hn : as.length = 2) : ∀ T, T.heap = H → Stand p l e R s m args below meth c T locs cells slots → mx_Inv p l e R s m args below meth c T locs cells slots (F0 m 11 ls (as.reverse ++ rest)) (F0 m 11 ls rest) y_M_lowest as := fun T hT X => mx_invS X hx hown (G.1.at 735 rfl rfl _ hW) (G.1.at 736 rfl rfl _ hW) (G.1.at 2 rfl rfl _ hW) (G.1.at 737 rfl rfl _ hW) ⟨⟨by decide, by decide⟩, by decide +kernel⟩ rfl hn rfl (by rw [hb]; exact d_M_firstBucket_11)
set_option maxRecDepth 20000 in
theorem iv_M_otherBucket_6 {l : Launch} {s0 : State} {D : va_G} {cI cF cJ : ClassId} (G : Gx l s0 D cI cF cJ) {p : Program} {e : Env} {R : Room} {s : State} {m : MethodId} {args : Array Value} {below : List Frame} {meth : Method} {c : Code} {H : Heap} {locs : List Loc} {cells slots : Nat} {ls : Array Slot} (hx : p.tables.exec = Jvm.exec) (hb : c.code = b_M_otherBucket) (hown : s.vm.findClass "FewBitsModel" = some m.cls) (hW : s0.WarmedH s.vm) (as rest : List Value) (hn : as.length = 2) : ∀ T, T.heap = H → Stand p l e R s m args below meth c T locs cells slots → mx_Inv p l e R s m args below meth c T locs cells slots (F0 m 6 ls (as.reverse ++ rest)) (F0 m 6 ls rest) y_M_mixed as := fun T hT X => mx_invS X hx hown (G.1.at 698 rfl rfl _ hW) (G.1.at 699 rfl rfl _ hW) (G.1.at 2 rfl rfl _ hW) (G.1.at 700 rfl rfl _ hW) ⟨⟨by decide, by decide⟩, by decide +kernel⟩ rfl hn rfl (by rw [hb]; exact d_M_otherBucket_6)
set_option maxRecDepth 20000 in
theorem iv_M_otherBucket_15 {l : Launch} {s0 : State} {D : va_G} {cI cF cJ : ClassId} (G : Gx l s0 D cI cF cJ) {p : Program} {e : Env} {R : Room} {s : State} {m : MethodId} {args : Array Value} {below : List Frame} {meth : Method} {c : Code} {H : Heap} {locs : List Loc} {cells slots : Nat} {ls : Array Slot} (hx : p.tables.exec = Jvm.exec) (hb : c.code = b_M_otherBucket) (hown : s.vm.findClass "FewBitsModel" = some m.cls) (hW : s0.WarmedH s.vm) (as rest : List Value) (hn : as.length = 2) : ∀ T, T.heap = H → Stand p l e R s m args below meth c T locs cells slots → mx_Inv p l e R s m args below meth c T locs cells slots (F0 m 15 ls (as.reverse ++ rest)) (F0 m 15 ls rest) y_M_lowest as := fun T hT X => mx_invS X hx hown (G.1.at 735 rfl rfl _ hW) (G.1.at 736 rfl rfl _ hW) (G.1.at 2 rfl rfl _ hW) (G.1.at 737 rfl rfl _ hW) ⟨⟨by decide, by decide⟩, by decide +kernel⟩ rfl hn rfl (by rw [hb]; exact d_M_otherBucket_15)
set_option maxRecDepth 20000 in
theorem iv_M_pair_2 {l : Launch} {s0 : State} {D : va_G} {cI cF cJ : ClassId} (G : Gx l s0 D cI cF cJ) {p : Program} {e : Env} {R : Room} {s : State} {m : MethodId} {args : Array Value} {below : List Frame} {meth : Method} {c : Code} {H : Heap} {locs : List Loc} {cells slots : Nat} {ls : Array Slot} (hx : p.tables.exec = Jvm.exec) (hb : c.code = b_M_pair) (hown : s.vm.findClass "FewBitsModel" = some m.cls) (hW : s0.WarmedH s.vm) (as rest : List Value) (hn : as.length = 2) : ∀ T, T.heap = H → Stand p l e R s m args below meth c T locs cells slots → mx_Inv p l e R s m args below meth c T locs cells slots (F0 m 2 ls (as.reverse ++ rest)) (F0 m 2 ls rest) y_M_mixed as := fun T hT X => mx_invS X hx hown (G.1.at 698 rfl rfl _ hW) (G.1.at 699 rfl rfl _ hW) (G.1.at 2 rfl rfl _ hW) (G.1.at 700 rfl rfl _ hW) ⟨⟨by decide, by decide⟩, by decide +kernel⟩ rfl hn rfl (by rw [hb]; exact d_M_pair_2)
set_option maxRecDepth 20000 in
theorem iv_M_findPlaces_22 {l : Launch} {s0 : State} {D : va_G} {cI cF cJ : ClassId} (G : Gx l s0 D cI cF cJ) {p : Program} {e : Env} {R : Room} {s : State} {m : MethodId} {args : Array Value} {below : List Frame} {meth : Method} {c : Code} {H : Heap} {locs : List Loc} {cells slots : Nat} {ls : Array Slot} (hx : p.tables.exec = Jvm.exec) (hb : c.code = b_M_findPlaces) (hown : s.vm.findClass "FewBitsModel" = some m.cls) (hW : s0.WarmedH s.vm) (as rest : List Value) (hn : as.length = 2) : ∀ T, T.heap = H → Stand p l e R s m args below meth c T locs cells slots → mx_Inv p l e R s m args below meth c T locs cells slots (F0 m 22 ls (as.reverse ++ rest)) (F0 m 22 ls rest) y_M_mixed as := fun T hT X => mx_invS X hx hown (G.1.at 698 rfl rfl _ hW) (G.1.at 699 rfl rfl _ hW) (G.1.at 2 rfl rfl _ hW) (G.1.at 700 rfl rfl _ hW) ⟨⟨by decide, by decide⟩, by decide +kernel⟩ rfl hn rfl (by rw [hb]; exact d_M_findPlaces_22)
set_option maxRecDepth 20000 in
theorem iv_M_findPlaces_31 {l : Launch} {s0 : State} {D : va_G} {cI cF cJ : ClassId} (G : Gx l s0 D cI cF cJ) {p : Program} {e : Env} {R : Room} {s : State} {m : MethodId} {args : Array Value} {below : List Frame} {meth : Method} {c : Code} {H : Heap} {locs : List Loc} {cells slots : Nat} {ls : Array Slot} (hx : p.tables.exec = Jvm.exec) (hb : c.code = b_M_findPlaces) (hown : s.vm.findClass "FewBitsModel" = some m.cls) (hW : s0.WarmedH s.vm) (as rest : List Value) (hn : as.length = 2) : ∀ T, T.heap = H → Stand p l e R s m args below meth c T locs cells slots → mx_Inv p l e R s m args below meth c T locs cells slots (F0 m 31 ls (as.reverse ++ rest)) (F0 m 31 ls rest) y_M_lowest as := fun T hT X => mx_invS X hx hown (G.1.at 735 rfl rfl _ hW) (G.1.at 736 rfl rfl _ hW) (G.1.at 2 rfl rfl _ hW) (G.1.at 737 rfl rfl _ hW) ⟨⟨by decide, by decide⟩, by decide +kernel⟩ rfl hn rfl (by rw [hb]; exact d_M_findPlaces_31)
set_option maxRecDepth 20000 in
theorem iv_M_isThere_49 {l : Launch} {s0 : State} {D : va_G} {cI cF cJ : ClassId} (G : Gx l s0 D cI cF cJ) {p : Program} {e : Env} {R : Room} {s : State} {m : MethodId} {args : Array Value} {below : List Frame} {meth : Method} {c : Code} {H : Heap} {locs : List Loc} {cells slots : Nat} {ls : Array Slot} (hx : p.tables.exec = Jvm.exec) (hb : c.code = b_M_isThere) (hown : s.vm.findClass "FewBitsModel" = some m.cls) (hW : s0.WarmedH s.vm) (as rest : List Value) (hn : as.length = 2) : ∀ T, T.heap = H → Stand p l e R s m args below meth c T locs cells slots → mx_Inv p l e R s m args below meth c T locs cells slots (F0 m 49 ls (as.reverse ++ rest)) (F0 m 49 ls rest) y_M_mixed as := fun T hT X => mx_invS X hx hown (G.1.at 698 rfl rfl _ hW) (G.1.at 699 rfl rfl _ hW) (G.1.at 2 rfl rfl _ hW) (G.1.at 700 rfl rfl _ hW) ⟨⟨by decide, by decide⟩, by decide +kernel⟩ rfl hn rfl (by rw [hb]; exact d_M_isThere_49)
set_option maxRecDepth 20000 in
theorem iv_M_isThere_58 {l : Launch} {s0 : State} {D : va_G} {cI cF cJ : ClassId} (G : Gx l s0 D cI cF cJ) {p : Program} {e : Env} {R : Room} {s : State} {m : MethodId} {args : Array Value} {below : List Frame} {meth : Method} {c : Code} {H : Heap} {locs : List Loc} {cells slots : Nat} {ls : Array Slot} (hx : p.tables.exec = Jvm.exec) (hb : c.code = b_M_isThere) (hown : s.vm.findClass "FewBitsModel" = some m.cls) (hW : s0.WarmedH s.vm) (as rest : List Value) (hn : as.length = 2) : ∀ T, T.heap = H → Stand p l e R s m args below meth c T locs cells slots → mx_Inv p l e R s m args below meth c T locs cells slots (F0 m 58 ls (as.reverse ++ rest)) (F0 m 58 ls rest) y_M_lowest as := fun T hT X => mx_invS X hx hown (G.1.at 735 rfl rfl _ hW) (G.1.at 736 rfl rfl _ hW) (G.1.at 2 rfl rfl _ hW) (G.1.at 737 rfl rfl _ hW) ⟨⟨by decide, by decide⟩, by decide +kernel⟩ rfl hn rfl (by rw [hb]; exact d_M_isThere_58)
set_option maxRecDepth 20000 in
theorem iv_M_isThere_95 {l : Launch} {s0 : State} {D : va_G} {cI cF cJ : ClassId} (G : Gx l s0 D cI cF cJ) {p : Program} {e : Env} {R : Room} {s : State} {m : MethodId} {args : Array Value} {below : List Frame} {meth : Method} {c : Code} {H : Heap} {locs : List Loc} {cells slots : Nat} {ls : Array Slot} (hx : p.tables.exec = Jvm.exec) (hb : c.code = b_M_isThere) (hown : s.vm.findClass "FewBitsModel" = some m.cls) (hW : s0.WarmedH s.vm) {b : Nat} (hob : mx_Ob s H "FewBitsModel" b) (as rest : List Value) (hn : as.length = 2) : ∀ T, T.heap = H → Stand p l e R s m args below meth c T locs cells slots → mx_Inv p l e R s m args below meth c T locs cells slots (F0 m 95 ls (as.reverse ++ .ref b :: rest)) (F0 m 95 ls rest) y_M_fingerprint (.ref b :: as) := fun T hT X => mx_invV X hT hx hown (G.1.at 745 rfl rfl _ hW) (G.1.at 747 rfl rfl _ hW) (G.1.sel 9 rfl _ hW) (G.1.at 748 rfl rfl _ hW) ⟨⟨by decide, by decide⟩, by decide +kernel⟩ hob rfl hn rfl (by rw [hb]; exact d_M_isThere_95)
set_option maxRecDepth 20000 in
theorem iv_M_isThere_103 {l : Launch} {s0 : State} {D : va_G} {cI cF cJ : ClassId} (G : Gx l s0 D cI cF cJ) {p : Program} {e : Env} {R : Room} {s : State} {m : MethodId} {args : Array Value} {below : List Frame} {meth : Method} {c : Code} {H : Heap} {locs : List Loc} {cells slots : Nat} {ls : Array Slot} (hx : p.tables.exec = Jvm.exec) (hb : c.code = b_M_isThere) (hown : s.vm.findClass "FewBitsModel" = some m.cls) (hW : s0.WarmedH s.vm) {b : Nat} (hob : mx_Ob s H "FewBitsModel" b) (as rest : List Value) (hn : as.length = 2) : ∀ T, T.heap = H → Stand p l e R s m args below meth c T locs cells slots → mx_Inv p l e R s m args below meth c T locs cells slots (F0 m 103 ls (as.reverse ++ .ref b :: rest)) (F0 m 103 ls rest) y_M_firstBucket (.ref b :: as) := fun T hT X => mx_invV X hT hx hown (G.1.at 749 rfl rfl _ hW) (G.1.at 751 rfl rfl _ hW) (G.1.sel 10 rfl _ hW) (G.1.at 752 rfl rfl _ hW) ⟨⟨by decide, by decide⟩, by decide +kernel⟩ hob rfl hn rfl (by rw [hb]; exact d_M_isThere_103)
set_option maxRecDepth 20000 in
theorem iv_M_isThere_119 {l : Launch} {s0 : State} {D : va_G} {cI cF cJ : ClassId} (G : Gx l s0 D cI cF cJ) {p : Program} {e : Env} {R : Room} {s : State} {m : MethodId} {args : Array Value} {below : List Frame} {meth : Method} {c : Code} {H : Heap} {locs : List Loc} {cells slots : Nat} {ls : Array Slot} (hx : p.tables.exec = Jvm.exec) (hb : c.code = b_M_isThere) (hown : s.vm.findClass "FewBitsModel" = some m.cls) (hW : s0.WarmedH s.vm) {b : Nat} (hob : mx_Ob s H "FewBitsModel" b) (as rest : List Value) (hn : as.length = 4) : ∀ T, T.heap = H → Stand p l e R s m args below meth c T locs cells slots → mx_Inv p l e R s m args below meth c T locs cells slots (F0 m 119 ls (as.reverse ++ .ref b :: rest)) (F0 m 119 ls rest) y_M_slotWith (.ref b :: as) := fun T hT X => mx_invV X hT hx hown (G.1.at 753 rfl rfl _ hW) (G.1.at 755 rfl rfl _ hW) (G.1.sel 11 rfl _ hW) (G.1.at 756 rfl rfl _ hW) ⟨⟨by decide, by decide⟩, by decide +kernel⟩ hob rfl hn rfl (by rw [hb]; exact d_M_isThere_119)
set_option maxRecDepth 20000 in
theorem iv_M_isThere_138 {l : Launch} {s0 : State} {D : va_G} {cI cF cJ : ClassId} (G : Gx l s0 D cI cF cJ) {p : Program} {e : Env} {R : Room} {s : State} {m : MethodId} {args : Array Value} {below : List Frame} {meth : Method} {c : Code} {H : Heap} {locs : List Loc} {cells slots : Nat} {ls : Array Slot} (hx : p.tables.exec = Jvm.exec) (hb : c.code = b_M_isThere) (hown : s.vm.findClass "FewBitsModel" = some m.cls) (hW : s0.WarmedH s.vm) {b : Nat} (hob : mx_Ob s H "FewBitsModel" b) (as rest : List Value) (hn : as.length = 3) : ∀ T, T.heap = H → Stand p l e R s m args below meth c T locs cells slots → mx_Inv p l e R s m args below meth c T locs cells slots (F0 m 138 ls (as.reverse ++ .ref b :: rest)) (F0 m 138 ls rest) y_M_otherBucket (.ref b :: as) := fun T hT X => mx_invV X hT hx hown (G.1.at 757 rfl rfl _ hW) (G.1.at 759 rfl rfl _ hW) (G.1.sel 12 rfl _ hW) (G.1.at 760 rfl rfl _ hW) ⟨⟨by decide, by decide⟩, by decide +kernel⟩ hob rfl hn rfl (by rw [hb]; exact d_M_isThere_138)
set_option maxRecDepth 20000 in
theorem iv_M_isThere_143 {l : Launch} {s0 : State} {D : va_G} {cI cF cJ : ClassId} (G : Gx l s0 D cI cF cJ) {p : Program} {e : Env} {R : Room} {s : State} {m : MethodId} {args : Array Value} {below : List Frame} {meth : Method} {c : Code} {H : Heap} {locs : List Loc} {cells slots : Nat} {ls : Array Slot} (hx : p.tables.exec = Jvm.exec) (hb : c.code = b_M_isThere) (hown : s.vm.findClass "FewBitsModel" = some m.cls) (hW : s0.WarmedH s.vm) {b : Nat} (hob : mx_Ob s H "FewBitsModel" b) (as rest : List Value) (hn : as.length = 4) : ∀ T, T.heap = H → Stand p l e R s m args below meth c T locs cells slots → mx_Inv p l e R s m args below meth c T locs cells slots (F0 m 143 ls (as.reverse ++ .ref b :: rest)) (F0 m 143 ls rest) y_M_slotWith (.ref b :: as) := fun T hT X => mx_invV X hT hx hown (G.1.at 753 rfl rfl _ hW) (G.1.at 755 rfl rfl _ hW) (G.1.sel 11 rfl _ hW) (G.1.at 756 rfl rfl _ hW) ⟨⟨by decide, by decide⟩, by decide +kernel⟩ hob rfl hn rfl (by rw [hb]; exact d_M_isThere_143)
set_option maxRecDepth 20000 in
theorem iv_M_isThere_160 {l : Launch} {s0 : State} {D : va_G} {cI cF cJ : ClassId} (G : Gx l s0 D cI cF cJ) {p : Program} {e : Env} {R : Room} {s : State} {m : MethodId} {args : Array Value} {below : List Frame} {meth : Method} {c : Code} {H : Heap} {locs : List Loc} {cells slots : Nat} {ls : Array Slot} (hx : p.tables.exec = Jvm.exec) (hb : c.code = b_M_isThere) (hown : s.vm.findClass "FewBitsModel" = some m.cls) (hW : s0.WarmedH s.vm) {b : Nat} (hob : mx_Ob s H "FewBitsModel" b) (as rest : List Value) (hn : as.length = 2) : ∀ T, T.heap = H → Stand p l e R s m args below meth c T locs cells slots → mx_Inv p l e R s m args below meth c T locs cells slots (F0 m 160 ls (as.reverse ++ .ref b :: rest)) (F0 m 160 ls rest) y_M_pair (.ref b :: as) := fun T hT X => mx_invV X hT hx hown (G.1.at 766 rfl rfl _ hW) (G.1.at 768 rfl rfl _ hW) (G.1.sel 14 rfl _ hW) (G.1.at 769 rfl rfl _ hW) ⟨⟨by decide, by decide⟩, by decide +kernel⟩ hob rfl hn rfl (by rw [hb]; exact d_M_isThere_160)
set_option maxRecDepth 20000 in
theorem iv_M_isThere_163 {l : Launch} {s0 : State} {D : va_G} {cI cF cJ : ClassId} (G : Gx l s0 D cI cF cJ) {p : Program} {e : Env} {R : Room} {s : State} {m : MethodId} {args : Array Value} {below : List Frame} {meth : Method} {c : Code} {H : Heap} {locs : List Loc} {cells slots : Nat} {ls : Array Slot} (hx : p.tables.exec = Jvm.exec) (hb : c.code = b_M_isThere) (hown : s.vm.findClass "FewBitsModel" = some m.cls) (hW : s0.WarmedH s.vm) {b : Nat} (hob : mx_Ob s H "FewBitsModel" b) (as rest : List Value) (hn : as.length = 2) : ∀ T, T.heap = H → Stand p l e R s m args below meth c T locs cells slots → mx_Inv p l e R s m args below meth c T locs cells slots (F0 m 163 ls (as.reverse ++ .ref b :: rest)) (F0 m 163 ls rest) y_M_findPair (.ref b :: as) := fun T hT X => mx_invV X hT hx hown (G.1.at 782 rfl rfl _ hW) (G.1.at 784 rfl rfl _ hW) (G.1.sel 16 rfl _ hW) (G.1.at 785 rfl rfl _ hW) ⟨⟨by decide, by decide⟩, by decide +kernel⟩ hob rfl hn rfl (by rw [hb]; exact d_M_isThere_163)
set_option maxRecDepth 20000 in
theorem iv_M_addCounted_7 {l : Launch} {s0 : State} {D : va_G} {cI cF cJ : ClassId} (G : Gx l s0 D cI cF cJ) {p : Program} {e : Env} {R : Room} {s : State} {m : MethodId} {args : Array Value} {below : List Frame} {meth : Method} {c : Code} {H : Heap} {locs : List Loc} {cells slots : Nat} {ls : Array Slot} (hx : p.tables.exec = Jvm.exec) (hb : c.code = b_M_addCounted) (hown : s.vm.findClass "FewBitsModel" = some m.cls) (hW : s0.WarmedH s.vm) {b : Nat} (hob : mx_Ob s H "FewBitsModel" b) (as rest : List Value) (hn : as.length = 3) : ∀ T, T.heap = H → Stand p l e R s m args below meth c T locs cells slots → mx_Inv p l e R s m args below meth c T locs cells slots (F0 m 7 ls (as.reverse ++ .ref b :: rest)) (F0 m 7 ls rest) y_M_findPlaces (.ref b :: as) := fun T hT X => mx_invV X hT hx hown (G.1.at 731 rfl rfl _ hW) (G.1.at 733 rfl rfl _ hW) (G.1.sel 7 rfl _ hW) (G.1.at 734 rfl rfl _ hW) ⟨⟨by decide, by decide⟩, by decide +kernel⟩ hob rfl hn rfl (by rw [hb]; exact d_M_addCounted_7)
set_option maxRecDepth 20000 in
theorem iv_M_addCounted_64 {l : Launch} {s0 : State} {D : va_G} {cI cF cJ : ClassId} (G : Gx l s0 D cI cF cJ) {p : Program} {e : Env} {R : Room} {s : State} {m : MethodId} {args : Array Value} {below : List Frame} {meth : Method} {c : Code} {H : Heap} {locs : List Loc} {cells slots : Nat} {ls : Array Slot} (hx : p.tables.exec = Jvm.exec) (hb : c.code = b_M_addCounted) (hown : s.vm.findClass "FewBitsModel" = some m.cls) (hW : s0.WarmedH s.vm) (as rest : List Value) (hn : as.length = 3) : ∀ T, T.heap = H → Stand p l e R s m args below meth c T locs cells slots → mx_Inv p l e R s m args below meth c T locs cells slots (F0 m 64 ls (as.reverse ++ rest)) (F0 m 64 ls rest) y_M_howOften as := fun T hT X => mx_invS X hx hown (G.1.at 738 rfl rfl _ hW) (G.1.at 739 rfl rfl _ hW) (G.1.at 2 rfl rfl _ hW) (G.1.at 740 rfl rfl _ hW) ⟨⟨by decide, by decide⟩, by decide +kernel⟩ rfl hn rfl (by rw [hb]; exact d_M_addCounted_64)
set_option maxRecDepth 20000 in
theorem iv_M_addPrint_10 {l : Launch} {s0 : State} {D : va_G} {cI cF cJ : ClassId} (G : Gx l s0 D cI cF cJ) {p : Program} {e : Env} {R : Room} {s : State} {m : MethodId} {args : Array Value} {below : List Frame} {meth : Method} {c : Code} {H : Heap} {locs : List Loc} {cells slots : Nat} {ls : Array Slot} (hx : p.tables.exec = Jvm.exec) (hb : c.code = b_M_addPrint) (hown : s.vm.findClass "FewBitsModel" = some m.cls) (hW : s0.WarmedH s.vm) {b : Nat} (hob : mx_Ob s H "FewBitsModel" b) (as rest : List Value) (hn : as.length = 2) : ∀ T, T.heap = H → Stand p l e R s m args below meth c T locs cells slots → mx_Inv p l e R s m args below meth c T locs cells slots (F0 m 10 ls (as.reverse ++ .ref b :: rest)) (F0 m 10 ls rest) y_M_fingerprint (.ref b :: as) := fun T hT X => mx_invV X hT hx hown (G.1.at 745 rfl rfl _ hW) (G.1.at 747 rfl rfl _ hW) (G.1.sel 9 rfl _ hW) (G.1.at 748 rfl rfl _ hW) ⟨⟨by decide, by decide⟩, by decide +kernel⟩ hob rfl hn rfl (by rw [hb]; exact d_M_addPrint_10)
set_option maxRecDepth 20000 in
theorem iv_M_addPrint_18 {l : Launch} {s0 : State} {D : va_G} {cI cF cJ : ClassId} (G : Gx l s0 D cI cF cJ) {p : Program} {e : Env} {R : Room} {s : State} {m : MethodId} {args : Array Value} {below : List Frame} {meth : Method} {c : Code} {H : Heap} {locs : List Loc} {cells slots : Nat} {ls : Array Slot} (hx : p.tables.exec = Jvm.exec) (hb : c.code = b_M_addPrint) (hown : s.vm.findClass "FewBitsModel" = some m.cls) (hW : s0.WarmedH s.vm) {b : Nat} (hob : mx_Ob s H "FewBitsModel" b) (as rest : List Value) (hn : as.length = 2) : ∀ T, T.heap = H → Stand p l e R s m args below meth c T locs cells slots → mx_Inv p l e R s m args below meth c T locs cells slots (F0 m 18 ls (as.reverse ++ .ref b :: rest)) (F0 m 18 ls rest) y_M_firstBucket (.ref b :: as) := fun T hT X => mx_invV X hT hx hown (G.1.at 749 rfl rfl _ hW) (G.1.at 751 rfl rfl _ hW) (G.1.sel 10 rfl _ hW) (G.1.at 752 rfl rfl _ hW) ⟨⟨by decide, by decide⟩, by decide +kernel⟩ hob rfl hn rfl (by rw [hb]; exact d_M_addPrint_18)
set_option maxRecDepth 20000 in
theorem iv_M_addPrint_33 {l : Launch} {s0 : State} {D : va_G} {cI cF cJ : ClassId} (G : Gx l s0 D cI cF cJ) {p : Program} {e : Env} {R : Room} {s : State} {m : MethodId} {args : Array Value} {below : List Frame} {meth : Method} {c : Code} {H : Heap} {locs : List Loc} {cells slots : Nat} {ls : Array Slot} (hx : p.tables.exec = Jvm.exec) (hb : c.code = b_M_addPrint) (hown : s.vm.findClass "FewBitsModel" = some m.cls) (hW : s0.WarmedH s.vm) {b : Nat} (hob : mx_Ob s H "FewBitsModel" b) (as rest : List Value) (hn : as.length = 4) : ∀ T, T.heap = H → Stand p l e R s m args below meth c T locs cells slots → mx_Inv p l e R s m args below meth c T locs cells slots (F0 m 33 ls (as.reverse ++ .ref b :: rest)) (F0 m 33 ls rest) y_M_slotWith (.ref b :: as) := fun T hT X => mx_invV X hT hx hown (G.1.at 753 rfl rfl _ hW) (G.1.at 755 rfl rfl _ hW) (G.1.sel 11 rfl _ hW) (G.1.at 756 rfl rfl _ hW) ⟨⟨by decide, by decide⟩, by decide +kernel⟩ hob rfl hn rfl (by rw [hb]; exact d_M_addPrint_33)
set_option maxRecDepth 20000 in
theorem iv_M_addPrint_54 {l : Launch} {s0 : State} {D : va_G} {cI cF cJ : ClassId} (G : Gx l s0 D cI cF cJ) {p : Program} {e : Env} {R : Room} {s : State} {m : MethodId} {args : Array Value} {below : List Frame} {meth : Method} {c : Code} {H : Heap} {locs : List Loc} {cells slots : Nat} {ls : Array Slot} (hx : p.tables.exec = Jvm.exec) (hb : c.code = b_M_addPrint) (hown : s.vm.findClass "FewBitsModel" = some m.cls) (hW : s0.WarmedH s.vm) {b : Nat} (hob : mx_Ob s H "FewBitsModel" b) (as rest : List Value) (hn : as.length = 3) : ∀ T, T.heap = H → Stand p l e R s m args below meth c T locs cells slots → mx_Inv p l e R s m args below meth c T locs cells slots (F0 m 54 ls (as.reverse ++ .ref b :: rest)) (F0 m 54 ls rest) y_M_otherBucket (.ref b :: as) := fun T hT X => mx_invV X hT hx hown (G.1.at 757 rfl rfl _ hW) (G.1.at 759 rfl rfl _ hW) (G.1.sel 12 rfl _ hW) (G.1.at 760 rfl rfl _ hW) ⟨⟨by decide, by decide⟩, by decide +kernel⟩ hob rfl hn rfl (by rw [hb]; exact d_M_addPrint_54)
set_option maxRecDepth 20000 in
theorem iv_M_addPrint_79 {l : Launch} {s0 : State} {D : va_G} {cI cF cJ : ClassId} (G : Gx l s0 D cI cF cJ) {p : Program} {e : Env} {R : Room} {s : State} {m : MethodId} {args : Array Value} {below : List Frame} {meth : Method} {c : Code} {H : Heap} {locs : List Loc} {cells slots : Nat} {ls : Array Slot} (hx : p.tables.exec = Jvm.exec) (hb : c.code = b_M_addPrint) (hown : s.vm.findClass "FewBitsModel" = some m.cls) (hW : s0.WarmedH s.vm) {b : Nat} (hob : mx_Ob s H "FewBitsModel" b) (as rest : List Value) (hn : as.length = 4) : ∀ T, T.heap = H → Stand p l e R s m args below meth c T locs cells slots → mx_Inv p l e R s m args below meth c T locs cells slots (F0 m 79 ls (as.reverse ++ .ref b :: rest)) (F0 m 79 ls rest) y_M_slotWith (.ref b :: as) := fun T hT X => mx_invV X hT hx hown (G.1.at 753 rfl rfl _ hW) (G.1.at 755 rfl rfl _ hW) (G.1.sel 11 rfl _ hW) (G.1.at 756 rfl rfl _ hW) ⟨⟨by decide, by decide⟩, by decide +kernel⟩ hob rfl hn rfl (by rw [hb]; exact d_M_addPrint_79)
set_option maxRecDepth 20000 in
theorem iv_M_addPrint_206 {l : Launch} {s0 : State} {D : va_G} {cI cF cJ : ClassId} (G : Gx l s0 D cI cF cJ) {p : Program} {e : Env} {R : Room} {s : State} {m : MethodId} {args : Array Value} {below : List Frame} {meth : Method} {c : Code} {H : Heap} {locs : List Loc} {cells slots : Nat} {ls : Array Slot} (hx : p.tables.exec = Jvm.exec) (hb : c.code = b_M_addPrint) (hown : s.vm.findClass "FewBitsModel" = some m.cls) (hW : s0.WarmedH s.vm) {b : Nat} (hob : mx_Ob s H "FewBitsModel" b) (as rest : List Value) (hn : as.length = 3) : ∀ T, T.heap = H → Stand p l e R s m args below meth c T locs cells slots → mx_Inv p l e R s m args below meth c T locs cells slots (F0 m 206 ls (as.reverse ++ .ref b :: rest)) (F0 m 206 ls rest) y_M_otherBucket (.ref b :: as) := fun T hT X => mx_invV X hT hx hown (G.1.at 757 rfl rfl _ hW) (G.1.at 759 rfl rfl _ hW) (G.1.sel 12 rfl _ hW) (G.1.at 760 rfl rfl _ hW) ⟨⟨by decide, by decide⟩, by decide +kernel⟩ hob rfl hn rfl (by rw [hb]; exact d_M_addPrint_206)
set_option maxRecDepth 20000 in
theorem iv_M_addPrint_220 {l : Launch} {s0 : State} {D : va_G} {cI cF cJ : ClassId} (G : Gx l s0 D cI cF cJ) {p : Program} {e : Env} {R : Room} {s : State} {m : MethodId} {args : Array Value} {below : List Frame} {meth : Method} {c : Code} {H : Heap} {locs : List Loc} {cells slots : Nat} {ls : Array Slot} (hx : p.tables.exec = Jvm.exec) (hb : c.code = b_M_addPrint) (hown : s.vm.findClass "FewBitsModel" = some m.cls) (hW : s0.WarmedH s.vm) {b : Nat} (hob : mx_Ob s H "FewBitsModel" b) (as rest : List Value) (hn : as.length = 4) : ∀ T, T.heap = H → Stand p l e R s m args below meth c T locs cells slots → mx_Inv p l e R s m args below meth c T locs cells slots (F0 m 220 ls (as.reverse ++ .ref b :: rest)) (F0 m 220 ls rest) y_M_slotWith (.ref b :: as) := fun T hT X => mx_invV X hT hx hown (G.1.at 753 rfl rfl _ hW) (G.1.at 755 rfl rfl _ hW) (G.1.sel 11 rfl _ hW) (G.1.at 756 rfl rfl _ hW) ⟨⟨by decide, by decide⟩, by decide +kernel⟩ hob rfl hn rfl (by rw [hb]; exact d_M_addPrint_220)
set_option maxRecDepth 20000 in
theorem iv_M_addPair_30 {l : Launch} {s0 : State} {D : va_G} {cI cF cJ : ClassId} (G : Gx l s0 D cI cF cJ) {p : Program} {e : Env} {R : Room} {s : State} {m : MethodId} {args : Array Value} {below : List Frame} {meth : Method} {c : Code} {H : Heap} {locs : List Loc} {cells slots : Nat} {ls : Array Slot} (hx : p.tables.exec = Jvm.exec) (hb : c.code = b_M_addPair) (hown : s.vm.findClass "FewBitsModel" = some m.cls) (hW : s0.WarmedH s.vm) {b : Nat} (hob : mx_Ob s H "FewBitsModel" b) (as rest : List Value) (hn : as.length = 2) : ∀ T, T.heap = H → Stand p l e R s m args below meth c T locs cells slots → mx_Inv p l e R s m args below meth c T locs cells slots (F0 m 30 ls (as.reverse ++ .ref b :: rest)) (F0 m 30 ls rest) y_M_pair (.ref b :: as) := fun T hT X => mx_invV X hT hx hown (G.1.at 766 rfl rfl _ hW) (G.1.at 768 rfl rfl _ hW) (G.1.sel 14 rfl _ hW) (G.1.at 769 rfl rfl _ hW) ⟨⟨by decide, by decide⟩, by decide +kernel⟩ hob rfl hn rfl (by rw [hb]; exact d_M_addPair_30)
set_option maxRecDepth 20000 in
theorem iv_M_addPair_33 {l : Launch} {s0 : State} {D : va_G} {cI cF cJ : ClassId} (G : Gx l s0 D cI cF cJ) {p : Program} {e : Env} {R : Room} {s : State} {m : MethodId} {args : Array Value} {below : List Frame} {meth : Method} {c : Code} {H : Heap} {locs : List Loc} {cells slots : Nat} {ls : Array Slot} (hx : p.tables.exec = Jvm.exec) (hb : c.code = b_M_addPair) (hown : s.vm.findClass "FewBitsModel" = some m.cls) (hW : s0.WarmedH s.vm) {b : Nat} (hob : mx_Ob s H "FewBitsModel" b) (as rest : List Value) (hn : as.length = 3) : ∀ T, T.heap = H → Stand p l e R s m args below meth c T locs cells slots → mx_Inv p l e R s m args below meth c T locs cells slots (F0 m 33 ls (as.reverse ++ .ref b :: rest)) (F0 m 33 ls rest) y_M_insertPair (.ref b :: as) := fun T hT X => mx_invV X hT hx hown (G.1.at 770 rfl rfl _ hW) (G.1.at 772 rfl rfl _ hW) (G.1.sel 15 rfl _ hW) (G.1.at 773 rfl rfl _ hW) ⟨⟨by decide, by decide⟩, by decide +kernel⟩ hob rfl hn rfl (by rw [hb]; exact d_M_addPair_33)
set_option maxRecDepth 20000 in
theorem iv_M_addOne_14 {l : Launch} {s0 : State} {D : va_G} {cI cF cJ : ClassId} (G : Gx l s0 D cI cF cJ) {p : Program} {e : Env} {R : Room} {s : State} {m : MethodId} {args : Array Value} {below : List Frame} {meth : Method} {c : Code} {H : Heap} {locs : List Loc} {cells slots : Nat} {ls : Array Slot} (hx : p.tables.exec = Jvm.exec) (hb : c.code = b_M_addOne) (hown : s.vm.findClass "FewBitsModel" = some m.cls) (hW : s0.WarmedH s.vm) {b : Nat} (hob : mx_Ob s H "FewBitsModel" b) (as rest : List Value) (hn : as.length = 3) : ∀ T, T.heap = H → Stand p l e R s m args below meth c T locs cells slots → mx_Inv p l e R s m args below meth c T locs cells slots (F0 m 14 ls (as.reverse ++ .ref b :: rest)) (F0 m 14 ls rest) y_M_addCounted (.ref b :: as) := fun T hT X => mx_invV X hT hx hown (G.1.at 727 rfl rfl _ hW) (G.1.at 729 rfl rfl _ hW) (G.1.sel 6 rfl _ hW) (G.1.at 730 rfl rfl _ hW) ⟨⟨by decide, by decide⟩, by decide +kernel⟩ hob rfl hn rfl (by rw [hb]; exact d_M_addOne_14)
set_option maxRecDepth 20000 in
theorem iv_M_addOne_33 {l : Launch} {s0 : State} {D : va_G} {cI cF cJ : ClassId} (G : Gx l s0 D cI cF cJ) {p : Program} {e : Env} {R : Room} {s : State} {m : MethodId} {args : Array Value} {below : List Frame} {meth : Method} {c : Code} {H : Heap} {locs : List Loc} {cells slots : Nat} {ls : Array Slot} (hx : p.tables.exec = Jvm.exec) (hb : c.code = b_M_addOne) (hown : s.vm.findClass "FewBitsModel" = some m.cls) (hW : s0.WarmedH s.vm) {b : Nat} (hob : mx_Ob s H "FewBitsModel" b) (as rest : List Value) (hn : as.length = 2) : ∀ T, T.heap = H → Stand p l e R s m args below meth c T locs cells slots → mx_Inv p l e R s m args below meth c T locs cells slots (F0 m 33 ls (as.reverse ++ .ref b :: rest)) (F0 m 33 ls rest) y_M_addPrint (.ref b :: as) := fun T hT X => mx_invV X hT hx hown (G.1.at 741 rfl rfl _ hW) (G.1.at 743 rfl rfl _ hW) (G.1.sel 8 rfl _ hW) (G.1.at 744 rfl rfl _ hW) ⟨⟨by decide, by decide⟩, by decide +kernel⟩ hob rfl hn rfl (by rw [hb]; exact d_M_addOne_33)
set_option maxRecDepth 20000 in
theorem iv_M_addOne_42 {l : Launch} {s0 : State} {D : va_G} {cI cF cJ : ClassId} (G : Gx l s0 D cI cF cJ) {p : Program} {e : Env} {R : Room} {s : State} {m : MethodId} {args : Array Value} {below : List Frame} {meth : Method} {c : Code} {H : Heap} {locs : List Loc} {cells slots : Nat} {ls : Array Slot} (hx : p.tables.exec = Jvm.exec) (hb : c.code = b_M_addOne) (hown : s.vm.findClass "FewBitsModel" = some m.cls) (hW : s0.WarmedH s.vm) {b : Nat} (hob : mx_Ob s H "FewBitsModel" b) (as rest : List Value) (hn : as.length = 2) : ∀ T, T.heap = H → Stand p l e R s m args below meth c T locs cells slots → mx_Inv p l e R s m args below meth c T locs cells slots (F0 m 42 ls (as.reverse ++ .ref b :: rest)) (F0 m 42 ls rest) y_M_addPair (.ref b :: as) := fun T hT X => mx_invV X hT hx hown (G.1.at 762 rfl rfl _ hW) (G.1.at 764 rfl rfl _ hW) (G.1.sel 13 rfl _ hW) (G.1.at 765 rfl rfl _ hW) ⟨⟨by decide, by decide⟩, by decide +kernel⟩ hob rfl hn rfl (by rw [hb]; exact d_M_addOne_42)
set_option maxRecDepth 20000 in
theorem iv_M_make_96 {l : Launch} {s0 : State} {D : va_G} {cI cF cJ : ClassId} (G : Gx l s0 D cI cF cJ) {p : Program} {e : Env} {R : Room} {s : State} {m : MethodId} {args : Array Value} {below : List Frame} {meth : Method} {c : Code} {H : Heap} {locs : List Loc} {cells slots : Nat} {ls : Array Slot} (hx : p.tables.exec = Jvm.exec) (hb : c.code = b_M_make) (hown : s.vm.findClass "FewBitsModel" = some m.cls) (hW : s0.WarmedH s.vm) (as rest : List Value) (hn : as.length = 1) : ∀ T, T.heap = H → Stand p l e R s m args below meth c T locs cells slots → mx_Inv p l e R s m args below meth c T locs cells slots (F0 m 96 ls (as.reverse ++ rest)) (F0 m 96 ls rest) y_M_isNumber as := fun T hT X => mx_invS X hx hown (G.1.at 708 rfl rfl _ hW) (G.1.at 709 rfl rfl _ hW) (G.1.at 2 rfl rfl _ hW) (G.1.at 710 rfl rfl _ hW) ⟨⟨by decide, by decide⟩, by decide +kernel⟩ rfl hn rfl (by rw [hb]; exact d_M_make_96)
set_option maxRecDepth 20000 in
theorem iv_M_make_150 {l : Launch} {s0 : State} {D : va_G} {cI cF cJ : ClassId} (G : Gx l s0 D cI cF cJ) {p : Program} {e : Env} {R : Room} {s : State} {m : MethodId} {args : Array Value} {below : List Frame} {meth : Method} {c : Code} {H : Heap} {locs : List Loc} {cells slots : Nat} {ls : Array Slot} (hx : p.tables.exec = Jvm.exec) (hb : c.code = b_M_make) (hown : s.vm.findClass "FewBitsModel" = some m.cls) (hW : s0.WarmedH s.vm) {b : Nat} (hob : mx_Ob s H "FewBitsModel" b) (as rest : List Value) (hn : as.length = 1) : ∀ T, T.heap = H → Stand p l e R s m args below meth c T locs cells slots → mx_Inv p l e R s m args below meth c T locs cells slots (F0 m 150 ls (as.reverse ++ .ref b :: rest)) (F0 m 150 ls rest) y_M_empty (.ref b :: as) := fun T hT X => mx_invV X hT hx hown (G.1.at 711 rfl rfl _ hW) (G.1.at 713 rfl rfl _ hW) (G.1.sel 3 rfl _ hW) (G.1.at 714 rfl rfl _ hW) ⟨⟨by decide, by decide⟩, by decide +kernel⟩ hob rfl hn rfl (by rw [hb]; exact d_M_make_150)
set_option maxRecDepth 20000 in
theorem iv_M_add_3 {l : Launch} {s0 : State} {D : va_G} {cI cF cJ : ClassId} (G : Gx l s0 D cI cF cJ) {p : Program} {e : Env} {R : Room} {s : State} {m : MethodId} {args : Array Value} {below : List Frame} {meth : Method} {c : Code} {H : Heap} {locs : List Loc} {cells slots : Nat} {ls : Array Slot} (hx : p.tables.exec = Jvm.exec) (hb : c.code = b_M_add) (hown : s.vm.findClass "FewBitsModel" = some m.cls) (hW : s0.WarmedH s.vm) {b : Nat} (hob : mx_Ob s H "FewBitsModel" b) (as rest : List Value) (hn : as.length = 1) : ∀ T, T.heap = H → Stand p l e R s m args below meth c T locs cells slots → mx_Inv p l e R s m args below meth c T locs cells slots (F0 m 3 ls (as.reverse ++ .ref b :: rest)) (F0 m 3 ls rest) y_M_wrong (.ref b :: as) := fun T hT X => mx_invV X hT hx hown (G.1.at 719 rfl rfl _ hW) (G.1.at 721 rfl rfl _ hW) (G.1.sel 4 rfl _ hW) (G.1.at 722 rfl rfl _ hW) ⟨⟨by decide, by decide⟩, by decide +kernel⟩ hob rfl hn rfl (by rw [hb]; exact d_M_add_3)
set_option maxRecDepth 20000 in
theorem iv_M_add_22 {l : Launch} {s0 : State} {D : va_G} {cI cF cJ : ClassId} (G : Gx l s0 D cI cF cJ) {p : Program} {e : Env} {R : Room} {s : State} {m : MethodId} {args : Array Value} {below : List Frame} {meth : Method} {c : Code} {H : Heap} {locs : List Loc} {cells slots : Nat} {ls : Array Slot} (hx : p.tables.exec = Jvm.exec) (hb : c.code = b_M_add) (hown : s.vm.findClass "FewBitsModel" = some m.cls) (hW : s0.WarmedH s.vm) {b : Nat} (hob : mx_Ob s H "FewBitsModel" b) (as rest : List Value) (hn : as.length = 2) : ∀ T, T.heap = H → Stand p l e R s m args below meth c T locs cells slots → mx_Inv p l e R s m args below meth c T locs cells slots (F0 m 22 ls (as.reverse ++ .ref b :: rest)) (F0 m 22 ls rest) y_M_addOne (.ref b :: as) := fun T hT X => mx_invV X hT hx hown (G.1.at 723 rfl rfl _ hW) (G.1.at 725 rfl rfl _ hW) (G.1.sel 5 rfl _ hW) (G.1.at 726 rfl rfl _ hW) ⟨⟨by decide, by decide⟩, by decide +kernel⟩ hob rfl hn rfl (by rw [hb]; exact d_M_add_22)
set_option maxRecDepth 20000 in
theorem iv_M_addAll_3 {l : Launch} {s0 : State} {D : va_G} {cI cF cJ : ClassId} (G : Gx l s0 D cI cF cJ) {p : Program} {e : Env} {R : Room} {s : State} {m : MethodId} {args : Array Value} {below : List Frame} {meth : Method} {c : Code} {H : Heap} {locs : List Loc} {cells slots : Nat} {ls : Array Slot} (hx : p.tables.exec = Jvm.exec) (hb : c.code = b_M_addAll) (hown : s.vm.findClass "FewBitsModel" = some m.cls) (hW : s0.WarmedH s.vm) {b : Nat} (hob : mx_Ob s H "FewBitsModel" b) (as rest : List Value) (hn : as.length = 1) : ∀ T, T.heap = H → Stand p l e R s m args below meth c T locs cells slots → mx_Inv p l e R s m args below meth c T locs cells slots (F0 m 3 ls (as.reverse ++ .ref b :: rest)) (F0 m 3 ls rest) y_M_wrong (.ref b :: as) := fun T hT X => mx_invV X hT hx hown (G.1.at 719 rfl rfl _ hW) (G.1.at 721 rfl rfl _ hW) (G.1.sel 4 rfl _ hW) (G.1.at 722 rfl rfl _ hW) ⟨⟨by decide, by decide⟩, by decide +kernel⟩ hob rfl hn rfl (by rw [hb]; exact d_M_addAll_3)
set_option maxRecDepth 20000 in
theorem iv_M_addAll_11 {l : Launch} {s0 : State} {D : va_G} {cI cF cJ : ClassId} (G : Gx l s0 D cI cF cJ) {p : Program} {e : Env} {R : Room} {s : State} {m : MethodId} {args : Array Value} {below : List Frame} {meth : Method} {c : Code} {H : Heap} {locs : List Loc} {cells slots : Nat} {ls : Array Slot} (hx : p.tables.exec = Jvm.exec) (hb : c.code = b_M_addAll) (hown : s.vm.findClass "FewBitsModel" = some m.cls) (hW : s0.WarmedH s.vm) {b : Nat} (hob : mx_Ob s H "FewBitsModel" b) (as rest : List Value) (hn : as.length = 1) : ∀ T, T.heap = H → Stand p l e R s m args below meth c T locs cells slots → mx_Inv p l e R s m args below meth c T locs cells slots (F0 m 11 ls (as.reverse ++ .ref b :: rest)) (F0 m 11 ls rest) y_M_wrong (.ref b :: as) := fun T hT X => mx_invV X hT hx hown (G.1.at 719 rfl rfl _ hW) (G.1.at 721 rfl rfl _ hW) (G.1.sel 4 rfl _ hW) (G.1.at 722 rfl rfl _ hW) ⟨⟨by decide, by decide⟩, by decide +kernel⟩ hob rfl hn rfl (by rw [hb]; exact d_M_addAll_11)
set_option maxRecDepth 20000 in
theorem iv_M_addAll_67 {l : Launch} {s0 : State} {D : va_G} {cI cF cJ : ClassId} (G : Gx l s0 D cI cF cJ) {p : Program} {e : Env} {R : Room} {s : State} {m : MethodId} {args : Array Value} {below : List Frame} {meth : Method} {c : Code} {H : Heap} {locs : List Loc} {cells slots : Nat} {ls : Array Slot} (hx : p.tables.exec = Jvm.exec) (hb : c.code = b_M_addAll) (hown : s.vm.findClass "FewBitsModel" = some m.cls) (hW : s0.WarmedH s.vm) {b : Nat} (hob : mx_Ob s H "FewBitsModel" b) (as rest : List Value) (hn : as.length = 2) : ∀ T, T.heap = H → Stand p l e R s m args below meth c T locs cells slots → mx_Inv p l e R s m args below meth c T locs cells slots (F0 m 67 ls (as.reverse ++ .ref b :: rest)) (F0 m 67 ls rest) y_M_addOne (.ref b :: as) := fun T hT X => mx_invV X hT hx hown (G.1.at 723 rfl rfl _ hW) (G.1.at 725 rfl rfl _ hW) (G.1.sel 5 rfl _ hW) (G.1.at 726 rfl rfl _ hW) ⟨⟨by decide, by decide⟩, by decide +kernel⟩ hob rfl hn rfl (by rw [hb]; exact d_M_addAll_67)
set_option maxRecDepth 20000 in
theorem iv_M_remove_3 {l : Launch} {s0 : State} {D : va_G} {cI cF cJ : ClassId} (G : Gx l s0 D cI cF cJ) {p : Program} {e : Env} {R : Room} {s : State} {m : MethodId} {args : Array Value} {below : List Frame} {meth : Method} {c : Code} {H : Heap} {locs : List Loc} {cells slots : Nat} {ls : Array Slot} (hx : p.tables.exec = Jvm.exec) (hb : c.code = b_M_remove) (hown : s.vm.findClass "FewBitsModel" = some m.cls) (hW : s0.WarmedH s.vm) {b : Nat} (hob : mx_Ob s H "FewBitsModel" b) (as rest : List Value) (hn : as.length = 1) : ∀ T, T.heap = H → Stand p l e R s m args below meth c T locs cells slots → mx_Inv p l e R s m args below meth c T locs cells slots (F0 m 3 ls (as.reverse ++ .ref b :: rest)) (F0 m 3 ls rest) y_M_wrong (.ref b :: as) := fun T hT X => mx_invV X hT hx hown (G.1.at 719 rfl rfl _ hW) (G.1.at 721 rfl rfl _ hW) (G.1.sel 4 rfl _ hW) (G.1.at 722 rfl rfl _ hW) ⟨⟨by decide, by decide⟩, by decide +kernel⟩ hob rfl hn rfl (by rw [hb]; exact d_M_remove_3)
set_option maxRecDepth 20000 in
theorem iv_M_remove_35 {l : Launch} {s0 : State} {D : va_G} {cI cF cJ : ClassId} (G : Gx l s0 D cI cF cJ) {p : Program} {e : Env} {R : Room} {s : State} {m : MethodId} {args : Array Value} {below : List Frame} {meth : Method} {c : Code} {H : Heap} {locs : List Loc} {cells slots : Nat} {ls : Array Slot} (hx : p.tables.exec = Jvm.exec) (hb : c.code = b_M_remove) (hown : s.vm.findClass "FewBitsModel" = some m.cls) (hW : s0.WarmedH s.vm) {b : Nat} (hob : mx_Ob s H "FewBitsModel" b) (as rest : List Value) (hn : as.length = 3) : ∀ T, T.heap = H → Stand p l e R s m args below meth c T locs cells slots → mx_Inv p l e R s m args below meth c T locs cells slots (F0 m 35 ls (as.reverse ++ .ref b :: rest)) (F0 m 35 ls rest) y_M_addCounted (.ref b :: as) := fun T hT X => mx_invV X hT hx hown (G.1.at 727 rfl rfl _ hW) (G.1.at 729 rfl rfl _ hW) (G.1.sel 6 rfl _ hW) (G.1.at 730 rfl rfl _ hW) ⟨⟨by decide, by decide⟩, by decide +kernel⟩ hob rfl hn rfl (by rw [hb]; exact d_M_remove_35)
set_option maxRecDepth 20000 in
theorem iv_M_remove_56 {l : Launch} {s0 : State} {D : va_G} {cI cF cJ : ClassId} (G : Gx l s0 D cI cF cJ) {p : Program} {e : Env} {R : Room} {s : State} {m : MethodId} {args : Array Value} {below : List Frame} {meth : Method} {c : Code} {H : Heap} {locs : List Loc} {cells slots : Nat} {ls : Array Slot} (hx : p.tables.exec = Jvm.exec) (hb : c.code = b_M_remove) (hown : s.vm.findClass "FewBitsModel" = some m.cls) (hW : s0.WarmedH s.vm) {b : Nat} (hob : mx_Ob s H "FewBitsModel" b) (as rest : List Value) (hn : as.length = 2) : ∀ T, T.heap = H → Stand p l e R s m args below meth c T locs cells slots → mx_Inv p l e R s m args below meth c T locs cells slots (F0 m 56 ls (as.reverse ++ .ref b :: rest)) (F0 m 56 ls rest) y_M_fingerprint (.ref b :: as) := fun T hT X => mx_invV X hT hx hown (G.1.at 745 rfl rfl _ hW) (G.1.at 747 rfl rfl _ hW) (G.1.sel 9 rfl _ hW) (G.1.at 748 rfl rfl _ hW) ⟨⟨by decide, by decide⟩, by decide +kernel⟩ hob rfl hn rfl (by rw [hb]; exact d_M_remove_56)
set_option maxRecDepth 20000 in
theorem iv_M_remove_64 {l : Launch} {s0 : State} {D : va_G} {cI cF cJ : ClassId} (G : Gx l s0 D cI cF cJ) {p : Program} {e : Env} {R : Room} {s : State} {m : MethodId} {args : Array Value} {below : List Frame} {meth : Method} {c : Code} {H : Heap} {locs : List Loc} {cells slots : Nat} {ls : Array Slot} (hx : p.tables.exec = Jvm.exec) (hb : c.code = b_M_remove) (hown : s.vm.findClass "FewBitsModel" = some m.cls) (hW : s0.WarmedH s.vm) {b : Nat} (hob : mx_Ob s H "FewBitsModel" b) (as rest : List Value) (hn : as.length = 2) : ∀ T, T.heap = H → Stand p l e R s m args below meth c T locs cells slots → mx_Inv p l e R s m args below meth c T locs cells slots (F0 m 64 ls (as.reverse ++ .ref b :: rest)) (F0 m 64 ls rest) y_M_firstBucket (.ref b :: as) := fun T hT X => mx_invV X hT hx hown (G.1.at 749 rfl rfl _ hW) (G.1.at 751 rfl rfl _ hW) (G.1.sel 10 rfl _ hW) (G.1.at 752 rfl rfl _ hW) ⟨⟨by decide, by decide⟩, by decide +kernel⟩ hob rfl hn rfl (by rw [hb]; exact d_M_remove_64)
set_option maxRecDepth 20000 in
theorem iv_M_remove_83 {l : Launch} {s0 : State} {D : va_G} {cI cF cJ : ClassId} (G : Gx l s0 D cI cF cJ) {p : Program} {e : Env} {R : Room} {s : State} {m : MethodId} {args : Array Value} {below : List Frame} {meth : Method} {c : Code} {H : Heap} {locs : List Loc} {cells slots : Nat} {ls : Array Slot} (hx : p.tables.exec = Jvm.exec) (hb : c.code = b_M_remove) (hown : s.vm.findClass "FewBitsModel" = some m.cls) (hW : s0.WarmedH s.vm) {b : Nat} (hob : mx_Ob s H "FewBitsModel" b) (as rest : List Value) (hn : as.length = 4) : ∀ T, T.heap = H → Stand p l e R s m args below meth c T locs cells slots → mx_Inv p l e R s m args below meth c T locs cells slots (F0 m 83 ls (as.reverse ++ .ref b :: rest)) (F0 m 83 ls rest) y_M_slotWith (.ref b :: as) := fun T hT X => mx_invV X hT hx hown (G.1.at 753 rfl rfl _ hW) (G.1.at 755 rfl rfl _ hW) (G.1.sel 11 rfl _ hW) (G.1.at 756 rfl rfl _ hW) ⟨⟨by decide, by decide⟩, by decide +kernel⟩ hob rfl hn rfl (by rw [hb]; exact d_M_remove_83)
set_option maxRecDepth 20000 in
theorem iv_M_remove_114 {l : Launch} {s0 : State} {D : va_G} {cI cF cJ : ClassId} (G : Gx l s0 D cI cF cJ) {p : Program} {e : Env} {R : Room} {s : State} {m : MethodId} {args : Array Value} {below : List Frame} {meth : Method} {c : Code} {H : Heap} {locs : List Loc} {cells slots : Nat} {ls : Array Slot} (hx : p.tables.exec = Jvm.exec) (hb : c.code = b_M_remove) (hown : s.vm.findClass "FewBitsModel" = some m.cls) (hW : s0.WarmedH s.vm) {b : Nat} (hob : mx_Ob s H "FewBitsModel" b) (as rest : List Value) (hn : as.length = 3) : ∀ T, T.heap = H → Stand p l e R s m args below meth c T locs cells slots → mx_Inv p l e R s m args below meth c T locs cells slots (F0 m 114 ls (as.reverse ++ .ref b :: rest)) (F0 m 114 ls rest) y_M_otherBucket (.ref b :: as) := fun T hT X => mx_invV X hT hx hown (G.1.at 757 rfl rfl _ hW) (G.1.at 759 rfl rfl _ hW) (G.1.sel 12 rfl _ hW) (G.1.at 760 rfl rfl _ hW) ⟨⟨by decide, by decide⟩, by decide +kernel⟩ hob rfl hn rfl (by rw [hb]; exact d_M_remove_114)
set_option maxRecDepth 20000 in
theorem iv_M_remove_119 {l : Launch} {s0 : State} {D : va_G} {cI cF cJ : ClassId} (G : Gx l s0 D cI cF cJ) {p : Program} {e : Env} {R : Room} {s : State} {m : MethodId} {args : Array Value} {below : List Frame} {meth : Method} {c : Code} {H : Heap} {locs : List Loc} {cells slots : Nat} {ls : Array Slot} (hx : p.tables.exec = Jvm.exec) (hb : c.code = b_M_remove) (hown : s.vm.findClass "FewBitsModel" = some m.cls) (hW : s0.WarmedH s.vm) {b : Nat} (hob : mx_Ob s H "FewBitsModel" b) (as rest : List Value) (hn : as.length = 4) : ∀ T, T.heap = H → Stand p l e R s m args below meth c T locs cells slots → mx_Inv p l e R s m args below meth c T locs cells slots (F0 m 119 ls (as.reverse ++ .ref b :: rest)) (F0 m 119 ls rest) y_M_slotWith (.ref b :: as) := fun T hT X => mx_invV X hT hx hown (G.1.at 753 rfl rfl _ hW) (G.1.at 755 rfl rfl _ hW) (G.1.sel 11 rfl _ hW) (G.1.at 756 rfl rfl _ hW) ⟨⟨by decide, by decide⟩, by decide +kernel⟩ hob rfl hn rfl (by rw [hb]; exact d_M_remove_119)
set_option maxRecDepth 20000 in
theorem iv_M_remove_157 {l : Launch} {s0 : State} {D : va_G} {cI cF cJ : ClassId} (G : Gx l s0 D cI cF cJ) {p : Program} {e : Env} {R : Room} {s : State} {m : MethodId} {args : Array Value} {below : List Frame} {meth : Method} {c : Code} {H : Heap} {locs : List Loc} {cells slots : Nat} {ls : Array Slot} (hx : p.tables.exec = Jvm.exec) (hb : c.code = b_M_remove) (hown : s.vm.findClass "FewBitsModel" = some m.cls) (hW : s0.WarmedH s.vm) {b : Nat} (hob : mx_Ob s H "FewBitsModel" b) (as rest : List Value) (hn : as.length = 2) : ∀ T, T.heap = H → Stand p l e R s m args below meth c T locs cells slots → mx_Inv p l e R s m args below meth c T locs cells slots (F0 m 157 ls (as.reverse ++ .ref b :: rest)) (F0 m 157 ls rest) y_M_pair (.ref b :: as) := fun T hT X => mx_invV X hT hx hown (G.1.at 766 rfl rfl _ hW) (G.1.at 768 rfl rfl _ hW) (G.1.sel 14 rfl _ hW) (G.1.at 769 rfl rfl _ hW) ⟨⟨by decide, by decide⟩, by decide +kernel⟩ hob rfl hn rfl (by rw [hb]; exact d_M_remove_157)
set_option maxRecDepth 20000 in
theorem iv_M_remove_160 {l : Launch} {s0 : State} {D : va_G} {cI cF cJ : ClassId} (G : Gx l s0 D cI cF cJ) {p : Program} {e : Env} {R : Room} {s : State} {m : MethodId} {args : Array Value} {below : List Frame} {meth : Method} {c : Code} {H : Heap} {locs : List Loc} {cells slots : Nat} {ls : Array Slot} (hx : p.tables.exec = Jvm.exec) (hb : c.code = b_M_remove) (hown : s.vm.findClass "FewBitsModel" = some m.cls) (hW : s0.WarmedH s.vm) {b : Nat} (hob : mx_Ob s H "FewBitsModel" b) (as rest : List Value) (hn : as.length = 2) : ∀ T, T.heap = H → Stand p l e R s m args below meth c T locs cells slots → mx_Inv p l e R s m args below meth c T locs cells slots (F0 m 160 ls (as.reverse ++ .ref b :: rest)) (F0 m 160 ls rest) y_M_findPair (.ref b :: as) := fun T hT X => mx_invV X hT hx hown (G.1.at 782 rfl rfl _ hW) (G.1.at 784 rfl rfl _ hW) (G.1.sel 16 rfl _ hW) (G.1.at 785 rfl rfl _ hW) ⟨⟨by decide, by decide⟩, by decide +kernel⟩ hob rfl hn rfl (by rw [hb]; exact d_M_remove_160)
set_option maxRecDepth 20000 in
theorem iv_M_has_3 {l : Launch} {s0 : State} {D : va_G} {cI cF cJ : ClassId} (G : Gx l s0 D cI cF cJ) {p : Program} {e : Env} {R : Room} {s : State} {m : MethodId} {args : Array Value} {below : List Frame} {meth : Method} {c : Code} {H : Heap} {locs : List Loc} {cells slots : Nat} {ls : Array Slot} (hx : p.tables.exec = Jvm.exec) (hb : c.code = b_M_has) (hown : s.vm.findClass "FewBitsModel" = some m.cls) (hW : s0.WarmedH s.vm) {b : Nat} (hob : mx_Ob s H "FewBitsModel" b) (as rest : List Value) (hn : as.length = 1) : ∀ T, T.heap = H → Stand p l e R s m args below meth c T locs cells slots → mx_Inv p l e R s m args below meth c T locs cells slots (F0 m 3 ls (as.reverse ++ .ref b :: rest)) (F0 m 3 ls rest) y_M_wrong (.ref b :: as) := fun T hT X => mx_invV X hT hx hown (G.1.at 719 rfl rfl _ hW) (G.1.at 721 rfl rfl _ hW) (G.1.sel 4 rfl _ hW) (G.1.at 722 rfl rfl _ hW) ⟨⟨by decide, by decide⟩, by decide +kernel⟩ hob rfl hn rfl (by rw [hb]; exact d_M_has_3)
set_option maxRecDepth 20000 in
theorem iv_M_has_19 {l : Launch} {s0 : State} {D : va_G} {cI cF cJ : ClassId} (G : Gx l s0 D cI cF cJ) {p : Program} {e : Env} {R : Room} {s : State} {m : MethodId} {args : Array Value} {below : List Frame} {meth : Method} {c : Code} {H : Heap} {locs : List Loc} {cells slots : Nat} {ls : Array Slot} (hx : p.tables.exec = Jvm.exec) (hb : c.code = b_M_has) (hown : s.vm.findClass "FewBitsModel" = some m.cls) (hW : s0.WarmedH s.vm) {b : Nat} (hob : mx_Ob s H "FewBitsModel" b) (as rest : List Value) (hn : as.length = 2) : ∀ T, T.heap = H → Stand p l e R s m args below meth c T locs cells slots → mx_Inv p l e R s m args below meth c T locs cells slots (F0 m 19 ls (as.reverse ++ .ref b :: rest)) (F0 m 19 ls rest) y_M_isThere (.ref b :: as) := fun T hT X => mx_invV X hT hx hown (G.1.at 790 rfl rfl _ hW) (G.1.at 792 rfl rfl _ hW) (G.1.sel 17 rfl _ hW) (G.1.at 793 rfl rfl _ hW) ⟨⟨by decide, by decide⟩, by decide +kernel⟩ hob rfl hn rfl (by rw [hb]; exact d_M_has_19)
set_option maxRecDepth 20000 in
theorem iv_M_hasAll_3 {l : Launch} {s0 : State} {D : va_G} {cI cF cJ : ClassId} (G : Gx l s0 D cI cF cJ) {p : Program} {e : Env} {R : Room} {s : State} {m : MethodId} {args : Array Value} {below : List Frame} {meth : Method} {c : Code} {H : Heap} {locs : List Loc} {cells slots : Nat} {ls : Array Slot} (hx : p.tables.exec = Jvm.exec) (hb : c.code = b_M_hasAll) (hown : s.vm.findClass "FewBitsModel" = some m.cls) (hW : s0.WarmedH s.vm) {b : Nat} (hob : mx_Ob s H "FewBitsModel" b) (as rest : List Value) (hn : as.length = 1) : ∀ T, T.heap = H → Stand p l e R s m args below meth c T locs cells slots → mx_Inv p l e R s m args below meth c T locs cells slots (F0 m 3 ls (as.reverse ++ .ref b :: rest)) (F0 m 3 ls rest) y_M_wrong (.ref b :: as) := fun T hT X => mx_invV X hT hx hown (G.1.at 719 rfl rfl _ hW) (G.1.at 721 rfl rfl _ hW) (G.1.sel 4 rfl _ hW) (G.1.at 722 rfl rfl _ hW) ⟨⟨by decide, by decide⟩, by decide +kernel⟩ hob rfl hn rfl (by rw [hb]; exact d_M_hasAll_3)
set_option maxRecDepth 20000 in
theorem iv_M_hasAll_11 {l : Launch} {s0 : State} {D : va_G} {cI cF cJ : ClassId} (G : Gx l s0 D cI cF cJ) {p : Program} {e : Env} {R : Room} {s : State} {m : MethodId} {args : Array Value} {below : List Frame} {meth : Method} {c : Code} {H : Heap} {locs : List Loc} {cells slots : Nat} {ls : Array Slot} (hx : p.tables.exec = Jvm.exec) (hb : c.code = b_M_hasAll) (hown : s.vm.findClass "FewBitsModel" = some m.cls) (hW : s0.WarmedH s.vm) {b : Nat} (hob : mx_Ob s H "FewBitsModel" b) (as rest : List Value) (hn : as.length = 1) : ∀ T, T.heap = H → Stand p l e R s m args below meth c T locs cells slots → mx_Inv p l e R s m args below meth c T locs cells slots (F0 m 11 ls (as.reverse ++ .ref b :: rest)) (F0 m 11 ls rest) y_M_wrong (.ref b :: as) := fun T hT X => mx_invV X hT hx hown (G.1.at 719 rfl rfl _ hW) (G.1.at 721 rfl rfl _ hW) (G.1.sel 4 rfl _ hW) (G.1.at 722 rfl rfl _ hW) ⟨⟨by decide, by decide⟩, by decide +kernel⟩ hob rfl hn rfl (by rw [hb]; exact d_M_hasAll_11)
set_option maxRecDepth 20000 in
theorem iv_M_hasAll_68 {l : Launch} {s0 : State} {D : va_G} {cI cF cJ : ClassId} (G : Gx l s0 D cI cF cJ) {p : Program} {e : Env} {R : Room} {s : State} {m : MethodId} {args : Array Value} {below : List Frame} {meth : Method} {c : Code} {H : Heap} {locs : List Loc} {cells slots : Nat} {ls : Array Slot} (hx : p.tables.exec = Jvm.exec) (hb : c.code = b_M_hasAll) (hown : s.vm.findClass "FewBitsModel" = some m.cls) (hW : s0.WarmedH s.vm) {b : Nat} (hob : mx_Ob s H "FewBitsModel" b) (as rest : List Value) (hn : as.length = 2) : ∀ T, T.heap = H → Stand p l e R s m args below meth c T locs cells slots → mx_Inv p l e R s m args below meth c T locs cells slots (F0 m 68 ls (as.reverse ++ .ref b :: rest)) (F0 m 68 ls rest) y_M_isThere (.ref b :: as) := fun T hT X => mx_invV X hT hx hown (G.1.at 790 rfl rfl _ hW) (G.1.at 792 rfl rfl _ hW) (G.1.sel 17 rfl _ hW) (G.1.at 793 rfl rfl _ hW) ⟨⟨by decide, by decide⟩, by decide +kernel⟩ hob rfl hn rfl (by rw [hb]; exact d_M_hasAll_68)
set_option maxRecDepth 20000 in
theorem iv_M_same_3 {l : Launch} {s0 : State} {D : va_G} {cI cF cJ : ClassId} (G : Gx l s0 D cI cF cJ) {p : Program} {e : Env} {R : Room} {s : State} {m : MethodId} {args : Array Value} {below : List Frame} {meth : Method} {c : Code} {H : Heap} {locs : List Loc} {cells slots : Nat} {ls : Array Slot} (hx : p.tables.exec = Jvm.exec) (hb : c.code = b_M_same) (hown : s.vm.findClass "FewBitsModel" = some m.cls) (hW : s0.WarmedH s.vm) {b : Nat} (hob : mx_Ob s H "FewBitsModel" b) (as rest : List Value) (hn : as.length = 1) : ∀ T, T.heap = H → Stand p l e R s m args below meth c T locs cells slots → mx_Inv p l e R s m args below meth c T locs cells slots (F0 m 3 ls (as.reverse ++ .ref b :: rest)) (F0 m 3 ls rest) y_M_wrong (.ref b :: as) := fun T hT X => mx_invV X hT hx hown (G.1.at 719 rfl rfl _ hW) (G.1.at 721 rfl rfl _ hW) (G.1.sel 4 rfl _ hW) (G.1.at 722 rfl rfl _ hW) ⟨⟨by decide, by decide⟩, by decide +kernel⟩ hob rfl hn rfl (by rw [hb]; exact d_M_same_3)
set_option maxRecDepth 20000 in
theorem iv_M_same_31 {l : Launch} {s0 : State} {D : va_G} {cI cF cJ : ClassId} (G : Gx l s0 D cI cF cJ) {p : Program} {e : Env} {R : Room} {s : State} {m : MethodId} {args : Array Value} {below : List Frame} {meth : Method} {c : Code} {H : Heap} {locs : List Loc} {cells slots : Nat} {ls : Array Slot} (hx : p.tables.exec = Jvm.exec) (hb : c.code = b_M_same) (hown : s.vm.findClass "FewBitsModel" = some m.cls) (hW : s0.WarmedH s.vm) {b : Nat} (hob : mx_Ob s H "FewBitsModel" b) (as rest : List Value) (hn : as.length = 2) : ∀ T, T.heap = H → Stand p l e R s m args below meth c T locs cells slots → mx_Inv p l e R s m args below meth c T locs cells slots (F0 m 31 ls (as.reverse ++ .ref b :: rest)) (F0 m 31 ls rest) y_M_pair (.ref b :: as) := fun T hT X => mx_invV X hT hx hown (G.1.at 766 rfl rfl _ hW) (G.1.at 768 rfl rfl _ hW) (G.1.sel 14 rfl _ hW) (G.1.at 769 rfl rfl _ hW) ⟨⟨by decide, by decide⟩, by decide +kernel⟩ hob rfl hn rfl (by rw [hb]; exact d_M_same_31)
set_option maxRecDepth 20000 in
theorem iv_M_same_38 {l : Launch} {s0 : State} {D : va_G} {cI cF cJ : ClassId} (G : Gx l s0 D cI cF cJ) {p : Program} {e : Env} {R : Room} {s : State} {m : MethodId} {args : Array Value} {below : List Frame} {meth : Method} {c : Code} {H : Heap} {locs : List Loc} {cells slots : Nat} {ls : Array Slot} (hx : p.tables.exec = Jvm.exec) (hb : c.code = b_M_same) (hown : s.vm.findClass "FewBitsModel" = some m.cls) (hW : s0.WarmedH s.vm) {b : Nat} (hob : mx_Ob s H "FewBitsModel" b) (as rest : List Value) (hn : as.length = 2) : ∀ T, T.heap = H → Stand p l e R s m args below meth c T locs cells slots → mx_Inv p l e R s m args below meth c T locs cells slots (F0 m 38 ls (as.reverse ++ .ref b :: rest)) (F0 m 38 ls rest) y_M_pair (.ref b :: as) := fun T hT X => mx_invV X hT hx hown (G.1.at 766 rfl rfl _ hW) (G.1.at 768 rfl rfl _ hW) (G.1.sel 14 rfl _ hW) (G.1.at 769 rfl rfl _ hW) ⟨⟨by decide, by decide⟩, by decide +kernel⟩ hob rfl hn rfl (by rw [hb]; exact d_M_same_38)
set_option maxRecDepth 20000 in
theorem iv_M_same_63 {l : Launch} {s0 : State} {D : va_G} {cI cF cJ : ClassId} (G : Gx l s0 D cI cF cJ) {p : Program} {e : Env} {R : Room} {s : State} {m : MethodId} {args : Array Value} {below : List Frame} {meth : Method} {c : Code} {H : Heap} {locs : List Loc} {cells slots : Nat} {ls : Array Slot} (hx : p.tables.exec = Jvm.exec) (hb : c.code = b_M_same) (hown : s.vm.findClass "FewBitsModel" = some m.cls) (hW : s0.WarmedH s.vm) {b : Nat} (hob : mx_Ob s H "FewBitsModel" b) (as rest : List Value) (hn : as.length = 2) : ∀ T, T.heap = H → Stand p l e R s m args below meth c T locs cells slots → mx_Inv p l e R s m args below meth c T locs cells slots (F0 m 63 ls (as.reverse ++ .ref b :: rest)) (F0 m 63 ls rest) y_M_fingerprint (.ref b :: as) := fun T hT X => mx_invV X hT hx hown (G.1.at 745 rfl rfl _ hW) (G.1.at 747 rfl rfl _ hW) (G.1.sel 9 rfl _ hW) (G.1.at 748 rfl rfl _ hW) ⟨⟨by decide, by decide⟩, by decide +kernel⟩ hob rfl hn rfl (by rw [hb]; exact d_M_same_63)
set_option maxRecDepth 20000 in
theorem iv_M_same_71 {l : Launch} {s0 : State} {D : va_G} {cI cF cJ : ClassId} (G : Gx l s0 D cI cF cJ) {p : Program} {e : Env} {R : Room} {s : State} {m : MethodId} {args : Array Value} {below : List Frame} {meth : Method} {c : Code} {H : Heap} {locs : List Loc} {cells slots : Nat} {ls : Array Slot} (hx : p.tables.exec = Jvm.exec) (hb : c.code = b_M_same) (hown : s.vm.findClass "FewBitsModel" = some m.cls) (hW : s0.WarmedH s.vm) {b : Nat} (hob : mx_Ob s H "FewBitsModel" b) (as rest : List Value) (hn : as.length = 2) : ∀ T, T.heap = H → Stand p l e R s m args below meth c T locs cells slots → mx_Inv p l e R s m args below meth c T locs cells slots (F0 m 71 ls (as.reverse ++ .ref b :: rest)) (F0 m 71 ls rest) y_M_firstBucket (.ref b :: as) := fun T hT X => mx_invV X hT hx hown (G.1.at 749 rfl rfl _ hW) (G.1.at 751 rfl rfl _ hW) (G.1.sel 10 rfl _ hW) (G.1.at 752 rfl rfl _ hW) ⟨⟨by decide, by decide⟩, by decide +kernel⟩ hob rfl hn rfl (by rw [hb]; exact d_M_same_71)
set_option maxRecDepth 20000 in
theorem iv_M_same_80 {l : Launch} {s0 : State} {D : va_G} {cI cF cJ : ClassId} (G : Gx l s0 D cI cF cJ) {p : Program} {e : Env} {R : Room} {s : State} {m : MethodId} {args : Array Value} {below : List Frame} {meth : Method} {c : Code} {H : Heap} {locs : List Loc} {cells slots : Nat} {ls : Array Slot} (hx : p.tables.exec = Jvm.exec) (hb : c.code = b_M_same) (hown : s.vm.findClass "FewBitsModel" = some m.cls) (hW : s0.WarmedH s.vm) {b : Nat} (hob : mx_Ob s H "FewBitsModel" b) (as rest : List Value) (hn : as.length = 2) : ∀ T, T.heap = H → Stand p l e R s m args below meth c T locs cells slots → mx_Inv p l e R s m args below meth c T locs cells slots (F0 m 80 ls (as.reverse ++ .ref b :: rest)) (F0 m 80 ls rest) y_M_firstBucket (.ref b :: as) := fun T hT X => mx_invV X hT hx hown (G.1.at 749 rfl rfl _ hW) (G.1.at 751 rfl rfl _ hW) (G.1.sel 10 rfl _ hW) (G.1.at 752 rfl rfl _ hW) ⟨⟨by decide, by decide⟩, by decide +kernel⟩ hob rfl hn rfl (by rw [hb]; exact d_M_same_80)
set_option maxRecDepth 20000 in
theorem iv_M_same_91 {l : Launch} {s0 : State} {D : va_G} {cI cF cJ : ClassId} (G : Gx l s0 D cI cF cJ) {p : Program} {e : Env} {R : Room} {s : State} {m : MethodId} {args : Array Value} {below : List Frame} {meth : Method} {c : Code} {H : Heap} {locs : List Loc} {cells slots : Nat} {ls : Array Slot} (hx : p.tables.exec = Jvm.exec) (hb : c.code = b_M_same) (hown : s.vm.findClass "FewBitsModel" = some m.cls) (hW : s0.WarmedH s.vm) {b : Nat} (hob : mx_Ob s H "FewBitsModel" b) (as rest : List Value) (hn : as.length = 2) : ∀ T, T.heap = H → Stand p l e R s m args below meth c T locs cells slots → mx_Inv p l e R s m args below meth c T locs cells slots (F0 m 91 ls (as.reverse ++ .ref b :: rest)) (F0 m 91 ls rest) y_M_fingerprint (.ref b :: as) := fun T hT X => mx_invV X hT hx hown (G.1.at 745 rfl rfl _ hW) (G.1.at 747 rfl rfl _ hW) (G.1.sel 9 rfl _ hW) (G.1.at 748 rfl rfl _ hW) ⟨⟨by decide, by decide⟩, by decide +kernel⟩ hob rfl hn rfl (by rw [hb]; exact d_M_same_91)
set_option maxRecDepth 20000 in
theorem iv_M_same_110 {l : Launch} {s0 : State} {D : va_G} {cI cF cJ : ClassId} (G : Gx l s0 D cI cF cJ) {p : Program} {e : Env} {R : Room} {s : State} {m : MethodId} {args : Array Value} {below : List Frame} {meth : Method} {c : Code} {H : Heap} {locs : List Loc} {cells slots : Nat} {ls : Array Slot} (hx : p.tables.exec = Jvm.exec) (hb : c.code = b_M_same) (hown : s.vm.findClass "FewBitsModel" = some m.cls) (hW : s0.WarmedH s.vm) {b : Nat} (hob : mx_Ob s H "FewBitsModel" b) (as rest : List Value) (hn : as.length = 3) : ∀ T, T.heap = H → Stand p l e R s m args below meth c T locs cells slots → mx_Inv p l e R s m args below meth c T locs cells slots (F0 m 110 ls (as.reverse ++ .ref b :: rest)) (F0 m 110 ls rest) y_M_otherBucket (.ref b :: as) := fun T hT X => mx_invV X hT hx hown (G.1.at 757 rfl rfl _ hW) (G.1.at 759 rfl rfl _ hW) (G.1.sel 12 rfl _ hW) (G.1.at 760 rfl rfl _ hW) ⟨⟨by decide, by decide⟩, by decide +kernel⟩ hob rfl hn rfl (by rw [hb]; exact d_M_same_110)
set_option maxRecDepth 20000 in
theorem iv_M_same_131 {l : Launch} {s0 : State} {D : va_G} {cI cF cJ : ClassId} (G : Gx l s0 D cI cF cJ) {p : Program} {e : Env} {R : Room} {s : State} {m : MethodId} {args : Array Value} {below : List Frame} {meth : Method} {c : Code} {H : Heap} {locs : List Loc} {cells slots : Nat} {ls : Array Slot} (hx : p.tables.exec = Jvm.exec) (hb : c.code = b_M_same) (hown : s.vm.findClass "FewBitsModel" = some m.cls) (hW : s0.WarmedH s.vm) {b : Nat} (hob : mx_Ob s H "FewBitsModel" b) (as rest : List Value) (hn : as.length = 3) : ∀ T, T.heap = H → Stand p l e R s m args below meth c T locs cells slots → mx_Inv p l e R s m args below meth c T locs cells slots (F0 m 131 ls (as.reverse ++ .ref b :: rest)) (F0 m 131 ls rest) y_M_findPlaces (.ref b :: as) := fun T hT X => mx_invV X hT hx hown (G.1.at 731 rfl rfl _ hW) (G.1.at 733 rfl rfl _ hW) (G.1.sel 7 rfl _ hW) (G.1.at 734 rfl rfl _ hW) ⟨⟨by decide, by decide⟩, by decide +kernel⟩ hob rfl hn rfl (by rw [hb]; exact d_M_same_131)
set_option maxRecDepth 20000 in
theorem iv_M_same_142 {l : Launch} {s0 : State} {D : va_G} {cI cF cJ : ClassId} (G : Gx l s0 D cI cF cJ) {p : Program} {e : Env} {R : Room} {s : State} {m : MethodId} {args : Array Value} {below : List Frame} {meth : Method} {c : Code} {H : Heap} {locs : List Loc} {cells slots : Nat} {ls : Array Slot} (hx : p.tables.exec = Jvm.exec) (hb : c.code = b_M_same) (hown : s.vm.findClass "FewBitsModel" = some m.cls) (hW : s0.WarmedH s.vm) {b : Nat} (hob : mx_Ob s H "FewBitsModel" b) (as rest : List Value) (hn : as.length = 3) : ∀ T, T.heap = H → Stand p l e R s m args below meth c T locs cells slots → mx_Inv p l e R s m args below meth c T locs cells slots (F0 m 142 ls (as.reverse ++ .ref b :: rest)) (F0 m 142 ls rest) y_M_findPlaces (.ref b :: as) := fun T hT X => mx_invV X hT hx hown (G.1.at 731 rfl rfl _ hW) (G.1.at 733 rfl rfl _ hW) (G.1.sel 7 rfl _ hW) (G.1.at 734 rfl rfl _ hW) ⟨⟨by decide, by decide⟩, by decide +kernel⟩ hob rfl hn rfl (by rw [hb]; exact d_M_same_142)
set_option maxRecDepth 20000 in
theorem iv_M_same_184 {l : Launch} {s0 : State} {D : va_G} {cI cF cJ : ClassId} (G : Gx l s0 D cI cF cJ) {p : Program} {e : Env} {R : Room} {s : State} {m : MethodId} {args : Array Value} {below : List Frame} {meth : Method} {c : Code} {H : Heap} {locs : List Loc} {cells slots : Nat} {ls : Array Slot} (hx : p.tables.exec = Jvm.exec) (hb : c.code = b_M_same) (hown : s.vm.findClass "FewBitsModel" = some m.cls) (hW : s0.WarmedH s.vm) (as rest : List Value) (hn : as.length = 3) : ∀ T, T.heap = H → Stand p l e R s m args below meth c T locs cells slots → mx_Inv p l e R s m args below meth c T locs cells slots (F0 m 184 ls (as.reverse ++ rest)) (F0 m 184 ls rest) y_M_howOften as := fun T hT X => mx_invS X hx hown (G.1.at 738 rfl rfl _ hW) (G.1.at 739 rfl rfl _ hW) (G.1.at 2 rfl rfl _ hW) (G.1.at 740 rfl rfl _ hW) ⟨⟨by decide, by decide⟩, by decide +kernel⟩ rfl hn rfl (by rw [hb]; exact d_M_same_184)
set_option maxRecDepth 20000 in
theorem iv_M_same_204 {l : Launch} {s0 : State} {D : va_G} {cI cF cJ : ClassId} (G : Gx l s0 D cI cF cJ) {p : Program} {e : Env} {R : Room} {s : State} {m : MethodId} {args : Array Value} {below : List Frame} {meth : Method} {c : Code} {H : Heap} {locs : List Loc} {cells slots : Nat} {ls : Array Slot} (hx : p.tables.exec = Jvm.exec) (hb : c.code = b_M_same) (hown : s.vm.findClass "FewBitsModel" = some m.cls) (hW : s0.WarmedH s.vm) (as rest : List Value) (hn : as.length = 3) : ∀ T, T.heap = H → Stand p l e R s m args below meth c T locs cells slots → mx_Inv p l e R s m args below meth c T locs cells slots (F0 m 204 ls (as.reverse ++ rest)) (F0 m 204 ls rest) y_M_howOften as := fun T hT X => mx_invS X hx hown (G.1.at 738 rfl rfl _ hW) (G.1.at 739 rfl rfl _ hW) (G.1.at 2 rfl rfl _ hW) (G.1.at 740 rfl rfl _ hW) ⟨⟨by decide, by decide⟩, by decide +kernel⟩ rfl hn rfl (by rw [hb]; exact d_M_same_204)
set_option maxRecDepth 20000 in
theorem iv_M_runCell_2 {l : Launch} {s0 : State} {D : va_G} {cI cF cJ : ClassId} (G : Gx l s0 D cI cF cJ) {p : Program} {e : Env} {R : Room} {s : State} {m : MethodId} {args : Array Value} {below : List Frame} {meth : Method} {c : Code} {H : Heap} {locs : List Loc} {cells slots : Nat} {ls : Array Slot} (hx : p.tables.exec = Jvm.exec) (hb : c.code = b_M_runCell) (hown : s.vm.findClass "FewBitsModel" = some m.cls) (hW : s0.WarmedH s.vm) {b : Nat} (hob : mx_Ob s H "FewBitsModel" b) (as rest : List Value) (hn : as.length = 1) : ∀ T, T.heap = H → Stand p l e R s m args below meth c T locs cells slots → mx_Inv p l e R s m args below meth c T locs cells slots (F0 m 2 ls (as.reverse ++ .ref b :: rest)) (F0 m 2 ls rest) y_M_layOut (.ref b :: as) := fun T hT X => mx_invV X hT hx hown (G.1.at 810 rfl rfl _ hW) (G.1.at 812 rfl rfl _ hW) (G.1.sel 19 rfl _ hW) (G.1.at 813 rfl rfl _ hW) ⟨⟨by decide, by decide⟩, by decide +kernel⟩ hob rfl hn rfl (by rw [hb]; exact d_M_runCell_2)
set_option maxRecDepth 20000 in
theorem iv_M_longestRow_2 {l : Launch} {s0 : State} {D : va_G} {cI cF cJ : ClassId} (G : Gx l s0 D cI cF cJ) {p : Program} {e : Env} {R : Room} {s : State} {m : MethodId} {args : Array Value} {below : List Frame} {meth : Method} {c : Code} {H : Heap} {locs : List Loc} {cells slots : Nat} {ls : Array Slot} (hx : p.tables.exec = Jvm.exec) (hb : c.code = b_M_longestRow) (hown : s.vm.findClass "FewBitsModel" = some m.cls) (hW : s0.WarmedH s.vm) {b : Nat} (hob : mx_Ob s H "FewBitsModel" b) (as rest : List Value) (hn : as.length = 1) : ∀ T, T.heap = H → Stand p l e R s m args below meth c T locs cells slots → mx_Inv p l e R s m args below meth c T locs cells slots (F0 m 2 ls (as.reverse ++ .ref b :: rest)) (F0 m 2 ls rest) y_M_layOut (.ref b :: as) := fun T hT X => mx_invV X hT hx hown (G.1.at 810 rfl rfl _ hW) (G.1.at 812 rfl rfl _ hW) (G.1.sel 19 rfl _ hW) (G.1.at 813 rfl rfl _ hW) ⟨⟨by decide, by decide⟩, by decide +kernel⟩ hob rfl hn rfl (by rw [hb]; exact d_M_longestRow_2)
set_option maxRecDepth 20000 in
theorem iv_M_count_3 {l : Launch} {s0 : State} {D : va_G} {cI cF cJ : ClassId} (G : Gx l s0 D cI cF cJ) {p : Program} {e : Env} {R : Room} {s : State} {m : MethodId} {args : Array Value} {below : List Frame} {meth : Method} {c : Code} {H : Heap} {locs : List Loc} {cells slots : Nat} {ls : Array Slot} (hx : p.tables.exec = Jvm.exec) (hb : c.code = b_M_count) (hown : s.vm.findClass "FewBitsModel" = some m.cls) (hW : s0.WarmedH s.vm) {b : Nat} (hob : mx_Ob s H "FewBitsModel" b) (as rest : List Value) (hn : as.length = 1) : ∀ T, T.heap = H → Stand p l e R s m args below meth c T locs cells slots → mx_Inv p l e R s m args below meth c T locs cells slots (F0 m 3 ls (as.reverse ++ .ref b :: rest)) (F0 m 3 ls rest) y_M_wrong (.ref b :: as) := fun T hT X => mx_invV X hT hx hown (G.1.at 719 rfl rfl _ hW) (G.1.at 721 rfl rfl _ hW) (G.1.sel 4 rfl _ hW) (G.1.at 722 rfl rfl _ hW) ⟨⟨by decide, by decide⟩, by decide +kernel⟩ hob rfl hn rfl (by rw [hb]; exact d_M_count_3)
set_option maxRecDepth 20000 in
theorem iv_M_count_11 {l : Launch} {s0 : State} {D : va_G} {cI cF cJ : ClassId} (G : Gx l s0 D cI cF cJ) {p : Program} {e : Env} {R : Room} {s : State} {m : MethodId} {args : Array Value} {below : List Frame} {meth : Method} {c : Code} {H : Heap} {locs : List Loc} {cells slots : Nat} {ls : Array Slot} (hx : p.tables.exec = Jvm.exec) (hb : c.code = b_M_count) (hown : s.vm.findClass "FewBitsModel" = some m.cls) (hW : s0.WarmedH s.vm) {b : Nat} (hob : mx_Ob s H "FewBitsModel" b) (as rest : List Value) (hn : as.length = 1) : ∀ T, T.heap = H → Stand p l e R s m args below meth c T locs cells slots → mx_Inv p l e R s m args below meth c T locs cells slots (F0 m 11 ls (as.reverse ++ .ref b :: rest)) (F0 m 11 ls rest) y_M_wrong (.ref b :: as) := fun T hT X => mx_invV X hT hx hown (G.1.at 719 rfl rfl _ hW) (G.1.at 721 rfl rfl _ hW) (G.1.sel 4 rfl _ hW) (G.1.at 722 rfl rfl _ hW) ⟨⟨by decide, by decide⟩, by decide +kernel⟩ hob rfl hn rfl (by rw [hb]; exact d_M_count_11)
set_option maxRecDepth 20000 in
theorem iv_M_count_122 {l : Launch} {s0 : State} {D : va_G} {cI cF cJ : ClassId} (G : Gx l s0 D cI cF cJ) {p : Program} {e : Env} {R : Room} {s : State} {m : MethodId} {args : Array Value} {below : List Frame} {meth : Method} {c : Code} {H : Heap} {locs : List Loc} {cells slots : Nat} {ls : Array Slot} (hx : p.tables.exec = Jvm.exec) (hb : c.code = b_M_count) (hown : s.vm.findClass "FewBitsModel" = some m.cls) (hW : s0.WarmedH s.vm) {b : Nat} (hob : mx_Ob s H "FewBitsModel" b) (as rest : List Value) (hn : as.length = 1) : ∀ T, T.heap = H → Stand p l e R s m args below meth c T locs cells slots → mx_Inv p l e R s m args below meth c T locs cells slots (F0 m 122 ls (as.reverse ++ .ref b :: rest)) (F0 m 122 ls rest) y_M_longestRow (.ref b :: as) := fun T hT X => mx_invV X hT hx hown (G.1.at 806 rfl rfl _ hW) (G.1.at 808 rfl rfl _ hW) (G.1.sel 18 rfl _ hW) (G.1.at 809 rfl rfl _ hW) ⟨⟨by decide, by decide⟩, by decide +kernel⟩ hob rfl hn rfl (by rw [hb]; exact d_M_count_122)
set_option maxRecDepth 20000 in
theorem iv_M_cell_3 {l : Launch} {s0 : State} {D : va_G} {cI cF cJ : ClassId} (G : Gx l s0 D cI cF cJ) {p : Program} {e : Env} {R : Room} {s : State} {m : MethodId} {args : Array Value} {below : List Frame} {meth : Method} {c : Code} {H : Heap} {locs : List Loc} {cells slots : Nat} {ls : Array Slot} (hx : p.tables.exec = Jvm.exec) (hb : c.code = b_M_cell) (hown : s.vm.findClass "FewBitsModel" = some m.cls) (hW : s0.WarmedH s.vm) {b : Nat} (hob : mx_Ob s H "FewBitsModel" b) (as rest : List Value) (hn : as.length = 1) : ∀ T, T.heap = H → Stand p l e R s m args below meth c T locs cells slots → mx_Inv p l e R s m args below meth c T locs cells slots (F0 m 3 ls (as.reverse ++ .ref b :: rest)) (F0 m 3 ls rest) y_M_wrong (.ref b :: as) := fun T hT X => mx_invV X hT hx hown (G.1.at 719 rfl rfl _ hW) (G.1.at 721 rfl rfl _ hW) (G.1.sel 4 rfl _ hW) (G.1.at 722 rfl rfl _ hW) ⟨⟨by decide, by decide⟩, by decide +kernel⟩ hob rfl hn rfl (by rw [hb]; exact d_M_cell_3)
set_option maxRecDepth 20000 in
theorem iv_M_cell_96 {l : Launch} {s0 : State} {D : va_G} {cI cF cJ : ClassId} (G : Gx l s0 D cI cF cJ) {p : Program} {e : Env} {R : Room} {s : State} {m : MethodId} {args : Array Value} {below : List Frame} {meth : Method} {c : Code} {H : Heap} {locs : List Loc} {cells slots : Nat} {ls : Array Slot} (hx : p.tables.exec = Jvm.exec) (hb : c.code = b_M_cell) (hown : s.vm.findClass "FewBitsModel" = some m.cls) (hW : s0.WarmedH s.vm) {b : Nat} (hob : mx_Ob s H "FewBitsModel" b) (as rest : List Value) (hn : as.length = 2) : ∀ T, T.heap = H → Stand p l e R s m args below meth c T locs cells slots → mx_Inv p l e R s m args below meth c T locs cells slots (F0 m 96 ls (as.reverse ++ .ref b :: rest)) (F0 m 96 ls rest) y_M_runCell (.ref b :: as) := fun T hT X => mx_invV X hT hx hown (G.1.at 818 rfl rfl _ hW) (G.1.at 820 rfl rfl _ hW) (G.1.sel 20 rfl _ hW) (G.1.at 821 rfl rfl _ hW) ⟨⟨by decide, by decide⟩, by decide +kernel⟩ hob rfl hn rfl (by rw [hb]; exact d_M_cell_96)
set_option maxRecDepth 20000 in
theorem iv_M_merge_1 {l : Launch} {s0 : State} {D : va_G} {cI cF cJ : ClassId} (G : Gx l s0 D cI cF cJ) {p : Program} {e : Env} {R : Room} {s : State} {m : MethodId} {args : Array Value} {below : List Frame} {meth : Method} {c : Code} {H : Heap} {locs : List Loc} {cells slots : Nat} {ls : Array Slot} (hx : p.tables.exec = Jvm.exec) (hb : c.code = b_M_merge) (hown : s.vm.findClass "FewBitsModel" = some m.cls) (hW : s0.WarmedH s.vm) (as rest : List Value) (hn : as.length = 1) : ∀ T, T.heap = H → Stand p l e R s m args below meth c T locs cells slots → mx_Inv p l e R s m args below meth c T locs cells slots (F0 m 1 ls (as.reverse ++ rest)) (F0 m 1 ls rest) y_M_isNumber as := fun T hT X => mx_invS X hx hown (G.1.at 708 rfl rfl _ hW) (G.1.at 709 rfl rfl _ hW) (G.1.at 2 rfl rfl _ hW) (G.1.at 710 rfl rfl _ hW) ⟨⟨by decide, by decide⟩, by decide +kernel⟩ rfl hn rfl (by rw [hb]; exact d_M_merge_1)
set_option maxRecDepth 20000 in
theorem iv_M_merge_8 {l : Launch} {s0 : State} {D : va_G} {cI cF cJ : ClassId} (G : Gx l s0 D cI cF cJ) {p : Program} {e : Env} {R : Room} {s : State} {m : MethodId} {args : Array Value} {below : List Frame} {meth : Method} {c : Code} {H : Heap} {locs : List Loc} {cells slots : Nat} {ls : Array Slot} (hx : p.tables.exec = Jvm.exec) (hb : c.code = b_M_merge) (hown : s.vm.findClass "FewBitsModel" = some m.cls) (hW : s0.WarmedH s.vm) (as rest : List Value) (hn : as.length = 1) : ∀ T, T.heap = H → Stand p l e R s m args below meth c T locs cells slots → mx_Inv p l e R s m args below meth c T locs cells slots (F0 m 8 ls (as.reverse ++ rest)) (F0 m 8 ls rest) y_M_isNumber as := fun T hT X => mx_invS X hx hown (G.1.at 708 rfl rfl _ hW) (G.1.at 709 rfl rfl _ hW) (G.1.at 2 rfl rfl _ hW) (G.1.at 710 rfl rfl _ hW) ⟨⟨by decide, by decide⟩, by decide +kernel⟩ rfl hn rfl (by rw [hb]; exact d_M_merge_8)
set_option maxRecDepth 20000 in
theorem iv_M_merge_234 {l : Launch} {s0 : State} {D : va_G} {cI cF cJ : ClassId} (G : Gx l s0 D cI cF cJ) {p : Program} {e : Env} {R : Room} {s : State} {m : MethodId} {args : Array Value} {below : List Frame} {meth : Method} {c : Code} {H : Heap} {locs : List Loc} {cells slots : Nat} {ls : Array Slot} (hx : p.tables.exec = Jvm.exec) (hb : c.code = b_M_merge) (hown : s.vm.findClass "FewBitsModel" = some m.cls) (hW : s0.WarmedH s.vm) {b : Nat} (hob : mx_Ob s H "FewBitsModel" b) (as rest : List Value) (hn : as.length = 3) : ∀ T, T.heap = H → Stand p l e R s m args below meth c T locs cells slots → mx_Inv p l e R s m args below meth c T locs cells slots (F0 m 234 ls (as.reverse ++ .ref b :: rest)) (F0 m 234 ls rest) y_M_insertPair (.ref b :: as) := fun T hT X => mx_invV X hT hx hown (G.1.at 770 rfl rfl _ hW) (G.1.at 772 rfl rfl _ hW) (G.1.sel 15 rfl _ hW) (G.1.at 773 rfl rfl _ hW) ⟨⟨by decide, by decide⟩, by decide +kernel⟩ hob rfl hn rfl (by rw [hb]; exact d_M_merge_234)
set_option maxRecDepth 20000 in
theorem iv_M_grow_3 {l : Launch} {s0 : State} {D : va_G} {cI cF cJ : ClassId} (G : Gx l s0 D cI cF cJ) {p : Program} {e : Env} {R : Room} {s : State} {m : MethodId} {args : Array Value} {below : List Frame} {meth : Method} {c : Code} {H : Heap} {locs : List Loc} {cells slots : Nat} {ls : Array Slot} (hx : p.tables.exec = Jvm.exec) (hb : c.code = b_M_grow) (hown : s.vm.findClass "FewBitsModel" = some m.cls) (hW : s0.WarmedH s.vm) {b : Nat} (hob : mx_Ob s H "FewBitsModel" b) (as rest : List Value) (hn : as.length = 1) : ∀ T, T.heap = H → Stand p l e R s m args below meth c T locs cells slots → mx_Inv p l e R s m args below meth c T locs cells slots (F0 m 3 ls (as.reverse ++ .ref b :: rest)) (F0 m 3 ls rest) y_M_wrong (.ref b :: as) := fun T hT X => mx_invV X hT hx hown (G.1.at 719 rfl rfl _ hW) (G.1.at 721 rfl rfl _ hW) (G.1.sel 4 rfl _ hW) (G.1.at 722 rfl rfl _ hW) ⟨⟨by decide, by decide⟩, by decide +kernel⟩ hob rfl hn rfl (by rw [hb]; exact d_M_grow_3)
set_option maxRecDepth 20000 in
theorem iv_M_grow_11 {l : Launch} {s0 : State} {D : va_G} {cI cF cJ : ClassId} (G : Gx l s0 D cI cF cJ) {p : Program} {e : Env} {R : Room} {s : State} {m : MethodId} {args : Array Value} {below : List Frame} {meth : Method} {c : Code} {H : Heap} {locs : List Loc} {cells slots : Nat} {ls : Array Slot} (hx : p.tables.exec = Jvm.exec) (hb : c.code = b_M_grow) (hown : s.vm.findClass "FewBitsModel" = some m.cls) (hW : s0.WarmedH s.vm) {b : Nat} (hob : mx_Ob s H "FewBitsModel" b) (as rest : List Value) (hn : as.length = 1) : ∀ T, T.heap = H → Stand p l e R s m args below meth c T locs cells slots → mx_Inv p l e R s m args below meth c T locs cells slots (F0 m 11 ls (as.reverse ++ .ref b :: rest)) (F0 m 11 ls rest) y_M_wrong (.ref b :: as) := fun T hT X => mx_invV X hT hx hown (G.1.at 719 rfl rfl _ hW) (G.1.at 721 rfl rfl _ hW) (G.1.sel 4 rfl _ hW) (G.1.at 722 rfl rfl _ hW) ⟨⟨by decide, by decide⟩, by decide +kernel⟩ hob rfl hn rfl (by rw [hb]; exact d_M_grow_11)
set_option maxRecDepth 20000 in
theorem iv_M_clear_3 {l : Launch} {s0 : State} {D : va_G} {cI cF cJ : ClassId} (G : Gx l s0 D cI cF cJ) {p : Program} {e : Env} {R : Room} {s : State} {m : MethodId} {args : Array Value} {below : List Frame} {meth : Method} {c : Code} {H : Heap} {locs : List Loc} {cells slots : Nat} {ls : Array Slot} (hx : p.tables.exec = Jvm.exec) (hb : c.code = b_M_clear) (hown : s.vm.findClass "FewBitsModel" = some m.cls) (hW : s0.WarmedH s.vm) {b : Nat} (hob : mx_Ob s H "FewBitsModel" b) (as rest : List Value) (hn : as.length = 1) : ∀ T, T.heap = H → Stand p l e R s m args below meth c T locs cells slots → mx_Inv p l e R s m args below meth c T locs cells slots (F0 m 3 ls (as.reverse ++ .ref b :: rest)) (F0 m 3 ls rest) y_M_wrong (.ref b :: as) := fun T hT X => mx_invV X hT hx hown (G.1.at 719 rfl rfl _ hW) (G.1.at 721 rfl rfl _ hW) (G.1.sel 4 rfl _ hW) (G.1.at 722 rfl rfl _ hW) ⟨⟨by decide, by decide⟩, by decide +kernel⟩ hob rfl hn rfl (by rw [hb]; exact d_M_clear_3)
set_option maxRecDepth 20000 in
theorem iv_M_clear_27 {l : Launch} {s0 : State} {D : va_G} {cI cF cJ : ClassId} (G : Gx l s0 D cI cF cJ) {p : Program} {e : Env} {R : Room} {s : State} {m : MethodId} {args : Array Value} {below : List Frame} {meth : Method} {c : Code} {H : Heap} {locs : List Loc} {cells slots : Nat} {ls : Array Slot} (hx : p.tables.exec = Jvm.exec) (hb : c.code = b_M_clear) (hown : s.vm.findClass "FewBitsModel" = some m.cls) (hW : s0.WarmedH s.vm) {b : Nat} (hob : mx_Ob s H "FewBitsModel" b) (as rest : List Value) (hn : as.length = 1) : ∀ T, T.heap = H → Stand p l e R s m args below meth c T locs cells slots → mx_Inv p l e R s m args below meth c T locs cells slots (F0 m 27 ls (as.reverse ++ .ref b :: rest)) (F0 m 27 ls rest) y_M_empty (.ref b :: as) := fun T hT X => mx_invV X hT hx hown (G.1.at 711 rfl rfl _ hW) (G.1.at 713 rfl rfl _ hW) (G.1.sel 3 rfl _ hW) (G.1.at 714 rfl rfl _ hW) ⟨⟨by decide, by decide⟩, by decide +kernel⟩ hob rfl hn rfl (by rw [hb]; exact d_M_clear_27)
set_option maxRecDepth 20000 in
theorem iv_B_init_1 {l : Launch} {s0 : State} {D : va_G} {cI cF cJ : ClassId} (G : Gx l s0 D cI cF cJ) {p : Program} {e : Env} {R : Room} {s : State} {m : MethodId} {args : Array Value} {below : List Frame} {meth : Method} {c : Code} {H : Heap} {locs : List Loc} {cells slots : Nat} {ls : Array Slot} (hx : p.tables.exec = Jvm.exec) (hb : c.code = b_B_init) (hown : s.vm.findClass "FewBits$Buckets" = some m.cls) (hW : s0.WarmedH s.vm) (b : Nat) (as rest : List Value) (hn : as.length = 0) : ∀ T, T.heap = H → Stand p l e R s m args below meth c T locs cells slots → mx_Inv p l e R s m args below meth c T locs cells slots (F0 m 1 ls (as.reverse ++ .ref b :: rest)) (F0 m 1 ls rest) y_P_init (.ref b :: as) := fun T hT X => mx_invIN X hx hown rfl (va_Nw.use rfl (va_Nw.warmM hW (G.1.nw 209 rfl rfl))) (G.1.at 165 rfl rfl _ hW) (G.1.at 166 rfl rfl _ hW) ⟨⟨by decide, by decide⟩, by decide +kernel⟩ rfl hn rfl (by rw [hb]; exact d_B_init_1)
set_option maxRecDepth 20000 in
theorem iv_B_cells_2 {l : Launch} {s0 : State} {D : va_G} {cI cF cJ : ClassId} (G : Gx l s0 D cI cF cJ) {p : Program} {e : Env} {R : Room} {s : State} {m : MethodId} {args : Array Value} {below : List Frame} {meth : Method} {c : Code} {H : Heap} {locs : List Loc} {cells slots : Nat} {ls : Array Slot} (hx : p.tables.exec = Jvm.exec) (hb : c.code = b_B_cells) (hown : s.vm.findClass "FewBits$Buckets" = some m.cls) (hW : s0.WarmedH s.vm) {b : Nat} (hob : mx_Ob s H "FewBits$Buckets" b) (as rest : List Value) (hn : as.length = 0) : ∀ T, T.heap = H → Stand p l e R s m args below meth c T locs cells slots → mx_Inv p l e R s m args below meth c T locs cells slots (F0 m 2 ls (as.reverse ++ .ref b :: rest)) (F0 m 2 ls rest) y_P_power (.ref b :: as) := fun T hT X => mx_invU X hT hx (owner := "FewBits$Filter") (x := ⟨"FewBits$Buckets", "power", "()I"⟩) hown (G.1.at 584 rfl rfl _ hW) (G.1.at 585 rfl rfl _ hW) (va_Decl.abs (va_Nw.warmD hW (G.1.nw 374 rfl rfl))) ⟨by decide, by decide⟩ (G.1.at 586 rfl rfl _ hW) (G.1.at 320 rfl rfl _ hW) ⟨⟨by decide, by decide⟩, by decide +kernel⟩ hob rfl hn rfl (by rw [hb]; exact d_B_cells_2)
set_option maxRecDepth 20000 in
theorem iv_B_wipe_5 {l : Launch} {s0 : State} {D : va_G} {cI cF cJ : ClassId} (G : Gx l s0 D cI cF cJ) {p : Program} {e : Env} {R : Room} {s : State} {m : MethodId} {args : Array Value} {below : List Frame} {meth : Method} {c : Code} {H : Heap} {locs : List Loc} {cells slots : Nat} {ls : Array Slot} (hx : p.tables.exec = Jvm.exec) (hb : c.code = b_B_wipe) (hown : s.vm.findClass "FewBits$Buckets" = some m.cls) (hW : s0.WarmedH s.vm) (as rest : List Value) (hn : as.length = 2) : ∀ T, T.heap = H → Stand p l e R s m args below meth c T locs cells slots → mx_Inv p l e R s m args below meth c T locs cells slots (F0 m 5 ls (as.reverse ++ rest)) (F0 m 5 ls rest) y_A_fill as := fun T hT X => mx_invS X hx hown (G.1.at 252 rfl rfl _ hW) (G.1.at 253 rfl rfl _ hW) (G.1.at 12 rfl rfl _ hW) (G.1.at 254 rfl rfl _ hW) ⟨⟨by decide, by decide⟩, by decide +kernel⟩ rfl hn rfl (by rw [hb]; exact d_B_wipe_5)
set_option maxRecDepth 20000 in
theorem iv_B_put_2 {l : Launch} {s0 : State} {D : va_G} {cI cF cJ : ClassId} (G : Gx l s0 D cI cF cJ) {p : Program} {e : Env} {R : Room} {s : State} {m : MethodId} {args : Array Value} {below : List Frame} {meth : Method} {c : Code} {H : Heap} {locs : List Loc} {cells slots : Nat} {ls : Array Slot} (hx : p.tables.exec = Jvm.exec) (hb : c.code = b_B_put) (hown : s.vm.findClass "FewBits$Buckets" = some m.cls) (hW : s0.WarmedH s.vm) {b : Nat} (hob : mx_Ob s H "FewBits$Buckets" b) (as rest : List Value) (hn : as.length = 1) : ∀ T, T.heap = H → Stand p l e R s m args below meth c T locs cells slots → mx_Inv p l e R s m args below meth c T locs cells slots (F0 m 2 ls (as.reverse ++ .ref b :: rest)) (F0 m 2 ls rest) y_B_fingerprint (.ref b :: as) := fun T hT X => mx_invV X hT hx hown (G.1.at 304 rfl rfl _ hW) (G.1.at 305 rfl rfl _ hW) (G.1.at 306 rfl rfl _ hW) (G.1.at 307 rfl rfl _ hW) ⟨⟨by decide, by decide⟩, by decide +kernel⟩ hob rfl hn rfl (by rw [hb]; exact d_B_put_2)
set_option maxRecDepth 20000 in
theorem iv_B_put_8 {l : Launch} {s0 : State} {D : va_G} {cI cF cJ : ClassId} (G : Gx l s0 D cI cF cJ) {p : Program} {e : Env} {R : Room} {s : State} {m : MethodId} {args : Array Value} {below : List Frame} {meth : Method} {c : Code} {H : Heap} {locs : List Loc} {cells slots : Nat} {ls : Array Slot} (hx : p.tables.exec = Jvm.exec) (hb : c.code = b_B_put) (hown : s.vm.findClass "FewBits$Buckets" = some m.cls) (hW : s0.WarmedH s.vm) {b : Nat} (hob : mx_Ob s H "FewBits$Buckets" b) (as rest : List Value) (hn : as.length = 1) : ∀ T, T.heap = H → Stand p l e R s m args below meth c T locs cells slots → mx_Inv p l e R s m args below meth c T locs cells slots (F0 m 8 ls (as.reverse ++ .ref b :: rest)) (F0 m 8 ls rest) y_B_firstBucket (.ref b :: as) := fun T hT X => mx_invV X hT hx hown (G.1.at 309 rfl rfl _ hW) (G.1.at 310 rfl rfl _ hW) (G.1.at 311 rfl rfl _ hW) (G.1.at 312 rfl rfl _ hW) ⟨⟨by decide, by decide⟩, by decide +kernel⟩ hob rfl hn rfl (by rw [hb]; exact d_B_put_8)
set_option maxRecDepth 20000 in
theorem iv_B_put_17 {l : Launch} {s0 : State} {D : va_G} {cI cF cJ : ClassId} (G : Gx l s0 D cI cF cJ) {p : Program} {e : Env} {R : Room} {s : State} {m : MethodId} {args : Array Value} {below : List Frame} {meth : Method} {c : Code} {H : Heap} {locs : List Loc} {cells slots : Nat} {ls : Array Slot} (hx : p.tables.exec = Jvm.exec) (hb : c.code = b_B_put) (hown : s.vm.findClass "FewBits$Buckets" = some m.cls) (hW : s0.WarmedH s.vm) {b : Nat} (hob : mx_Ob s H "FewBits$Buckets" b) (as rest : List Value) (hn : as.length = 2) : ∀ T, T.heap = H → Stand p l e R s m args below meth c T locs cells slots → mx_Inv p l e R s m args below meth c T locs cells slots (F0 m 17 ls (as.reverse ++ .ref b :: rest)) (F0 m 17 ls rest) y_B_otherBucket (.ref b :: as) := fun T hT X => mx_invV X hT hx hown (G.1.at 326 rfl rfl _ hW) (G.1.at 327 rfl rfl _ hW) (G.1.at 328 rfl rfl _ hW) (G.1.at 329 rfl rfl _ hW) ⟨⟨by decide, by decide⟩, by decide +kernel⟩ hob rfl hn rfl (by rw [hb]; exact d_B_put_17)
set_option maxRecDepth 20000 in
theorem iv_B_put_26 {l : Launch} {s0 : State} {D : va_G} {cI cF cJ : ClassId} (G : Gx l s0 D cI cF cJ) {p : Program} {e : Env} {R : Room} {s : State} {m : MethodId} {args : Array Value} {below : List Frame} {meth : Method} {c : Code} {H : Heap} {locs : List Loc} {cells slots : Nat} {ls : Array Slot} (hx : p.tables.exec = Jvm.exec) (hb : c.code = b_B_put) (hown : s.vm.findClass "FewBits$Buckets" = some m.cls) (hW : s0.WarmedH s.vm) {b : Nat} (hob : mx_Ob s H "FewBits$Buckets" b) (as rest : List Value) (hn : as.length = 2) : ∀ T, T.heap = H → Stand p l e R s m args below meth c T locs cells slots → mx_Inv p l e R s m args below meth c T locs cells slots (F0 m 26 ls (as.reverse ++ .ref b :: rest)) (F0 m 26 ls rest) y_B_putFree (.ref b :: as) := fun T hT X => mx_invV X hT hx hown (G.1.at 330 rfl rfl _ hW) (G.1.at 331 rfl rfl _ hW) (G.1.at 332 rfl rfl _ hW) (G.1.at 333 rfl rfl _ hW) ⟨⟨by decide, by decide⟩, by decide +kernel⟩ hob rfl hn rfl (by rw [hb]; exact d_B_put_26)
set_option maxRecDepth 20000 in
theorem iv_B_put_36 {l : Launch} {s0 : State} {D : va_G} {cI cF cJ : ClassId} (G : Gx l s0 D cI cF cJ) {p : Program} {e : Env} {R : Room} {s : State} {m : MethodId} {args : Array Value} {below : List Frame} {meth : Method} {c : Code} {H : Heap} {locs : List Loc} {cells slots : Nat} {ls : Array Slot} (hx : p.tables.exec = Jvm.exec) (hb : c.code = b_B_put) (hown : s.vm.findClass "FewBits$Buckets" = some m.cls) (hW : s0.WarmedH s.vm) {b : Nat} (hob : mx_Ob s H "FewBits$Buckets" b) (as rest : List Value) (hn : as.length = 2) : ∀ T, T.heap = H → Stand p l e R s m args below meth c T locs cells slots → mx_Inv p l e R s m args below meth c T locs cells slots (F0 m 36 ls (as.reverse ++ .ref b :: rest)) (F0 m 36 ls rest) y_B_putFree (.ref b :: as) := fun T hT X => mx_invV X hT hx hown (G.1.at 330 rfl rfl _ hW) (G.1.at 331 rfl rfl _ hW) (G.1.at 332 rfl rfl _ hW) (G.1.at 333 rfl rfl _ hW) ⟨⟨by decide, by decide⟩, by decide +kernel⟩ hob rfl hn rfl (by rw [hb]; exact d_B_put_36)
set_option maxRecDepth 20000 in
theorem iv_B_put_46 {l : Launch} {s0 : State} {D : va_G} {cI cF cJ : ClassId} (G : Gx l s0 D cI cF cJ) {p : Program} {e : Env} {R : Room} {s : State} {m : MethodId} {args : Array Value} {below : List Frame} {meth : Method} {c : Code} {H : Heap} {locs : List Loc} {cells slots : Nat} {ls : Array Slot} (hx : p.tables.exec = Jvm.exec) (hb : c.code = b_B_put) (hown : s.vm.findClass "FewBits$Buckets" = some m.cls) (hW : s0.WarmedH s.vm) {b : Nat} (hob : mx_Ob s H "FewBits$Buckets" b) (as rest : List Value) (hn : as.length = 2) : ∀ T, T.heap = H → Stand p l e R s m args below meth c T locs cells slots → mx_Inv p l e R s m args below meth c T locs cells slots (F0 m 46 ls (as.reverse ++ .ref b :: rest)) (F0 m 46 ls rest) y_B_pushInto (.ref b :: as) := fun T hT X => mx_invV X hT hx hown (G.1.at 338 rfl rfl _ hW) (G.1.at 339 rfl rfl _ hW) (G.1.at 340 rfl rfl _ hW) (G.1.at 341 rfl rfl _ hW) ⟨⟨by decide, by decide⟩, by decide +kernel⟩ hob rfl hn rfl (by rw [hb]; exact d_B_put_46)
set_option maxRecDepth 20000 in
theorem iv_B_take_2 {l : Launch} {s0 : State} {D : va_G} {cI cF cJ : ClassId} (G : Gx l s0 D cI cF cJ) {p : Program} {e : Env} {R : Room} {s : State} {m : MethodId} {args : Array Value} {below : List Frame} {meth : Method} {c : Code} {H : Heap} {locs : List Loc} {cells slots : Nat} {ls : Array Slot} (hx : p.tables.exec = Jvm.exec) (hb : c.code = b_B_take) (hown : s.vm.findClass "FewBits$Buckets" = some m.cls) (hW : s0.WarmedH s.vm) {b : Nat} (hob : mx_Ob s H "FewBits$Buckets" b) (as rest : List Value) (hn : as.length = 1) : ∀ T, T.heap = H → Stand p l e R s m args below meth c T locs cells slots → mx_Inv p l e R s m args below meth c T locs cells slots (F0 m 2 ls (as.reverse ++ .ref b :: rest)) (F0 m 2 ls rest) y_B_slotOf (.ref b :: as) := fun T hT X => mx_invV X hT hx hown (G.1.at 436 rfl rfl _ hW) (G.1.at 437 rfl rfl _ hW) (G.1.at 438 rfl rfl _ hW) (G.1.at 439 rfl rfl _ hW) ⟨⟨by decide, by decide⟩, by decide +kernel⟩ hob rfl hn rfl (by rw [hb]; exact d_B_take_2)
set_option maxRecDepth 20000 in
theorem iv_B_holds_2 {l : Launch} {s0 : State} {D : va_G} {cI cF cJ : ClassId} (G : Gx l s0 D cI cF cJ) {p : Program} {e : Env} {R : Room} {s : State} {m : MethodId} {args : Array Value} {below : List Frame} {meth : Method} {c : Code} {H : Heap} {locs : List Loc} {cells slots : Nat} {ls : Array Slot} (hx : p.tables.exec = Jvm.exec) (hb : c.code = b_B_holds) (hown : s.vm.findClass "FewBits$Buckets" = some m.cls) (hW : s0.WarmedH s.vm) {b : Nat} (hob : mx_Ob s H "FewBits$Buckets" b) (as rest : List Value) (hn : as.length = 1) : ∀ T, T.heap = H → Stand p l e R s m args below meth c T locs cells slots → mx_Inv p l e R s m args below meth c T locs cells slots (F0 m 2 ls (as.reverse ++ .ref b :: rest)) (F0 m 2 ls rest) y_B_slotOf (.ref b :: as) := fun T hT X => mx_invV X hT hx hown (G.1.at 436 rfl rfl _ hW) (G.1.at 437 rfl rfl _ hW) (G.1.at 438 rfl rfl _ hW) (G.1.at 439 rfl rfl _ hW) ⟨⟨by decide, by decide⟩, by decide +kernel⟩ hob rfl hn rfl (by rw [hb]; exact d_B_holds_2)
set_option maxRecDepth 20000 in
theorem iv_B_looksAlike_2 {l : Launch} {s0 : State} {D : va_G} {cI cF cJ : ClassId} (G : Gx l s0 D cI cF cJ) {p : Program} {e : Env} {R : Room} {s : State} {m : MethodId} {args : Array Value} {below : List Frame} {meth : Method} {c : Code} {H : Heap} {locs : List Loc} {cells slots : Nat} {ls : Array Slot} (hx : p.tables.exec = Jvm.exec) (hb : c.code = b_B_looksAlike) (hown : s.vm.findClass "FewBits$Buckets" = some m.cls) (hW : s0.WarmedH s.vm) {b : Nat} (hob : mx_Ob s H "FewBits$Buckets" b) (as rest : List Value) (hn : as.length = 1) : ∀ T, T.heap = H → Stand p l e R s m args below meth c T locs cells slots → mx_Inv p l e R s m args below meth c T locs cells slots (F0 m 2 ls (as.reverse ++ .ref b :: rest)) (F0 m 2 ls rest) y_B_fingerprint (.ref b :: as) := fun T hT X => mx_invV X hT hx hown (G.1.at 304 rfl rfl _ hW) (G.1.at 305 rfl rfl _ hW) (G.1.at 306 rfl rfl _ hW) (G.1.at 307 rfl rfl _ hW) ⟨⟨by decide, by decide⟩, by decide +kernel⟩ hob rfl hn rfl (by rw [hb]; exact d_B_looksAlike_2)
set_option maxRecDepth 20000 in
theorem iv_B_looksAlike_11 {l : Launch} {s0 : State} {D : va_G} {cI cF cJ : ClassId} (G : Gx l s0 D cI cF cJ) {p : Program} {e : Env} {R : Room} {s : State} {m : MethodId} {args : Array Value} {below : List Frame} {meth : Method} {c : Code} {H : Heap} {locs : List Loc} {cells slots : Nat} {ls : Array Slot} (hx : p.tables.exec = Jvm.exec) (hb : c.code = b_B_looksAlike) (hown : s.vm.findClass "FewBits$Buckets" = some m.cls) (hW : s0.WarmedH s.vm) {b : Nat} (hob : mx_Ob s H "FewBits$Buckets" b) (as rest : List Value) (hn : as.length = 1) : ∀ T, T.heap = H → Stand p l e R s m args below meth c T locs cells slots → mx_Inv p l e R s m args below meth c T locs cells slots (F0 m 11 ls (as.reverse ++ .ref b :: rest)) (F0 m 11 ls rest) y_B_fingerprint (.ref b :: as) := fun T hT X => mx_invV X hT hx hown (G.1.at 304 rfl rfl _ hW) (G.1.at 305 rfl rfl _ hW) (G.1.at 306 rfl rfl _ hW) (G.1.at 307 rfl rfl _ hW) ⟨⟨by decide, by decide⟩, by decide +kernel⟩ hob rfl hn rfl (by rw [hb]; exact d_B_looksAlike_11)
set_option maxRecDepth 20000 in
theorem iv_B_looksAlike_21 {l : Launch} {s0 : State} {D : va_G} {cI cF cJ : ClassId} (G : Gx l s0 D cI cF cJ) {p : Program} {e : Env} {R : Room} {s : State} {m : MethodId} {args : Array Value} {below : List Frame} {meth : Method} {c : Code} {H : Heap} {locs : List Loc} {cells slots : Nat} {ls : Array Slot} (hx : p.tables.exec = Jvm.exec) (hb : c.code = b_B_looksAlike) (hown : s.vm.findClass "FewBits$Buckets" = some m.cls) (hW : s0.WarmedH s.vm) {b : Nat} (hob : mx_Ob s H "FewBits$Buckets" b) (as rest : List Value) (hn : as.length = 1) : ∀ T, T.heap = H → Stand p l e R s m args below meth c T locs cells slots → mx_Inv p l e R s m args below meth c T locs cells slots (F0 m 21 ls (as.reverse ++ .ref b :: rest)) (F0 m 21 ls rest) y_B_firstBucket (.ref b :: as) := fun T hT X => mx_invV X hT hx hown (G.1.at 309 rfl rfl _ hW) (G.1.at 310 rfl rfl _ hW) (G.1.at 311 rfl rfl _ hW) (G.1.at 312 rfl rfl _ hW) ⟨⟨by decide, by decide⟩, by decide +kernel⟩ hob rfl hn rfl (by rw [hb]; exact d_B_looksAlike_21)
set_option maxRecDepth 20000 in
theorem iv_B_looksAlike_28 {l : Launch} {s0 : State} {D : va_G} {cI cF cJ : ClassId} (G : Gx l s0 D cI cF cJ) {p : Program} {e : Env} {R : Room} {s : State} {m : MethodId} {args : Array Value} {below : List Frame} {meth : Method} {c : Code} {H : Heap} {locs : List Loc} {cells slots : Nat} {ls : Array Slot} (hx : p.tables.exec = Jvm.exec) (hb : c.code = b_B_looksAlike) (hown : s.vm.findClass "FewBits$Buckets" = some m.cls) (hW : s0.WarmedH s.vm) {b : Nat} (hob : mx_Ob s H "FewBits$Buckets" b) (as rest : List Value) (hn : as.length = 1) : ∀ T, T.heap = H → Stand p l e R s m args below meth c T locs cells slots → mx_Inv p l e R s m args below meth c T locs cells slots (F0 m 28 ls (as.reverse ++ .ref b :: rest)) (F0 m 28 ls rest) y_B_firstBucket (.ref b :: as) := fun T hT X => mx_invV X hT hx hown (G.1.at 309 rfl rfl _ hW) (G.1.at 310 rfl rfl _ hW) (G.1.at 311 rfl rfl _ hW) (G.1.at 312 rfl rfl _ hW) ⟨⟨by decide, by decide⟩, by decide +kernel⟩ hob rfl hn rfl (by rw [hb]; exact d_B_looksAlike_28)
set_option maxRecDepth 20000 in
theorem iv_B_looksAlike_45 {l : Launch} {s0 : State} {D : va_G} {cI cF cJ : ClassId} (G : Gx l s0 D cI cF cJ) {p : Program} {e : Env} {R : Room} {s : State} {m : MethodId} {args : Array Value} {below : List Frame} {meth : Method} {c : Code} {H : Heap} {locs : List Loc} {cells slots : Nat} {ls : Array Slot} (hx : p.tables.exec = Jvm.exec) (hb : c.code = b_B_looksAlike) (hown : s.vm.findClass "FewBits$Buckets" = some m.cls) (hW : s0.WarmedH s.vm) {b : Nat} (hob : mx_Ob s H "FewBits$Buckets" b) (as rest : List Value) (hn : as.length = 2) : ∀ T, T.heap = H → Stand p l e R s m args below meth c T locs cells slots → mx_Inv p l e R s m args below meth c T locs cells slots (F0 m 45 ls (as.reverse ++ .ref b :: rest)) (F0 m 45 ls rest) y_B_otherBucket (.ref b :: as) := fun T hT X => mx_invV X hT hx hown (G.1.at 326 rfl rfl _ hW) (G.1.at 327 rfl rfl _ hW) (G.1.at 328 rfl rfl _ hW) (G.1.at 329 rfl rfl _ hW) ⟨⟨by decide, by decide⟩, by decide +kernel⟩ hob rfl hn rfl (by rw [hb]; exact d_B_looksAlike_45)
set_option maxRecDepth 20000 in
theorem iv_B_fingerprint_2 {l : Launch} {s0 : State} {D : va_G} {cI cF cJ : ClassId} (G : Gx l s0 D cI cF cJ) {p : Program} {e : Env} {R : Room} {s : State} {m : MethodId} {args : Array Value} {below : List Frame} {meth : Method} {c : Code} {H : Heap} {locs : List Loc} {cells slots : Nat} {ls : Array Slot} (hx : p.tables.exec = Jvm.exec) (hb : c.code = b_B_fingerprint) (hown : s.vm.findClass "FewBits$Buckets" = some m.cls) (hW : s0.WarmedH s.vm) (as rest : List Value) (hn : as.length = 2) : ∀ T, T.heap = H → Stand p l e R s m args below meth c T locs cells slots → mx_Inv p l e R s m args below meth c T locs cells slots (F0 m 2 ls (as.reverse ++ rest)) (F0 m 2 ls rest) y_F_mixed as := fun T hT X => mx_invSN X hx hown (va_Nw.use rfl (va_Nw.warmM hW (G.1.nw 308 rfl rfl))) (G.1.at 40 rfl rfl _ hW) (G.1.at 1 rfl rfl _ hW) (G.1.at 41 rfl rfl _ hW) ⟨⟨by decide, by decide⟩, by decide +kernel⟩ rfl hn rfl (by rw [hb]; exact d_B_fingerprint_2)
set_option maxRecDepth 20000 in
theorem iv_B_firstBucket_3 {l : Launch} {s0 : State} {D : va_G} {cI cF cJ : ClassId} (G : Gx l s0 D cI cF cJ) {p : Program} {e : Env} {R : Room} {s : State} {m : MethodId} {args : Array Value} {below : List Frame} {meth : Method} {c : Code} {H : Heap} {locs : List Loc} {cells slots : Nat} {ls : Array Slot} (hx : p.tables.exec = Jvm.exec) (hb : c.code = b_B_firstBucket) (hown : s.vm.findClass "FewBits$Buckets" = some m.cls) (hW : s0.WarmedH s.vm) (as rest : List Value) (hn : as.length = 2) : ∀ T, T.heap = H → Stand p l e R s m args below meth c T locs cells slots → mx_Inv p l e R s m args below meth c T locs cells slots (F0 m 3 ls (as.reverse ++ rest)) (F0 m 3 ls rest) y_F_mixed as := fun T hT X => mx_invSN X hx hown (va_Nw.use rfl (va_Nw.warmM hW (G.1.nw 308 rfl rfl))) (G.1.at 40 rfl rfl _ hW) (G.1.at 1 rfl rfl _ hW) (G.1.at 41 rfl rfl _ hW) ⟨⟨by decide, by decide⟩, by decide +kernel⟩ rfl hn rfl (by rw [hb]; exact d_B_firstBucket_3)
set_option maxRecDepth 20000 in
theorem iv_B_firstBucket_6 {l : Launch} {s0 : State} {D : va_G} {cI cF cJ : ClassId} (G : Gx l s0 D cI cF cJ) {p : Program} {e : Env} {R : Room} {s : State} {m : MethodId} {args : Array Value} {below : List Frame} {meth : Method} {c : Code} {H : Heap} {locs : List Loc} {cells slots : Nat} {ls : Array Slot} (hx : p.tables.exec = Jvm.exec) (hb : c.code = b_B_firstBucket) (hown : s.vm.findClass "FewBits$Buckets" = some m.cls) (hW : s0.WarmedH s.vm) {b : Nat} (hob : mx_Ob s H "FewBits$Buckets" b) (as rest : List Value) (hn : as.length = 1) : ∀ T, T.heap = H → Stand p l e R s m args below meth c T locs cells slots → mx_Inv p l e R s m args below meth c T locs cells slots (F0 m 6 ls (as.reverse ++ .ref b :: rest)) (F0 m 6 ls rest) y_P_lowestBits (.ref b :: as) := fun T hT X => mx_invU X hT hx (owner := "FewBits$Filter") (x := ⟨"FewBits$Buckets", "lowestBits", "(J)I"⟩) hown (G.1.at 313 rfl rfl _ hW) (G.1.at 314 rfl rfl _ hW) (va_Decl.abs (va_Nw.warmD hW (G.1.nw 315 rfl rfl))) ⟨by decide, by decide⟩ (G.1.at 316 rfl rfl _ hW) (G.1.at 317 rfl rfl _ hW) ⟨⟨by decide, by decide⟩, by decide +kernel⟩ hob rfl hn rfl (by rw [hb]; exact d_B_firstBucket_6)
set_option maxRecDepth 20000 in
theorem iv_B_otherBucket_5 {l : Launch} {s0 : State} {D : va_G} {cI cF cJ : ClassId} (G : Gx l s0 D cI cF cJ) {p : Program} {e : Env} {R : Room} {s : State} {m : MethodId} {args : Array Value} {below : List Frame} {meth : Method} {c : Code} {H : Heap} {locs : List Loc} {cells slots : Nat} {ls : Array Slot} (hx : p.tables.exec = Jvm.exec) (hb : c.code = b_B_otherBucket) (hown : s.vm.findClass "FewBits$Buckets" = some m.cls) (hW : s0.WarmedH s.vm) (as rest : List Value) (hn : as.length = 2) : ∀ T, T.heap = H → Stand p l e R s m args below meth c T locs cells slots → mx_Inv p l e R s m args below meth c T locs cells slots (F0 m 5 ls (as.reverse ++ rest)) (F0 m 5 ls rest) y_F_mixed as := fun T hT X => mx_invSN X hx hown (va_Nw.use rfl (va_Nw.warmM hW (G.1.nw 308 rfl rfl))) (G.1.at 40 rfl rfl _ hW) (G.1.at 1 rfl rfl _ hW) (G.1.at 41 rfl rfl _ hW) ⟨⟨by decide, by decide⟩, by decide +kernel⟩ rfl hn rfl (by rw [hb]; exact d_B_otherBucket_5)
set_option maxRecDepth 20000 in
theorem iv_B_otherBucket_8 {l : Launch} {s0 : State} {D : va_G} {cI cF cJ : ClassId} (G : Gx l s0 D cI cF cJ) {p : Program} {e : Env} {R : Room} {s : State} {m : MethodId} {args : Array Value} {below : List Frame} {meth : Method} {c : Code} {H : Heap} {locs : List Loc} {cells slots : Nat} {ls : Array Slot} (hx : p.tables.exec = Jvm.exec) (hb : c.code = b_B_otherBucket) (hown : s.vm.findClass "FewBits$Buckets" = some m.cls) (hW : s0.WarmedH s.vm) {b : Nat} (hob : mx_Ob s H "FewBits$Buckets" b) (as rest : List Value) (hn : as.length = 1) : ∀ T, T.heap = H → Stand p l e R s m args below meth c T locs cells slots → mx_Inv p l e R s m args below meth c T locs cells slots (F0 m 8 ls (as.reverse ++ .ref b :: rest)) (F0 m 8 ls rest) y_P_lowestBits (.ref b :: as) := fun T hT X => mx_invU X hT hx (owner := "FewBits$Filter") (x := ⟨"FewBits$Buckets", "lowestBits", "(J)I"⟩) hown (G.1.at 313 rfl rfl _ hW) (G.1.at 314 rfl rfl _ hW) (va_Decl.abs (va_Nw.warmD hW (G.1.nw 315 rfl rfl))) ⟨by decide, by decide⟩ (G.1.at 316 rfl rfl _ hW) (G.1.at 317 rfl rfl _ hW) ⟨⟨by decide, by decide⟩, by decide +kernel⟩ hob rfl hn rfl (by rw [hb]; exact d_B_otherBucket_8)
set_option maxRecDepth 20000 in
theorem iv_B_slotOf_2 {l : Launch} {s0 : State} {D : va_G} {cI cF cJ : ClassId} (G : Gx l s0 D cI cF cJ) {p : Program} {e : Env} {R : Room} {s : State} {m : MethodId} {args : Array Value} {below : List Frame} {meth : Method} {c : Code} {H : Heap} {locs : List Loc} {cells slots : Nat} {ls : Array Slot} (hx : p.tables.exec = Jvm.exec) (hb : c.code = b_B_slotOf) (hown : s.vm.findClass "FewBits$Buckets" = some m.cls) (hW : s0.WarmedH s.vm) {b : Nat} (hob : mx_Ob s H "FewBits$Buckets" b) (as rest : List Value) (hn : as.length = 1) : ∀ T, T.heap = H → Stand p l e R s m args below meth c T locs cells slots → mx_Inv p l e R s m args below meth c T locs cells slots (F0 m 2 ls (as.reverse ++ .ref b :: rest)) (F0 m 2 ls rest) y_B_fingerprint (.ref b :: as) := fun T hT X => mx_invV X hT hx hown (G.1.at 304 rfl rfl _ hW) (G.1.at 305 rfl rfl _ hW) (G.1.at 306 rfl rfl _ hW) (G.1.at 307 rfl rfl _ hW) ⟨⟨by decide, by decide⟩, by decide +kernel⟩ hob rfl hn rfl (by rw [hb]; exact d_B_slotOf_2)
set_option maxRecDepth 20000 in
theorem iv_B_slotOf_8 {l : Launch} {s0 : State} {D : va_G} {cI cF cJ : ClassId} (G : Gx l s0 D cI cF cJ) {p : Program} {e : Env} {R : Room} {s : State} {m : MethodId} {args : Array Value} {below : List Frame} {meth : Method} {c : Code} {H : Heap} {locs : List Loc} {cells slots : Nat} {ls : Array Slot} (hx : p.tables.exec = Jvm.exec) (hb : c.code = b_B_slotOf) (hown : s.vm.findClass "FewBits$Buckets" = some m.cls) (hW : s0.WarmedH s.vm) {b : Nat} (hob : mx_Ob s H "FewBits$Buckets" b) (as rest : List Value) (hn : as.length = 1) : ∀ T, T.heap = H → Stand p l e R s m args below meth c T locs cells slots → mx_Inv p l e R s m args below meth c T locs cells slots (F0 m 8 ls (as.reverse ++ .ref b :: rest)) (F0 m 8 ls rest) y_B_firstBucket (.ref b :: as) := fun T hT X => mx_invV X hT hx hown (G.1.at 309 rfl rfl _ hW) (G.1.at 310 rfl rfl _ hW) (G.1.at 311 rfl rfl _ hW) (G.1.at 312 rfl rfl _ hW) ⟨⟨by decide, by decide⟩, by decide +kernel⟩ hob rfl hn rfl (by rw [hb]; exact d_B_slotOf_8)
set_option maxRecDepth 20000 in
theorem iv_B_slotOf_17 {l : Launch} {s0 : State} {D : va_G} {cI cF cJ : ClassId} (G : Gx l s0 D cI cF cJ) {p : Program} {e : Env} {R : Room} {s : State} {m : MethodId} {args : Array Value} {below : List Frame} {meth : Method} {c : Code} {H : Heap} {locs : List Loc} {cells slots : Nat} {ls : Array Slot} (hx : p.tables.exec = Jvm.exec) (hb : c.code = b_B_slotOf) (hown : s.vm.findClass "FewBits$Buckets" = some m.cls) (hW : s0.WarmedH s.vm) {b : Nat} (hob : mx_Ob s H "FewBits$Buckets" b) (as rest : List Value) (hn : as.length = 2) : ∀ T, T.heap = H → Stand p l e R s m args below meth c T locs cells slots → mx_Inv p l e R s m args below meth c T locs cells slots (F0 m 17 ls (as.reverse ++ .ref b :: rest)) (F0 m 17 ls rest) y_B_slotWith (.ref b :: as) := fun T hT X => mx_invV X hT hx hown (G.1.at 334 rfl rfl _ hW) (G.1.at 335 rfl rfl _ hW) (G.1.at 336 rfl rfl _ hW) (G.1.at 337 rfl rfl _ hW) ⟨⟨by decide, by decide⟩, by decide +kernel⟩ hob rfl hn rfl (by rw [hb]; exact d_B_slotOf_17)
set_option maxRecDepth 20000 in
theorem iv_B_slotOf_38 {l : Launch} {s0 : State} {D : va_G} {cI cF cJ : ClassId} (G : Gx l s0 D cI cF cJ) {p : Program} {e : Env} {R : Room} {s : State} {m : MethodId} {args : Array Value} {below : List Frame} {meth : Method} {c : Code} {H : Heap} {locs : List Loc} {cells slots : Nat} {ls : Array Slot} (hx : p.tables.exec = Jvm.exec) (hb : c.code = b_B_slotOf) (hown : s.vm.findClass "FewBits$Buckets" = some m.cls) (hW : s0.WarmedH s.vm) {b : Nat} (hob : mx_Ob s H "FewBits$Buckets" b) (as rest : List Value) (hn : as.length = 2) : ∀ T, T.heap = H → Stand p l e R s m args below meth c T locs cells slots → mx_Inv p l e R s m args below meth c T locs cells slots (F0 m 38 ls (as.reverse ++ .ref b :: rest)) (F0 m 38 ls rest) y_B_otherBucket (.ref b :: as) := fun T hT X => mx_invV X hT hx hown (G.1.at 326 rfl rfl _ hW) (G.1.at 327 rfl rfl _ hW) (G.1.at 328 rfl rfl _ hW) (G.1.at 329 rfl rfl _ hW) ⟨⟨by decide, by decide⟩, by decide +kernel⟩ hob rfl hn rfl (by rw [hb]; exact d_B_slotOf_38)
set_option maxRecDepth 20000 in
theorem iv_B_slotOf_42 {l : Launch} {s0 : State} {D : va_G} {cI cF cJ : ClassId} (G : Gx l s0 D cI cF cJ) {p : Program} {e : Env} {R : Room} {s : State} {m : MethodId} {args : Array Value} {below : List Frame} {meth : Method} {c : Code} {H : Heap} {locs : List Loc} {cells slots : Nat} {ls : Array Slot} (hx : p.tables.exec = Jvm.exec) (hb : c.code = b_B_slotOf) (hown : s.vm.findClass "FewBits$Buckets" = some m.cls) (hW : s0.WarmedH s.vm) {b : Nat} (hob : mx_Ob s H "FewBits$Buckets" b) (as rest : List Value) (hn : as.length = 2) : ∀ T, T.heap = H → Stand p l e R s m args below meth c T locs cells slots → mx_Inv p l e R s m args below meth c T locs cells slots (F0 m 42 ls (as.reverse ++ .ref b :: rest)) (F0 m 42 ls rest) y_B_slotWith (.ref b :: as) := fun T hT X => mx_invV X hT hx hown (G.1.at 334 rfl rfl _ hW) (G.1.at 335 rfl rfl _ hW) (G.1.at 336 rfl rfl _ hW) (G.1.at 337 rfl rfl _ hW) ⟨⟨by decide, by decide⟩, by decide +kernel⟩ hob rfl hn rfl (by rw [hb]; exact d_B_slotOf_42)
set_option maxRecDepth 20000 in
theorem iv_B_putFree_3 {l : Launch} {s0 : State} {D : va_G} {cI cF cJ : ClassId} (G : Gx l s0 D cI cF cJ) {p : Program} {e : Env} {R : Room} {s : State} {m : MethodId} {args : Array Value} {below : List Frame} {meth : Method} {c : Code} {H : Heap} {locs : List Loc} {cells slots : Nat} {ls : Array Slot} (hx : p.tables.exec = Jvm.exec) (hb : c.code = b_B_putFree) (hown : s.vm.findClass "FewBits$Buckets" = some m.cls) (hW : s0.WarmedH s.vm) {b : Nat} (hob : mx_Ob s H "FewBits$Buckets" b) (as rest : List Value) (hn : as.length = 2) : ∀ T, T.heap = H → Stand p l e R s m args below meth c T locs cells slots → mx_Inv p l e R s m args below meth c T locs cells slots (F0 m 3 ls (as.reverse ++ .ref b :: rest)) (F0 m 3 ls rest) y_B_slotWith (.ref b :: as) := fun T hT X => mx_invV X hT hx hown (G.1.at 334 rfl rfl _ hW) (G.1.at 335 rfl rfl _ hW) (G.1.at 336 rfl rfl _ hW) (G.1.at 337 rfl rfl _ hW) ⟨⟨by decide, by decide⟩, by decide +kernel⟩ hob rfl hn rfl (by rw [hb]; exact d_B_putFree_3)
set_option maxRecDepth 20000 in
theorem iv_B_pushInto_40 {l : Launch} {s0 : State} {D : va_G} {cI cF cJ : ClassId} (G : Gx l s0 D cI cF cJ) {p : Program} {e : Env} {R : Room} {s : State} {m : MethodId} {args : Array Value} {below : List Frame} {meth : Method} {c : Code} {H : Heap} {locs : List Loc} {cells slots : Nat} {ls : Array Slot} (hx : p.tables.exec = Jvm.exec) (hb : c.code = b_B_pushInto) (hown : s.vm.findClass "FewBits$Buckets" = some m.cls) (hW : s0.WarmedH s.vm) {b : Nat} (hob : mx_Ob s H "FewBits$Buckets" b) (as rest : List Value) (hn : as.length = 2) : ∀ T, T.heap = H → Stand p l e R s m args below meth c T locs cells slots → mx_Inv p l e R s m args below meth c T locs cells slots (F0 m 40 ls (as.reverse ++ .ref b :: rest)) (F0 m 40 ls rest) y_B_exchange (.ref b :: as) := fun T hT X => mx_invV X hT hx hown (G.1.at 342 rfl rfl _ hW) (G.1.at 343 rfl rfl _ hW) (G.1.at 344 rfl rfl _ hW) (G.1.at 345 rfl rfl _ hW) ⟨⟨by decide, by decide⟩, by decide +kernel⟩ hob rfl hn rfl (by rw [hb]; exact d_B_pushInto_40)
set_option maxRecDepth 20000 in
theorem iv_B_pushInto_59 {l : Launch} {s0 : State} {D : va_G} {cI cF cJ : ClassId} (G : Gx l s0 D cI cF cJ) {p : Program} {e : Env} {R : Room} {s : State} {m : MethodId} {args : Array Value} {below : List Frame} {meth : Method} {c : Code} {H : Heap} {locs : List Loc} {cells slots : Nat} {ls : Array Slot} (hx : p.tables.exec = Jvm.exec) (hb : c.code = b_B_pushInto) (hown : s.vm.findClass "FewBits$Buckets" = some m.cls) (hW : s0.WarmedH s.vm) {b : Nat} (hob : mx_Ob s H "FewBits$Buckets" b) (as rest : List Value) (hn : as.length = 2) : ∀ T, T.heap = H → Stand p l e R s m args below meth c T locs cells slots → mx_Inv p l e R s m args below meth c T locs cells slots (F0 m 59 ls (as.reverse ++ .ref b :: rest)) (F0 m 59 ls rest) y_B_otherBucket (.ref b :: as) := fun T hT X => mx_invV X hT hx hown (G.1.at 326 rfl rfl _ hW) (G.1.at 327 rfl rfl _ hW) (G.1.at 328 rfl rfl _ hW) (G.1.at 329 rfl rfl _ hW) ⟨⟨by decide, by decide⟩, by decide +kernel⟩ hob rfl hn rfl (by rw [hb]; exact d_B_pushInto_59)
set_option maxRecDepth 20000 in
theorem iv_B_pushInto_67 {l : Launch} {s0 : State} {D : va_G} {cI cF cJ : ClassId} (G : Gx l s0 D cI cF cJ) {p : Program} {e : Env} {R : Room} {s : State} {m : MethodId} {args : Array Value} {below : List Frame} {meth : Method} {c : Code} {H : Heap} {locs : List Loc} {cells slots : Nat} {ls : Array Slot} (hx : p.tables.exec = Jvm.exec) (hb : c.code = b_B_pushInto) (hown : s.vm.findClass "FewBits$Buckets" = some m.cls) (hW : s0.WarmedH s.vm) {b : Nat} (hob : mx_Ob s H "FewBits$Buckets" b) (as rest : List Value) (hn : as.length = 2) : ∀ T, T.heap = H → Stand p l e R s m args below meth c T locs cells slots → mx_Inv p l e R s m args below meth c T locs cells slots (F0 m 67 ls (as.reverse ++ .ref b :: rest)) (F0 m 67 ls rest) y_B_putFree (.ref b :: as) := fun T hT X => mx_invV X hT hx hown (G.1.at 330 rfl rfl _ hW) (G.1.at 331 rfl rfl _ hW) (G.1.at 332 rfl rfl _ hW) (G.1.at 333 rfl rfl _ hW) ⟨⟨by decide, by decide⟩, by decide +kernel⟩ hob rfl hn rfl (by rw [hb]; exact d_B_pushInto_67)
set_option maxRecDepth 20000 in
theorem iv_B_pushInto_84 {l : Launch} {s0 : State} {D : va_G} {cI cF cJ : ClassId} (G : Gx l s0 D cI cF cJ) {p : Program} {e : Env} {R : Room} {s : State} {m : MethodId} {args : Array Value} {below : List Frame} {meth : Method} {c : Code} {H : Heap} {locs : List Loc} {cells slots : Nat} {ls : Array Slot} (hx : p.tables.exec = Jvm.exec) (hb : c.code = b_B_pushInto) (hown : s.vm.findClass "FewBits$Buckets" = some m.cls) (hW : s0.WarmedH s.vm) {b : Nat} (hob : mx_Ob s H "FewBits$Buckets" b) (as rest : List Value) (hn : as.length = 1) : ∀ T, T.heap = H → Stand p l e R s m args below meth c T locs cells slots → mx_Inv p l e R s m args below meth c T locs cells slots (F0 m 84 ls (as.reverse ++ .ref b :: rest)) (F0 m 84 ls rest) y_B_pushBack (.ref b :: as) := fun T hT X => mx_invV X hT hx hown (G.1.at 346 rfl rfl _ hW) (G.1.at 347 rfl rfl _ hW) (G.1.at 348 rfl rfl _ hW) (G.1.at 349 rfl rfl _ hW) ⟨⟨by decide, by decide⟩, by decide +kernel⟩ hob rfl hn rfl (by rw [hb]; exact d_B_pushInto_84)
set_option maxRecDepth 20000 in
theorem iv_B_pushBack_17 {l : Launch} {s0 : State} {D : va_G} {cI cF cJ : ClassId} (G : Gx l s0 D cI cF cJ) {p : Program} {e : Env} {R : Room} {s : State} {m : MethodId} {args : Array Value} {below : List Frame} {meth : Method} {c : Code} {H : Heap} {locs : List Loc} {cells slots : Nat} {ls : Array Slot} (hx : p.tables.exec = Jvm.exec) (hb : c.code = b_B_pushBack) (hown : s.vm.findClass "FewBits$Buckets" = some m.cls) (hW : s0.WarmedH s.vm) {b : Nat} (hob : mx_Ob s H "FewBits$Buckets" b) (as rest : List Value) (hn : as.length = 2) : ∀ T, T.heap = H → Stand p l e R s m args below meth c T locs cells slots → mx_Inv p l e R s m args below meth c T locs cells slots (F0 m 17 ls (as.reverse ++ .ref b :: rest)) (F0 m 17 ls rest) y_B_exchange (.ref b :: as) := fun T hT X => mx_invV X hT hx hown (G.1.at 342 rfl rfl _ hW) (G.1.at 343 rfl rfl _ hW) (G.1.at 344 rfl rfl _ hW) (G.1.at 345 rfl rfl _ hW) ⟨⟨by decide, by decide⟩, by decide +kernel⟩ hob rfl hn rfl (by rw [hb]; exact d_B_pushBack_17)
set_option maxRecDepth 20000 in
theorem iv_C_init_1 {l : Launch} {s0 : State} {D : va_G} {cI cF cJ : ClassId} (G : Gx l s0 D cI cF cJ) {p : Program} {e : Env} {R : Room} {s : State} {m : MethodId} {args : Array Value} {below : List Frame} {meth : Method} {c : Code} {H : Heap} {locs : List Loc} {cells slots : Nat} {ls : Array Slot} (hx : p.tables.exec = Jvm.exec) (hb : c.code = b_C_init) (hown : s.vm.findClass "FewBits$Counters" = some m.cls) (hW : s0.WarmedH s.vm) (b : Nat) (as rest : List Value) (hn : as.length = 0) : ∀ T, T.heap = H → Stand p l e R s m args below meth c T locs cells slots → mx_Inv p l e R s m args below meth c T locs cells slots (F0 m 1 ls (as.reverse ++ .ref b :: rest)) (F0 m 1 ls rest) y_P_init (.ref b :: as) := fun T hT X => mx_invIN X hx hown rfl (va_Nw.use rfl (va_Nw.warmM hW (G.1.nw 164 rfl rfl))) (G.1.at 165 rfl rfl _ hW) (G.1.at 166 rfl rfl _ hW) ⟨⟨by decide, by decide⟩, by decide +kernel⟩ rfl hn rfl (by rw [hb]; exact d_C_init_1)
set_option maxRecDepth 20000 in
theorem iv_C_wipe_5 {l : Launch} {s0 : State} {D : va_G} {cI cF cJ : ClassId} (G : Gx l s0 D cI cF cJ) {p : Program} {e : Env} {R : Room} {s : State} {m : MethodId} {args : Array Value} {below : List Frame} {meth : Method} {c : Code} {H : Heap} {locs : List Loc} {cells slots : Nat} {ls : Array Slot} (hx : p.tables.exec = Jvm.exec) (hb : c.code = b_C_wipe) (hown : s.vm.findClass "FewBits$Counters" = some m.cls) (hW : s0.WarmedH s.vm) (as rest : List Value) (hn : as.length = 2) : ∀ T, T.heap = H → Stand p l e R s m args below meth c T locs cells slots → mx_Inv p l e R s m args below meth c T locs cells slots (F0 m 5 ls (as.reverse ++ rest)) (F0 m 5 ls rest) y_A_fill as := fun T hT X => mx_invS X hx hown (G.1.at 258 rfl rfl _ hW) (G.1.at 253 rfl rfl _ hW) (G.1.at 12 rfl rfl _ hW) (G.1.at 254 rfl rfl _ hW) ⟨⟨by decide, by decide⟩, by decide +kernel⟩ rfl hn rfl (by rw [hb]; exact d_C_wipe_5)
set_option maxRecDepth 20000 in
theorem iv_C_put_6 {l : Launch} {s0 : State} {D : va_G} {cI cF cJ : ClassId} (G : Gx l s0 D cI cF cJ) {p : Program} {e : Env} {R : Room} {s : State} {m : MethodId} {args : Array Value} {below : List Frame} {meth : Method} {c : Code} {H : Heap} {locs : List Loc} {cells slots : Nat} {ls : Array Slot} (hx : p.tables.exec = Jvm.exec) (hb : c.code = b_C_put) (hown : s.vm.findClass "FewBits$Counters" = some m.cls) (hW : s0.WarmedH s.vm) {b : Nat} (hob : mx_Ob s H "FewBits$Counters" b) (as rest : List Value) (hn : as.length = 2) : ∀ T, T.heap = H → Stand p l e R s m args below meth c T locs cells slots → mx_Inv p l e R s m args below meth c T locs cells slots (F0 m 6 ls (as.reverse ++ .ref b :: rest)) (F0 m 6 ls rest) y_C_findPlaces (.ref b :: as) := fun T hT X => mx_invV X hT hx hown (G.1.at 353 rfl rfl _ hW) (G.1.at 354 rfl rfl _ hW) (G.1.at 355 rfl rfl _ hW) (G.1.at 356 rfl rfl _ hW) ⟨⟨by decide, by decide⟩, by decide +kernel⟩ hob rfl hn rfl (by rw [hb]; exact d_C_put_6)
set_option maxRecDepth 20000 in
theorem iv_C_put_41 {l : Launch} {s0 : State} {D : va_G} {cI cF cJ : ClassId} (G : Gx l s0 D cI cF cJ) {p : Program} {e : Env} {R : Room} {s : State} {m : MethodId} {args : Array Value} {below : List Frame} {meth : Method} {c : Code} {H : Heap} {locs : List Loc} {cells slots : Nat} {ls : Array Slot} (hx : p.tables.exec = Jvm.exec) (hb : c.code = b_C_put) (hown : s.vm.findClass "FewBits$Counters" = some m.cls) (hW : s0.WarmedH s.vm) {b : Nat} (hob : mx_Ob s H "FewBits$Counters" b) (as rest : List Value) (hn : as.length = 2) : ∀ T, T.heap = H → Stand p l e R s m args below meth c T locs cells slots → mx_Inv p l e R s m args below meth c T locs cells slots (F0 m 41 ls (as.reverse ++ .ref b :: rest)) (F0 m 41 ls rest) y_C_timesIn (.ref b :: as) := fun T hT X => mx_invV X hT hx hown (G.1.at 361 rfl rfl _ hW) (G.1.at 362 rfl rfl _ hW) (G.1.at 363 rfl rfl _ hW) (G.1.at 364 rfl rfl _ hW) ⟨⟨by decide, by decide⟩, by decide +kernel⟩ hob rfl hn rfl (by rw [hb]; exact d_C_put_41)
set_option maxRecDepth 20000 in
theorem iv_C_put_60 {l : Launch} {s0 : State} {D : va_G} {cI cF cJ : ClassId} (G : Gx l s0 D cI cF cJ) {p : Program} {e : Env} {R : Room} {s : State} {m : MethodId} {args : Array Value} {below : List Frame} {meth : Method} {c : Code} {H : Heap} {locs : List Loc} {cells slots : Nat} {ls : Array Slot} (hx : p.tables.exec = Jvm.exec) (hb : c.code = b_C_put) (hown : s.vm.findClass "FewBits$Counters" = some m.cls) (hW : s0.WarmedH s.vm) {b : Nat} (hob : mx_Ob s H "FewBits$Counters" b) (as rest : List Value) (hn : as.length = 1) : ∀ T, T.heap = H → Stand p l e R s m args below meth c T locs cells slots → mx_Inv p l e R s m args below meth c T locs cells slots (F0 m 60 ls (as.reverse ++ .ref b :: rest)) (F0 m 60 ls rest) y_C_countBy (.ref b :: as) := fun T hT X => mx_invV X hT hx hown (G.1.at 365 rfl rfl _ hW) (G.1.at 366 rfl rfl _ hW) (G.1.at 367 rfl rfl _ hW) (G.1.at 368 rfl rfl _ hW) ⟨⟨by decide, by decide⟩, by decide +kernel⟩ hob rfl hn rfl (by rw [hb]; exact d_C_put_60)
set_option maxRecDepth 20000 in
theorem iv_C_take_6 {l : Launch} {s0 : State} {D : va_G} {cI cF cJ : ClassId} (G : Gx l s0 D cI cF cJ) {p : Program} {e : Env} {R : Room} {s : State} {m : MethodId} {args : Array Value} {below : List Frame} {meth : Method} {c : Code} {H : Heap} {locs : List Loc} {cells slots : Nat} {ls : Array Slot} (hx : p.tables.exec = Jvm.exec) (hb : c.code = b_C_take) (hown : s.vm.findClass "FewBits$Counters" = some m.cls) (hW : s0.WarmedH s.vm) {b : Nat} (hob : mx_Ob s H "FewBits$Counters" b) (as rest : List Value) (hn : as.length = 2) : ∀ T, T.heap = H → Stand p l e R s m args below meth c T locs cells slots → mx_Inv p l e R s m args below meth c T locs cells slots (F0 m 6 ls (as.reverse ++ .ref b :: rest)) (F0 m 6 ls rest) y_C_findPlaces (.ref b :: as) := fun T hT X => mx_invV X hT hx hown (G.1.at 353 rfl rfl _ hW) (G.1.at 354 rfl rfl _ hW) (G.1.at 355 rfl rfl _ hW) (G.1.at 356 rfl rfl _ hW) ⟨⟨by decide, by decide⟩, by decide +kernel⟩ hob rfl hn rfl (by rw [hb]; exact d_C_take_6)
set_option maxRecDepth 20000 in
theorem iv_C_take_41 {l : Launch} {s0 : State} {D : va_G} {cI cF cJ : ClassId} (G : Gx l s0 D cI cF cJ) {p : Program} {e : Env} {R : Room} {s : State} {m : MethodId} {args : Array Value} {below : List Frame} {meth : Method} {c : Code} {H : Heap} {locs : List Loc} {cells slots : Nat} {ls : Array Slot} (hx : p.tables.exec = Jvm.exec) (hb : c.code = b_C_take) (hown : s.vm.findClass "FewBits$Counters" = some m.cls) (hW : s0.WarmedH s.vm) {b : Nat} (hob : mx_Ob s H "FewBits$Counters" b) (as rest : List Value) (hn : as.length = 2) : ∀ T, T.heap = H → Stand p l e R s m args below meth c T locs cells slots → mx_Inv p l e R s m args below meth c T locs cells slots (F0 m 41 ls (as.reverse ++ .ref b :: rest)) (F0 m 41 ls rest) y_C_timesIn (.ref b :: as) := fun T hT X => mx_invV X hT hx hown (G.1.at 361 rfl rfl _ hW) (G.1.at 362 rfl rfl _ hW) (G.1.at 363 rfl rfl _ hW) (G.1.at 364 rfl rfl _ hW) ⟨⟨by decide, by decide⟩, by decide +kernel⟩ hob rfl hn rfl (by rw [hb]; exact d_C_take_41)
set_option maxRecDepth 20000 in
theorem iv_C_take_57 {l : Launch} {s0 : State} {D : va_G} {cI cF cJ : ClassId} (G : Gx l s0 D cI cF cJ) {p : Program} {e : Env} {R : Room} {s : State} {m : MethodId} {args : Array Value} {below : List Frame} {meth : Method} {c : Code} {H : Heap} {locs : List Loc} {cells slots : Nat} {ls : Array Slot} (hx : p.tables.exec = Jvm.exec) (hb : c.code = b_C_take) (hown : s.vm.findClass "FewBits$Counters" = some m.cls) (hW : s0.WarmedH s.vm) {b : Nat} (hob : mx_Ob s H "FewBits$Counters" b) (as rest : List Value) (hn : as.length = 1) : ∀ T, T.heap = H → Stand p l e R s m args below meth c T locs cells slots → mx_Inv p l e R s m args below meth c T locs cells slots (F0 m 57 ls (as.reverse ++ .ref b :: rest)) (F0 m 57 ls rest) y_C_countBy (.ref b :: as) := fun T hT X => mx_invV X hT hx hown (G.1.at 365 rfl rfl _ hW) (G.1.at 366 rfl rfl _ hW) (G.1.at 367 rfl rfl _ hW) (G.1.at 368 rfl rfl _ hW) ⟨⟨by decide, by decide⟩, by decide +kernel⟩ hob rfl hn rfl (by rw [hb]; exact d_C_take_57)
set_option maxRecDepth 20000 in
theorem iv_C_holds_6 {l : Launch} {s0 : State} {D : va_G} {cI cF cJ : ClassId} (G : Gx l s0 D cI cF cJ) {p : Program} {e : Env} {R : Room} {s : State} {m : MethodId} {args : Array Value} {below : List Frame} {meth : Method} {c : Code} {H : Heap} {locs : List Loc} {cells slots : Nat} {ls : Array Slot} (hx : p.tables.exec = Jvm.exec) (hb : c.code = b_C_holds) (hown : s.vm.findClass "FewBits$Counters" = some m.cls) (hW : s0.WarmedH s.vm) {b : Nat} (hob : mx_Ob s H "FewBits$Counters" b) (as rest : List Value) (hn : as.length = 2) : ∀ T, T.heap = H → Stand p l e R s m args below meth c T locs cells slots → mx_Inv p l e R s m args below meth c T locs cells slots (F0 m 6 ls (as.reverse ++ .ref b :: rest)) (F0 m 6 ls rest) y_C_findPlaces (.ref b :: as) := fun T hT X => mx_invV X hT hx hown (G.1.at 353 rfl rfl _ hW) (G.1.at 354 rfl rfl _ hW) (G.1.at 355 rfl rfl _ hW) (G.1.at 356 rfl rfl _ hW) ⟨⟨by decide, by decide⟩, by decide +kernel⟩ hob rfl hn rfl (by rw [hb]; exact d_C_holds_6)
set_option maxRecDepth 20000 in
theorem iv_C_looksAlike_6 {l : Launch} {s0 : State} {D : va_G} {cI cF cJ : ClassId} (G : Gx l s0 D cI cF cJ) {p : Program} {e : Env} {R : Room} {s : State} {m : MethodId} {args : Array Value} {below : List Frame} {meth : Method} {c : Code} {H : Heap} {locs : List Loc} {cells slots : Nat} {ls : Array Slot} (hx : p.tables.exec = Jvm.exec) (hb : c.code = b_C_looksAlike) (hown : s.vm.findClass "FewBits$Counters" = some m.cls) (hW : s0.WarmedH s.vm) {b : Nat} (hob : mx_Ob s H "FewBits$Counters" b) (as rest : List Value) (hn : as.length = 2) : ∀ T, T.heap = H → Stand p l e R s m args below meth c T locs cells slots → mx_Inv p l e R s m args below meth c T locs cells slots (F0 m 6 ls (as.reverse ++ .ref b :: rest)) (F0 m 6 ls rest) y_C_findPlaces (.ref b :: as) := fun T hT X => mx_invV X hT hx hown (G.1.at 353 rfl rfl _ hW) (G.1.at 354 rfl rfl _ hW) (G.1.at 355 rfl rfl _ hW) (G.1.at 356 rfl rfl _ hW) ⟨⟨by decide, by decide⟩, by decide +kernel⟩ hob rfl hn rfl (by rw [hb]; exact d_C_looksAlike_6)
set_option maxRecDepth 20000 in
theorem iv_C_looksAlike_15 {l : Launch} {s0 : State} {D : va_G} {cI cF cJ : ClassId} (G : Gx l s0 D cI cF cJ) {p : Program} {e : Env} {R : Room} {s : State} {m : MethodId} {args : Array Value} {below : List Frame} {meth : Method} {c : Code} {H : Heap} {locs : List Loc} {cells slots : Nat} {ls : Array Slot} (hx : p.tables.exec = Jvm.exec) (hb : c.code = b_C_looksAlike) (hown : s.vm.findClass "FewBits$Counters" = some m.cls) (hW : s0.WarmedH s.vm) {b : Nat} (hob : mx_Ob s H "FewBits$Counters" b) (as rest : List Value) (hn : as.length = 2) : ∀ T, T.heap = H → Stand p l e R s m args below meth c T locs cells slots → mx_Inv p l e R s m args below meth c T locs cells slots (F0 m 15 ls (as.reverse ++ .ref b :: rest)) (F0 m 15 ls rest) y_C_findPlaces (.ref b :: as) := fun T hT X => mx_invV X hT hx hown (G.1.at 353 rfl rfl _ hW) (G.1.at 354 rfl rfl _ hW) (G.1.at 355 rfl rfl _ hW) (G.1.at 356 rfl rfl _ hW) ⟨⟨by decide, by decide⟩, by decide +kernel⟩ hob rfl hn rfl (by rw [hb]; exact d_C_looksAlike_15)
set_option maxRecDepth 20000 in
theorem iv_C_looksAlike_42 {l : Launch} {s0 : State} {D : va_G} {cI cF cJ : ClassId} (G : Gx l s0 D cI cF cJ) {p : Program} {e : Env} {R : Room} {s : State} {m : MethodId} {args : Array Value} {below : List Frame} {meth : Method} {c : Code} {H : Heap} {locs : List Loc} {cells slots : Nat} {ls : Array Slot} (hx : p.tables.exec = Jvm.exec) (hb : c.code = b_C_looksAlike) (hown : s.vm.findClass "FewBits$Counters" = some m.cls) (hW : s0.WarmedH s.vm) {b : Nat} (hob : mx_Ob s H "FewBits$Counters" b) (as rest : List Value) (hn : as.length = 2) : ∀ T, T.heap = H → Stand p l e R s m args below meth c T locs cells slots → mx_Inv p l e R s m args below meth c T locs cells slots (F0 m 42 ls (as.reverse ++ .ref b :: rest)) (F0 m 42 ls rest) y_C_timesIn (.ref b :: as) := fun T hT X => mx_invV X hT hx hown (G.1.at 361 rfl rfl _ hW) (G.1.at 362 rfl rfl _ hW) (G.1.at 363 rfl rfl _ hW) (G.1.at 364 rfl rfl _ hW) ⟨⟨by decide, by decide⟩, by decide +kernel⟩ hob rfl hn rfl (by rw [hb]; exact d_C_looksAlike_42)
set_option maxRecDepth 20000 in
theorem iv_C_looksAlike_57 {l : Launch} {s0 : State} {D : va_G} {cI cF cJ : ClassId} (G : Gx l s0 D cI cF cJ) {p : Program} {e : Env} {R : Room} {s : State} {m : MethodId} {args : Array Value} {below : List Frame} {meth : Method} {c : Code} {H : Heap} {locs : List Loc} {cells slots : Nat} {ls : Array Slot} (hx : p.tables.exec = Jvm.exec) (hb : c.code = b_C_looksAlike) (hown : s.vm.findClass "FewBits$Counters" = some m.cls) (hW : s0.WarmedH s.vm) {b : Nat} (hob : mx_Ob s H "FewBits$Counters" b) (as rest : List Value) (hn : as.length = 2) : ∀ T, T.heap = H → Stand p l e R s m args below meth c T locs cells slots → mx_Inv p l e R s m args below meth c T locs cells slots (F0 m 57 ls (as.reverse ++ .ref b :: rest)) (F0 m 57 ls rest) y_C_timesIn (.ref b :: as) := fun T hT X => mx_invV X hT hx hown (G.1.at 361 rfl rfl _ hW) (G.1.at 362 rfl rfl _ hW) (G.1.at 363 rfl rfl _ hW) (G.1.at 364 rfl rfl _ hW) ⟨⟨by decide, by decide⟩, by decide +kernel⟩ hob rfl hn rfl (by rw [hb]; exact d_C_looksAlike_57)
set_option maxRecDepth 20000 in
theorem iv_C_filledCells_6 {l : Launch} {s0 : State} {D : va_G} {cI cF cJ : ClassId} (G : Gx l s0 D cI cF cJ) {p : Program} {e : Env} {R : Room} {s : State} {m : MethodId} {args : Array Value} {below : List Frame} {meth : Method} {c : Code} {H : Heap} {locs : List Loc} {cells slots : Nat} {ls : Array Slot} (hx : p.tables.exec = Jvm.exec) (hb : c.code = b_C_filledCells) (hown : s.vm.findClass "FewBits$Counters" = some m.cls) (hW : s0.WarmedH s.vm) {b : Nat} (hob : mx_Ob s H "FewBits$Counters" b) (as rest : List Value) (hn : as.length = 0) : ∀ T, T.heap = H → Stand p l e R s m args below meth c T locs cells slots → mx_Inv p l e R s m args below meth c T locs cells slots (F0 m 6 ls (as.reverse ++ .ref b :: rest)) (F0 m 6 ls rest) y_P_power (.ref b :: as) := fun T hT X => mx_invU X hT hx (owner := "FewBits$Filter") (x := ⟨"FewBits$Counters", "power", "()I"⟩) hown (G.1.at 533 rfl rfl _ hW) (G.1.at 534 rfl rfl _ hW) (va_Decl.abs (va_Nw.warmD hW (G.1.nw 374 rfl rfl))) ⟨by decide, by decide⟩ (G.1.at 535 rfl rfl _ hW) (G.1.at 320 rfl rfl _ hW) ⟨⟨by decide, by decide⟩, by decide +kernel⟩ hob rfl hn rfl (by rw [hb]; exact d_C_filledCells_6)
set_option maxRecDepth 20000 in
theorem iv_C_strain_6 {l : Launch} {s0 : State} {D : va_G} {cI cF cJ : ClassId} (G : Gx l s0 D cI cF cJ) {p : Program} {e : Env} {R : Room} {s : State} {m : MethodId} {args : Array Value} {below : List Frame} {meth : Method} {c : Code} {H : Heap} {locs : List Loc} {cells slots : Nat} {ls : Array Slot} (hx : p.tables.exec = Jvm.exec) (hb : c.code = b_C_strain) (hown : s.vm.findClass "FewBits$Counters" = some m.cls) (hW : s0.WarmedH s.vm) {b : Nat} (hob : mx_Ob s H "FewBits$Counters" b) (as rest : List Value) (hn : as.length = 0) : ∀ T, T.heap = H → Stand p l e R s m args below meth c T locs cells slots → mx_Inv p l e R s m args below meth c T locs cells slots (F0 m 6 ls (as.reverse ++ .ref b :: rest)) (F0 m 6 ls rest) y_P_power (.ref b :: as) := fun T hT X => mx_invU X hT hx (owner := "FewBits$Filter") (x := ⟨"FewBits$Counters", "power", "()I"⟩) hown (G.1.at 533 rfl rfl _ hW) (G.1.at 534 rfl rfl _ hW) (va_Decl.abs (va_Nw.warmD hW (G.1.nw 374 rfl rfl))) ⟨by decide, by decide⟩ (G.1.at 535 rfl rfl _ hW) (G.1.at 320 rfl rfl _ hW) ⟨⟨by decide, by decide⟩, by decide +kernel⟩ hob rfl hn rfl (by rw [hb]; exact d_C_strain_6)
set_option maxRecDepth 20000 in
theorem iv_C_findPlaces_19 {l : Launch} {s0 : State} {D : va_G} {cI cF cJ : ClassId} (G : Gx l s0 D cI cF cJ) {p : Program} {e : Env} {R : Room} {s : State} {m : MethodId} {args : Array Value} {below : List Frame} {meth : Method} {c : Code} {H : Heap} {locs : List Loc} {cells slots : Nat} {ls : Array Slot} (hx : p.tables.exec = Jvm.exec) (hb : c.code = b_C_findPlaces) (hown : s.vm.findClass "FewBits$Counters" = some m.cls) (hW : s0.WarmedH s.vm) (as rest : List Value) (hn : as.length = 2) : ∀ T, T.heap = H → Stand p l e R s m args below meth c T locs cells slots → mx_Inv p l e R s m args below meth c T locs cells slots (F0 m 19 ls (as.reverse ++ rest)) (F0 m 19 ls rest) y_F_mixed as := fun T hT X => mx_invSN X hx hown (va_Nw.use rfl (va_Nw.warmM hW (G.1.nw 357 rfl rfl))) (G.1.at 40 rfl rfl _ hW) (G.1.at 1 rfl rfl _ hW) (G.1.at 41 rfl rfl _ hW) ⟨⟨by decide, by decide⟩, by decide +kernel⟩ rfl hn rfl (by rw [hb]; exact d_C_findPlaces_19)
set_option maxRecDepth 20000 in
theorem iv_C_findPlaces_22 {l : Launch} {s0 : State} {D : va_G} {cI cF cJ : ClassId} (G : Gx l s0 D cI cF cJ) {p : Program} {e : Env} {R : Room} {s : State} {m : MethodId} {args : Array Value} {below : List Frame} {meth : Method} {c : Code} {H : Heap} {locs : List Loc} {cells slots : Nat} {ls : Array Slot} (hx : p.tables.exec = Jvm.exec) (hb : c.code = b_C_findPlaces) (hown : s.vm.findClass "FewBits$Counters" = some m.cls) (hW : s0.WarmedH s.vm) {b : Nat} (hob : mx_Ob s H "FewBits$Counters" b) (as rest : List Value) (hn : as.length = 1) : ∀ T, T.heap = H → Stand p l e R s m args below meth c T locs cells slots → mx_Inv p l e R s m args below meth c T locs cells slots (F0 m 22 ls (as.reverse ++ .ref b :: rest)) (F0 m 22 ls rest) y_P_lowestBits (.ref b :: as) := fun T hT X => mx_invU X hT hx (owner := "FewBits$Filter") (x := ⟨"FewBits$Counters", "lowestBits", "(J)I"⟩) hown (G.1.at 358 rfl rfl _ hW) (G.1.at 359 rfl rfl _ hW) (va_Decl.abs (va_Nw.warmD hW (G.1.nw 315 rfl rfl))) ⟨by decide, by decide⟩ (G.1.at 360 rfl rfl _ hW) (G.1.at 317 rfl rfl _ hW) ⟨⟨by decide, by decide⟩, by decide +kernel⟩ hob rfl hn rfl (by rw [hb]; exact d_C_findPlaces_22)
set_option maxRecDepth 20000 in
theorem iv_P_begin_16_C {l : Launch} {s0 : State} {D : va_G} {cI cF cJ : ClassId} (G : Gx l s0 D cI cF cJ) {p : Program} {e : Env} {R : Room} {s : State} {m : MethodId} {args : Array Value} {below : List Frame} {meth : Method} {c : Code} {H : Heap} {locs : List Loc} {cells slots : Nat} {ls : Array Slot} (hx : p.tables.exec = Jvm.exec) (hb : c.code = b_P_begin) (hown : s.vm.findClass "FewBits$Filter" = some m.cls) (hW : s0.WarmedH s.vm) {b : Nat} (hob : mx_Ob s H "FewBits$Counters" b) (as rest : List Value) (hn : as.length = 0) : ∀ T, T.heap = H → Stand p l e R s m args below meth c T locs cells slots → mx_Inv p l e R s m args below meth c T locs cells slots (F0 m 16 ls (as.reverse ++ .ref b :: rest)) (F0 m 16 ls rest) y_C_wipe (.ref b :: as) := fun T hT X => mx_invU X hT hx (owner := "FewBits$Filter") (x := ⟨"FewBits$Filter", "wipe", "()V"⟩) hown (G.1.at 246 rfl rfl _ hW) (G.1.at 248 rfl rfl _ hW) (va_Decl.abs (va_Nw.warmD hW (G.1.nw 247 rfl rfl))) ⟨by decide, by decide⟩ (G.1.at 255 rfl rfl _ hW) (G.1.at 256 rfl rfl _ hW) ⟨⟨by decide, by decide⟩, by decide +kernel⟩ hob rfl hn rfl (by rw [hb]; exact d_P_begin_16)
set_option maxRecDepth 20000 in
theorem iv_P_begin_16_B {l : Launch} {s0 : State} {D : va_G} {cI cF cJ : ClassId} (G : Gx l s0 D cI cF cJ) {p : Program} {e : Env} {R : Room} {s : State} {m : MethodId} {args : Array Value} {below : List Frame} {meth : Method} {c : Code} {H : Heap} {locs : List Loc} {cells slots : Nat} {ls : Array Slot} (hx : p.tables.exec = Jvm.exec) (hb : c.code = b_P_begin) (hown : s.vm.findClass "FewBits$Filter" = some m.cls) (hW : s0.WarmedH s.vm) {b : Nat} (hob : mx_Ob s H "FewBits$Buckets" b) (as rest : List Value) (hn : as.length = 0) : ∀ T, T.heap = H → Stand p l e R s m args below meth c T locs cells slots → mx_Inv p l e R s m args below meth c T locs cells slots (F0 m 16 ls (as.reverse ++ .ref b :: rest)) (F0 m 16 ls rest) y_B_wipe (.ref b :: as) := fun T hT X => mx_invU X hT hx (owner := "FewBits$Filter") (x := ⟨"FewBits$Filter", "wipe", "()V"⟩) hown (G.1.at 246 rfl rfl _ hW) (G.1.at 248 rfl rfl _ hW) (va_Decl.abs (va_Nw.warmD hW (G.1.nw 247 rfl rfl))) ⟨by decide, by decide⟩ (G.1.at 249 rfl rfl _ hW) (G.1.at 250 rfl rfl _ hW) ⟨⟨by decide, by decide⟩, by decide +kernel⟩ hob rfl hn rfl (by rw [hb]; exact d_P_begin_16)
set_option maxRecDepth 20000 in
theorem iv_P_begin_16_R {l : Launch} {s0 : State} {D : va_G} {cI cF cJ : ClassId} (G : Gx l s0 D cI cF cJ) {p : Program} {e : Env} {R : Room} {s : State} {m : MethodId} {args : Array Value} {below : List Frame} {meth : Method} {c : Code} {H : Heap} {locs : List Loc} {cells slots : Nat} {ls : Array Slot} (hx : p.tables.exec = Jvm.exec) (hb : c.code = b_P_begin) (hown : s.vm.findClass "FewBits$Filter" = some m.cls) (hW : s0.WarmedH s.vm) {b : Nat} (hob : mx_Ob s H "FewBits$Runs" b) (as rest : List Value) (hn : as.length = 0) : ∀ T, T.heap = H → Stand p l e R s m args below meth c T locs cells slots → mx_Inv p l e R s m args below meth c T locs cells slots (F0 m 16 ls (as.reverse ++ .ref b :: rest)) (F0 m 16 ls rest) y_R_wipe (.ref b :: as) := fun T hT X => mx_invU X hT hx (owner := "FewBits$Filter") (x := ⟨"FewBits$Filter", "wipe", "()V"⟩) hown (G.1.at 246 rfl rfl _ hW) (G.1.at 248 rfl rfl _ hW) (va_Decl.abs (va_Nw.warmD hW (G.1.nw 247 rfl rfl))) ⟨by decide, by decide⟩ (G.1.at 259 rfl rfl _ hW) (G.1.at 260 rfl rfl _ hW) ⟨⟨by decide, by decide⟩, by decide +kernel⟩ hob rfl hn rfl (by rw [hb]; exact d_P_begin_16)
set_option maxRecDepth 20000 in
theorem iv_P_accept_2_C {l : Launch} {s0 : State} {D : va_G} {cI cF cJ : ClassId} (G : Gx l s0 D cI cF cJ) {p : Program} {e : Env} {R : Room} {s : State} {m : MethodId} {args : Array Value} {below : List Frame} {meth : Method} {c : Code} {H : Heap} {locs : List Loc} {cells slots : Nat} {ls : Array Slot} (hx : p.tables.exec = Jvm.exec) (hb : c.code = b_P_accept) (hown : s.vm.findClass "FewBits$Filter" = some m.cls) (hW : s0.WarmedH s.vm) {b : Nat} (hob : mx_Ob s H "FewBits$Counters" b) (as rest : List Value) (hn : as.length = 1) : ∀ T, T.heap = H → Stand p l e R s m args below meth c T locs cells slots → mx_Inv p l e R s m args below meth c T locs cells slots (F0 m 2 ls (as.reverse ++ .ref b :: rest)) (F0 m 2 ls rest) y_C_put (.ref b :: as) := fun T hT X => mx_invU X hT hx (owner := "FewBits$Filter") (x := ⟨"FewBits$Filter", "put", "(J)Z"⟩) hown (G.1.at 298 rfl rfl _ hW) (G.1.at 300 rfl rfl _ hW) (va_Decl.abs (va_Nw.warmD hW (G.1.nw 299 rfl rfl))) ⟨by decide, by decide⟩ (G.1.at 350 rfl rfl _ hW) (G.1.at 351 rfl rfl _ hW) ⟨⟨by decide, by decide⟩, by decide +kernel⟩ hob rfl hn rfl (by rw [hb]; exact d_P_accept_2)
set_option maxRecDepth 20000 in
theorem iv_P_accept_2_B {l : Launch} {s0 : State} {D : va_G} {cI cF cJ : ClassId} (G : Gx l s0 D cI cF cJ) {p : Program} {e : Env} {R : Room} {s : State} {m : MethodId} {args : Array Value} {below : List Frame} {meth : Method} {c : Code} {H : Heap} {locs : List Loc} {cells slots : Nat} {ls : Array Slot} (hx : p.tables.exec = Jvm.exec) (hb : c.code = b_P_accept) (hown : s.vm.findClass "FewBits$Filter" = some m.cls) (hW : s0.WarmedH s.vm) {b : Nat} (hob : mx_Ob s H "FewBits$Buckets" b) (as rest : List Value) (hn : as.length = 1) : ∀ T, T.heap = H → Stand p l e R s m args below meth c T locs cells slots → mx_Inv p l e R s m args below meth c T locs cells slots (F0 m 2 ls (as.reverse ++ .ref b :: rest)) (F0 m 2 ls rest) y_B_put (.ref b :: as) := fun T hT X => mx_invU X hT hx (owner := "FewBits$Filter") (x := ⟨"FewBits$Filter", "put", "(J)Z"⟩) hown (G.1.at 298 rfl rfl _ hW) (G.1.at 300 rfl rfl _ hW) (va_Decl.abs (va_Nw.warmD hW (G.1.nw 299 rfl rfl))) ⟨by decide, by decide⟩ (G.1.at 301 rfl rfl _ hW) (G.1.at 302 rfl rfl _ hW) ⟨⟨by decide, by decide⟩, by decide +kernel⟩ hob rfl hn rfl (by rw [hb]; exact d_P_accept_2)
set_option maxRecDepth 20000 in
theorem iv_P_accept_2_R {l : Launch} {s0 : State} {D : va_G} {cI cF cJ : ClassId} (G : Gx l s0 D cI cF cJ) {p : Program} {e : Env} {R : Room} {s : State} {m : MethodId} {args : Array Value} {below : List Frame} {meth : Method} {c : Code} {H : Heap} {locs : List Loc} {cells slots : Nat} {ls : Array Slot} (hx : p.tables.exec = Jvm.exec) (hb : c.code = b_P_accept) (hown : s.vm.findClass "FewBits$Filter" = some m.cls) (hW : s0.WarmedH s.vm) {b : Nat} (hob : mx_Ob s H "FewBits$Runs" b) (as rest : List Value) (hn : as.length = 1) : ∀ T, T.heap = H → Stand p l e R s m args below meth c T locs cells slots → mx_Inv p l e R s m args below meth c T locs cells slots (F0 m 2 ls (as.reverse ++ .ref b :: rest)) (F0 m 2 ls rest) y_R_put (.ref b :: as) := fun T hT X => mx_invU X hT hx (owner := "FewBits$Filter") (x := ⟨"FewBits$Filter", "put", "(J)Z"⟩) hown (G.1.at 298 rfl rfl _ hW) (G.1.at 300 rfl rfl _ hW) (va_Decl.abs (va_Nw.warmD hW (G.1.nw 299 rfl rfl))) ⟨by decide, by decide⟩ (G.1.at 369 rfl rfl _ hW) (G.1.at 370 rfl rfl _ hW) ⟨⟨by decide, by decide⟩, by decide +kernel⟩ hob rfl hn rfl (by rw [hb]; exact d_P_accept_2)
set_option maxRecDepth 20000 in
theorem iv_P_release_2_C {l : Launch} {s0 : State} {D : va_G} {cI cF cJ : ClassId} (G : Gx l s0 D cI cF cJ) {p : Program} {e : Env} {R : Room} {s : State} {m : MethodId} {args : Array Value} {below : List Frame} {meth : Method} {c : Code} {H : Heap} {locs : List Loc} {cells slots : Nat} {ls : Array Slot} (hx : p.tables.exec = Jvm.exec) (hb : c.code = b_P_release) (hown : s.vm.findClass "FewBits$Filter" = some m.cls) (hW : s0.WarmedH s.vm) {b : Nat} (hob : mx_Ob s H "FewBits$Counters" b) (as rest : List Value) (hn : as.length = 1) : ∀ T, T.heap = H → Stand p l e R s m args below meth c T locs cells slots → mx_Inv p l e R s m args below meth c T locs cells slots (F0 m 2 ls (as.reverse ++ .ref b :: rest)) (F0 m 2 ls rest) y_C_take (.ref b :: as) := fun T hT X => mx_invU X hT hx (owner := "FewBits$Filter") (x := ⟨"FewBits$Filter", "take", "(J)Z"⟩) hown (G.1.at 430 rfl rfl _ hW) (G.1.at 432 rfl rfl _ hW) (va_Decl.abs (va_Nw.warmD hW (G.1.nw 431 rfl rfl))) ⟨by decide, by decide⟩ (G.1.at 440 rfl rfl _ hW) (G.1.at 441 rfl rfl _ hW) ⟨⟨by decide, by decide⟩, by decide +kernel⟩ hob rfl hn rfl (by rw [hb]; exact d_P_release_2)
set_option maxRecDepth 20000 in
theorem iv_P_release_2_B {l : Launch} {s0 : State} {D : va_G} {cI cF cJ : ClassId} (G : Gx l s0 D cI cF cJ) {p : Program} {e : Env} {R : Room} {s : State} {m : MethodId} {args : Array Value} {below : List Frame} {meth : Method} {c : Code} {H : Heap} {locs : List Loc} {cells slots : Nat} {ls : Array Slot} (hx : p.tables.exec = Jvm.exec) (hb : c.code = b_P_release) (hown : s.vm.findClass "FewBits$Filter" = some m.cls) (hW : s0.WarmedH s.vm) {b : Nat} (hob : mx_Ob s H "FewBits$Buckets" b) (as rest : List Value) (hn : as.length = 1) : ∀ T, T.heap = H → Stand p l e R s m args below meth c T locs cells slots → mx_Inv p l e R s m args below meth c T locs cells slots (F0 m 2 ls (as.reverse ++ .ref b :: rest)) (F0 m 2 ls rest) y_B_take (.ref b :: as) := fun T hT X => mx_invU X hT hx (owner := "FewBits$Filter") (x := ⟨"FewBits$Filter", "take", "(J)Z"⟩) hown (G.1.at 430 rfl rfl _ hW) (G.1.at 432 rfl rfl _ hW) (va_Decl.abs (va_Nw.warmD hW (G.1.nw 431 rfl rfl))) ⟨by decide, by decide⟩ (G.1.at 433 rfl rfl _ hW) (G.1.at 434 rfl rfl _ hW) ⟨⟨by decide, by decide⟩, by decide +kernel⟩ hob rfl hn rfl (by rw [hb]; exact d_P_release_2)
set_option maxRecDepth 20000 in
theorem iv_P_release_2_R {l : Launch} {s0 : State} {D : va_G} {cI cF cJ : ClassId} (G : Gx l s0 D cI cF cJ) {p : Program} {e : Env} {R : Room} {s : State} {m : MethodId} {args : Array Value} {below : List Frame} {meth : Method} {c : Code} {H : Heap} {locs : List Loc} {cells slots : Nat} {ls : Array Slot} (hx : p.tables.exec = Jvm.exec) (hb : c.code = b_P_release) (hown : s.vm.findClass "FewBits$Filter" = some m.cls) (hW : s0.WarmedH s.vm) {b : Nat} (hob : mx_Ob s H "FewBits$Runs" b) (as rest : List Value) (hn : as.length = 1) : ∀ T, T.heap = H → Stand p l e R s m args below meth c T locs cells slots → mx_Inv p l e R s m args below meth c T locs cells slots (F0 m 2 ls (as.reverse ++ .ref b :: rest)) (F0 m 2 ls rest) y_R_take (.ref b :: as) := fun T hT X => mx_invU X hT hx (owner := "FewBits$Filter") (x := ⟨"FewBits$Filter", "take", "(J)Z"⟩) hown (G.1.at 430 rfl rfl _ hW) (G.1.at 432 rfl rfl _ hW) (va_Decl.abs (va_Nw.warmD hW (G.1.nw 431 rfl rfl))) ⟨by decide, by decide⟩ (G.1.at 443 rfl rfl _ hW) (G.1.at 444 rfl rfl _ hW) ⟨⟨by decide, by decide⟩, by decide +kernel⟩ hob rfl hn rfl (by rw [hb]; exact d_P_release_2)
set_option maxRecDepth 20000 in
theorem iv_P_lowestBits_3_C {l : Launch} {s0 : State} {D : va_G} {cI cF cJ : ClassId} (G : Gx l s0 D cI cF cJ) {p : Program} {e : Env} {R : Room} {s : State} {m : MethodId} {args : Array Value} {below : List Frame} {meth : Method} {c : Code} {H : Heap} {locs : List Loc} {cells slots : Nat} {ls : Array Slot} (hx : p.tables.exec = Jvm.exec) (hb : c.code = b_P_lowestBits) (hown : s.vm.findClass "FewBits$Filter" = some m.cls) (hW : s0.WarmedH s.vm) {b : Nat} (hob : mx_Ob s H "FewBits$Counters" b) (as rest : List Value) (hn : as.length = 0) : ∀ T, T.heap = H → Stand p l e R s m args below meth c T locs cells slots → mx_Inv p l e R s m args below meth c T locs cells slots (F0 m 3 ls (as.reverse ++ .ref b :: rest)) (F0 m 3 ls rest) y_P_power (.ref b :: as) := fun T hT X => mx_invU X hT hx (owner := "FewBits$Filter") (x := y_P_power) hown (G.1.at 319 rfl rfl _ hW) (G.1.at 321 rfl rfl _ hW) (va_Decl.abs (va_Nw.warmD hW (G.1.nw 374 rfl rfl))) ⟨by decide, by decide⟩ (G.1.at 323 rfl rfl _ hW) (G.1.at 320 rfl rfl _ hW) ⟨⟨by decide, by decide⟩, by decide +kernel⟩ hob rfl hn rfl (by rw [hb]; exact d_P_lowestBits_3)
set_option maxRecDepth 20000 in
theorem iv_P_lowestBits_3_B {l : Launch} {s0 : State} {D : va_G} {cI cF cJ : ClassId} (G : Gx l s0 D cI cF cJ) {p : Program} {e : Env} {R : Room} {s : State} {m : MethodId} {args : Array Value} {below : List Frame} {meth : Method} {c : Code} {H : Heap} {locs : List Loc} {cells slots : Nat} {ls : Array Slot} (hx : p.tables.exec = Jvm.exec) (hb : c.code = b_P_lowestBits) (hown : s.vm.findClass "FewBits$Filter" = some m.cls) (hW : s0.WarmedH s.vm) {b : Nat} (hob : mx_Ob s H "FewBits$Buckets" b) (as rest : List Value) (hn : as.length = 0) : ∀ T, T.heap = H → Stand p l e R s m args below meth c T locs cells slots → mx_Inv p l e R s m args below meth c T locs cells slots (F0 m 3 ls (as.reverse ++ .ref b :: rest)) (F0 m 3 ls rest) y_P_power (.ref b :: as) := fun T hT X => mx_invU X hT hx (owner := "FewBits$Filter") (x := y_P_power) hown (G.1.at 319 rfl rfl _ hW) (G.1.at 321 rfl rfl _ hW) (va_Decl.abs (va_Nw.warmD hW (G.1.nw 374 rfl rfl))) ⟨by decide, by decide⟩ (G.1.at 322 rfl rfl _ hW) (G.1.at 320 rfl rfl _ hW) ⟨⟨by decide, by decide⟩, by decide +kernel⟩ hob rfl hn rfl (by rw [hb]; exact d_P_lowestBits_3)
set_option maxRecDepth 20000 in
theorem iv_P_lowestBits_3_R {l : Launch} {s0 : State} {D : va_G} {cI cF cJ : ClassId} (G : Gx l s0 D cI cF cJ) {p : Program} {e : Env} {R : Room} {s : State} {m : MethodId} {args : Array Value} {below : List Frame} {meth : Method} {c : Code} {H : Heap} {locs : List Loc} {cells slots : Nat} {ls : Array Slot} (hx : p.tables.exec = Jvm.exec) (hb : c.code = b_P_lowestBits) (hown : s.vm.findClass "FewBits$Filter" = some m.cls) (hW : s0.WarmedH s.vm) {b : Nat} (hob : mx_Ob s H "FewBits$Runs" b) (as rest : List Value) (hn : as.length = 0) : ∀ T, T.heap = H → Stand p l e R s m args below meth c T locs cells slots → mx_Inv p l e R s m args below meth c T locs cells slots (F0 m 3 ls (as.reverse ++ .ref b :: rest)) (F0 m 3 ls rest) y_P_power (.ref b :: as) := fun T hT X => mx_invU X hT hx (owner := "FewBits$Filter") (x := y_P_power) hown (G.1.at 319 rfl rfl _ hW) (G.1.at 321 rfl rfl _ hW) (va_Decl.abs (va_Nw.warmD hW (G.1.nw 374 rfl rfl))) ⟨by decide, by decide⟩ (G.1.at 324 rfl rfl _ hW) (G.1.at 320 rfl rfl _ hW) ⟨⟨by decide, by decide⟩, by decide +kernel⟩ hob rfl hn rfl (by rw [hb]; exact d_P_lowestBits_3)
set_option maxRecDepth 20000 in
theorem iv_P_cells_1_C {l : Launch} {s0 : State} {D : va_G} {cI cF cJ : ClassId} (G : Gx l s0 D cI cF cJ) {p : Program} {e : Env} {R : Room} {s : State} {m : MethodId} {args : Array Value} {below : List Frame} {meth : Method} {c : Code} {H : Heap} {locs : List Loc} {cells slots : Nat} {ls : Array Slot} (hx : p.tables.exec = Jvm.exec) (hb : c.code = b_P_cells) (hown : s.vm.findClass "FewBits$Filter" = some m.cls) (hW : s0.WarmedH s.vm) {b : Nat} (hob : mx_Ob s H "FewBits$Counters" b) (as rest : List Value) (hn : as.length = 0) : ∀ T, T.heap = H → Stand p l e R s m args below meth c T locs cells slots → mx_Inv p l e R s m args below meth c T locs cells slots (F0 m 1 ls (as.reverse ++ .ref b :: rest)) (F0 m 1 ls rest) y_P_power (.ref b :: as) := fun T hT X => mx_invU X hT hx (owner := "FewBits$Filter") (x := y_P_power) hown (G.1.at 319 rfl rfl _ hW) (G.1.at 321 rfl rfl _ hW) (va_Decl.abs (va_Nw.warmD hW (G.1.nw 374 rfl rfl))) ⟨by decide, by decide⟩ (G.1.at 323 rfl rfl _ hW) (G.1.at 320 rfl rfl _ hW) ⟨⟨by decide, by decide⟩, by decide +kernel⟩ hob rfl hn rfl (by rw [hb]; exact d_P_cells_1)
set_option maxRecDepth 20000 in
theorem iv_P_cells_1_B {l : Launch} {s0 : State} {D : va_G} {cI cF cJ : ClassId} (G : Gx l s0 D cI cF cJ) {p : Program} {e : Env} {R : Room} {s : State} {m : MethodId} {args : Array Value} {below : List Frame} {meth : Method} {c : Code} {H : Heap} {locs : List Loc} {cells slots : Nat} {ls : Array Slot} (hx : p.tables.exec = Jvm.exec) (hb : c.code = b_P_cells) (hown : s.vm.findClass "FewBits$Filter" = some m.cls) (hW : s0.WarmedH s.vm) {b : Nat} (hob : mx_Ob s H "FewBits$Buckets" b) (as rest : List Value) (hn : as.length = 0) : ∀ T, T.heap = H → Stand p l e R s m args below meth c T locs cells slots → mx_Inv p l e R s m args below meth c T locs cells slots (F0 m 1 ls (as.reverse ++ .ref b :: rest)) (F0 m 1 ls rest) y_P_power (.ref b :: as) := fun T hT X => mx_invU X hT hx (owner := "FewBits$Filter") (x := y_P_power) hown (G.1.at 319 rfl rfl _ hW) (G.1.at 321 rfl rfl _ hW) (va_Decl.abs (va_Nw.warmD hW (G.1.nw 374 rfl rfl))) ⟨by decide, by decide⟩ (G.1.at 322 rfl rfl _ hW) (G.1.at 320 rfl rfl _ hW) ⟨⟨by decide, by decide⟩, by decide +kernel⟩ hob rfl hn rfl (by rw [hb]; exact d_P_cells_1)
set_option maxRecDepth 20000 in
theorem iv_P_cells_1_R {l : Launch} {s0 : State} {D : va_G} {cI cF cJ : ClassId} (G : Gx l s0 D cI cF cJ) {p : Program} {e : Env} {R : Room} {s : State} {m : MethodId} {args : Array Value} {below : List Frame} {meth : Method} {c : Code} {H : Heap} {locs : List Loc} {cells slots : Nat} {ls : Array Slot} (hx : p.tables.exec = Jvm.exec) (hb : c.code = b_P_cells) (hown : s.vm.findClass "FewBits$Filter" = some m.cls) (hW : s0.WarmedH s.vm) {b : Nat} (hob : mx_Ob s H "FewBits$Runs" b) (as rest : List Value) (hn : as.length = 0) : ∀ T, T.heap = H → Stand p l e R s m args below meth c T locs cells slots → mx_Inv p l e R s m args below meth c T locs cells slots (F0 m 1 ls (as.reverse ++ .ref b :: rest)) (F0 m 1 ls rest) y_P_power (.ref b :: as) := fun T hT X => mx_invU X hT hx (owner := "FewBits$Filter") (x := y_P_power) hown (G.1.at 319 rfl rfl _ hW) (G.1.at 321 rfl rfl _ hW) (va_Decl.abs (va_Nw.warmD hW (G.1.nw 374 rfl rfl))) ⟨by decide, by decide⟩ (G.1.at 324 rfl rfl _ hW) (G.1.at 320 rfl rfl _ hW) ⟨⟨by decide, by decide⟩, by decide +kernel⟩ hob rfl hn rfl (by rw [hb]; exact d_P_cells_1)
set_option maxRecDepth 20000 in
theorem iv_R_init_1 {l : Launch} {s0 : State} {D : va_G} {cI cF cJ : ClassId} (G : Gx l s0 D cI cF cJ) {p : Program} {e : Env} {R : Room} {s : State} {m : MethodId} {args : Array Value} {below : List Frame} {meth : Method} {c : Code} {H : Heap} {locs : List Loc} {cells slots : Nat} {ls : Array Slot} (hx : p.tables.exec = Jvm.exec) (hb : c.code = b_R_init) (hown : s.vm.findClass "FewBits$Runs" = some m.cls) (hW : s0.WarmedH s.vm) (b : Nat) (as rest : List Value) (hn : as.length = 0) : ∀ T, T.heap = H → Stand p l e R s m args below meth c T locs cells slots → mx_Inv p l e R s m args below meth c T locs cells slots (F0 m 1 ls (as.reverse ++ .ref b :: rest)) (F0 m 1 ls rest) y_P_init (.ref b :: as) := fun T hT X => mx_invIN X hx hown rfl (va_Nw.use rfl (va_Nw.warmM hW (G.1.nw 228 rfl rfl))) (G.1.at 165 rfl rfl _ hW) (G.1.at 166 rfl rfl _ hW) ⟨⟨by decide, by decide⟩, by decide +kernel⟩ rfl hn rfl (by rw [hb]; exact d_R_init_1)
set_option maxRecDepth 20000 in
theorem iv_R_put_5 {l : Launch} {s0 : State} {D : va_G} {cI cF cJ : ClassId} (G : Gx l s0 D cI cF cJ) {p : Program} {e : Env} {R : Room} {s : State} {m : MethodId} {args : Array Value} {below : List Frame} {meth : Method} {c : Code} {H : Heap} {locs : List Loc} {cells slots : Nat} {ls : Array Slot} (hx : p.tables.exec = Jvm.exec) (hb : c.code = b_R_put) (hown : s.vm.findClass "FewBits$Runs" = some m.cls) (hW : s0.WarmedH s.vm) {b : Nat} (hob : mx_Ob s H "FewBits$Runs" b) (as rest : List Value) (hn : as.length = 0) : ∀ T, T.heap = H → Stand p l e R s m args below meth c T locs cells slots → mx_Inv p l e R s m args below meth c T locs cells slots (F0 m 5 ls (as.reverse ++ .ref b :: rest)) (F0 m 5 ls rest) y_P_power (.ref b :: as) := fun T hT X => mx_invU X hT hx (owner := "FewBits$Filter") (x := ⟨"FewBits$Runs", "power", "()I"⟩) hown (G.1.at 372 rfl rfl _ hW) (G.1.at 373 rfl rfl _ hW) (va_Decl.abs (va_Nw.warmD hW (G.1.nw 374 rfl rfl))) ⟨by decide, by decide⟩ (G.1.at 375 rfl rfl _ hW) (G.1.at 320 rfl rfl _ hW) ⟨⟨by decide, by decide⟩, by decide +kernel⟩ hob rfl hn rfl (by rw [hb]; exact d_R_put_5)
set_option maxRecDepth 20000 in
theorem iv_R_put_15 {l : Launch} {s0 : State} {D : va_G} {cI cF cJ : ClassId} (G : Gx l s0 D cI cF cJ) {p : Program} {e : Env} {R : Room} {s : State} {m : MethodId} {args : Array Value} {below : List Frame} {meth : Method} {c : Code} {H : Heap} {locs : List Loc} {cells slots : Nat} {ls : Array Slot} (hx : p.tables.exec = Jvm.exec) (hb : c.code = b_R_put) (hown : s.vm.findClass "FewBits$Runs" = some m.cls) (hW : s0.WarmedH s.vm) {b : Nat} (hob : mx_Ob s H "FewBits$Runs" b) (as rest : List Value) (hn : as.length = 1) : ∀ T, T.heap = H → Stand p l e R s m args below meth c T locs cells slots → mx_Inv p l e R s m args below meth c T locs cells slots (F0 m 15 ls (as.reverse ++ .ref b :: rest)) (F0 m 15 ls rest) y_R_pairOf (.ref b :: as) := fun T hT X => mx_invV X hT hx hown (G.1.at 376 rfl rfl _ hW) (G.1.at 377 rfl rfl _ hW) (G.1.at 378 rfl rfl _ hW) (G.1.at 379 rfl rfl _ hW) ⟨⟨by decide, by decide⟩, by decide +kernel⟩ hob rfl hn rfl (by rw [hb]; exact d_R_put_15)
set_option maxRecDepth 20000 in
theorem iv_R_put_21 {l : Launch} {s0 : State} {D : va_G} {cI cF cJ : ClassId} (G : Gx l s0 D cI cF cJ) {p : Program} {e : Env} {R : Room} {s : State} {m : MethodId} {args : Array Value} {below : List Frame} {meth : Method} {c : Code} {H : Heap} {locs : List Loc} {cells slots : Nat} {ls : Array Slot} (hx : p.tables.exec = Jvm.exec) (hb : c.code = b_R_put) (hown : s.vm.findClass "FewBits$Runs" = some m.cls) (hW : s0.WarmedH s.vm) {b : Nat} (hob : mx_Ob s H "FewBits$Runs" b) (as rest : List Value) (hn : as.length = 1) : ∀ T, T.heap = H → Stand p l e R s m args below meth c T locs cells slots → mx_Inv p l e R s m args below meth c T locs cells slots (F0 m 21 ls (as.reverse ++ .ref b :: rest)) (F0 m 21 ls rest) y_R_firstNotBelow (.ref b :: as) := fun T hT X => mx_invV X hT hx hown (G.1.at 381 rfl rfl _ hW) (G.1.at 382 rfl rfl _ hW) (G.1.at 383 rfl rfl _ hW) (G.1.at 384 rfl rfl _ hW) ⟨⟨by decide, by decide⟩, by decide +kernel⟩ hob rfl hn rfl (by rw [hb]; exact d_R_put_21)
set_option maxRecDepth 20000 in
theorem iv_R_take_2 {l : Launch} {s0 : State} {D : va_G} {cI cF cJ : ClassId} (G : Gx l s0 D cI cF cJ) {p : Program} {e : Env} {R : Room} {s : State} {m : MethodId} {args : Array Value} {below : List Frame} {meth : Method} {c : Code} {H : Heap} {locs : List Loc} {cells slots : Nat} {ls : Array Slot} (hx : p.tables.exec = Jvm.exec) (hb : c.code = b_R_take) (hown : s.vm.findClass "FewBits$Runs" = some m.cls) (hW : s0.WarmedH s.vm) {b : Nat} (hob : mx_Ob s H "FewBits$Runs" b) (as rest : List Value) (hn : as.length = 1) : ∀ T, T.heap = H → Stand p l e R s m args below meth c T locs cells slots → mx_Inv p l e R s m args below meth c T locs cells slots (F0 m 2 ls (as.reverse ++ .ref b :: rest)) (F0 m 2 ls rest) y_R_pairOf (.ref b :: as) := fun T hT X => mx_invV X hT hx hown (G.1.at 376 rfl rfl _ hW) (G.1.at 377 rfl rfl _ hW) (G.1.at 378 rfl rfl _ hW) (G.1.at 379 rfl rfl _ hW) ⟨⟨by decide, by decide⟩, by decide +kernel⟩ hob rfl hn rfl (by rw [hb]; exact d_R_take_2)
set_option maxRecDepth 20000 in
theorem iv_R_take_8 {l : Launch} {s0 : State} {D : va_G} {cI cF cJ : ClassId} (G : Gx l s0 D cI cF cJ) {p : Program} {e : Env} {R : Room} {s : State} {m : MethodId} {args : Array Value} {below : List Frame} {meth : Method} {c : Code} {H : Heap} {locs : List Loc} {cells slots : Nat} {ls : Array Slot} (hx : p.tables.exec = Jvm.exec) (hb : c.code = b_R_take) (hown : s.vm.findClass "FewBits$Runs" = some m.cls) (hW : s0.WarmedH s.vm) {b : Nat} (hob : mx_Ob s H "FewBits$Runs" b) (as rest : List Value) (hn : as.length = 1) : ∀ T, T.heap = H → Stand p l e R s m args below meth c T locs cells slots → mx_Inv p l e R s m args below meth c T locs cells slots (F0 m 8 ls (as.reverse ++ .ref b :: rest)) (F0 m 8 ls rest) y_R_firstNotBelow (.ref b :: as) := fun T hT X => mx_invV X hT hx hown (G.1.at 381 rfl rfl _ hW) (G.1.at 382 rfl rfl _ hW) (G.1.at 383 rfl rfl _ hW) (G.1.at 384 rfl rfl _ hW) ⟨⟨by decide, by decide⟩, by decide +kernel⟩ hob rfl hn rfl (by rw [hb]; exact d_R_take_8)
set_option maxRecDepth 20000 in
theorem iv_R_holds_2 {l : Launch} {s0 : State} {D : va_G} {cI cF cJ : ClassId} (G : Gx l s0 D cI cF cJ) {p : Program} {e : Env} {R : Room} {s : State} {m : MethodId} {args : Array Value} {below : List Frame} {meth : Method} {c : Code} {H : Heap} {locs : List Loc} {cells slots : Nat} {ls : Array Slot} (hx : p.tables.exec = Jvm.exec) (hb : c.code = b_R_holds) (hown : s.vm.findClass "FewBits$Runs" = some m.cls) (hW : s0.WarmedH s.vm) {b : Nat} (hob : mx_Ob s H "FewBits$Runs" b) (as rest : List Value) (hn : as.length = 1) : ∀ T, T.heap = H → Stand p l e R s m args below meth c T locs cells slots → mx_Inv p l e R s m args below meth c T locs cells slots (F0 m 2 ls (as.reverse ++ .ref b :: rest)) (F0 m 2 ls rest) y_R_pairOf (.ref b :: as) := fun T hT X => mx_invV X hT hx hown (G.1.at 376 rfl rfl _ hW) (G.1.at 377 rfl rfl _ hW) (G.1.at 378 rfl rfl _ hW) (G.1.at 379 rfl rfl _ hW) ⟨⟨by decide, by decide⟩, by decide +kernel⟩ hob rfl hn rfl (by rw [hb]; exact d_R_holds_2)
set_option maxRecDepth 20000 in
theorem iv_R_holds_8 {l : Launch} {s0 : State} {D : va_G} {cI cF cJ : ClassId} (G : Gx l s0 D cI cF cJ) {p : Program} {e : Env} {R : Room} {s : State} {m : MethodId} {args : Array Value} {below : List Frame} {meth : Method} {c : Code} {H : Heap} {locs : List Loc} {cells slots : Nat} {ls : Array Slot} (hx : p.tables.exec = Jvm.exec) (hb : c.code = b_R_holds) (hown : s.vm.findClass "FewBits$Runs" = some m.cls) (hW : s0.WarmedH s.vm) {b : Nat} (hob : mx_Ob s H "FewBits$Runs" b) (as rest : List Value) (hn : as.length = 1) : ∀ T, T.heap = H → Stand p l e R s m args below meth c T locs cells slots → mx_Inv p l e R s m args below meth c T locs cells slots (F0 m 8 ls (as.reverse ++ .ref b :: rest)) (F0 m 8 ls rest) y_R_firstNotBelow (.ref b :: as) := fun T hT X => mx_invV X hT hx hown (G.1.at 381 rfl rfl _ hW) (G.1.at 382 rfl rfl _ hW) (G.1.at 383 rfl rfl _ hW) (G.1.at 384 rfl rfl _ hW) ⟨⟨by decide, by decide⟩, by decide +kernel⟩ hob rfl hn rfl (by rw [hb]; exact d_R_holds_8)
set_option maxRecDepth 20000 in
theorem iv_R_looksAlike_2 {l : Launch} {s0 : State} {D : va_G} {cI cF cJ : ClassId} (G : Gx l s0 D cI cF cJ) {p : Program} {e : Env} {R : Room} {s : State} {m : MethodId} {args : Array Value} {below : List Frame} {meth : Method} {c : Code} {H : Heap} {locs : List Loc} {cells slots : Nat} {ls : Array Slot} (hx : p.tables.exec = Jvm.exec) (hb : c.code = b_R_looksAlike) (hown : s.vm.findClass "FewBits$Runs" = some m.cls) (hW : s0.WarmedH s.vm) {b : Nat} (hob : mx_Ob s H "FewBits$Runs" b) (as rest : List Value) (hn : as.length = 1) : ∀ T, T.heap = H → Stand p l e R s m args below meth c T locs cells slots → mx_Inv p l e R s m args below meth c T locs cells slots (F0 m 2 ls (as.reverse ++ .ref b :: rest)) (F0 m 2 ls rest) y_R_pairOf (.ref b :: as) := fun T hT X => mx_invV X hT hx hown (G.1.at 376 rfl rfl _ hW) (G.1.at 377 rfl rfl _ hW) (G.1.at 378 rfl rfl _ hW) (G.1.at 379 rfl rfl _ hW) ⟨⟨by decide, by decide⟩, by decide +kernel⟩ hob rfl hn rfl (by rw [hb]; exact d_R_looksAlike_2)
set_option maxRecDepth 20000 in
theorem iv_R_looksAlike_7 {l : Launch} {s0 : State} {D : va_G} {cI cF cJ : ClassId} (G : Gx l s0 D cI cF cJ) {p : Program} {e : Env} {R : Room} {s : State} {m : MethodId} {args : Array Value} {below : List Frame} {meth : Method} {c : Code} {H : Heap} {locs : List Loc} {cells slots : Nat} {ls : Array Slot} (hx : p.tables.exec = Jvm.exec) (hb : c.code = b_R_looksAlike) (hown : s.vm.findClass "FewBits$Runs" = some m.cls) (hW : s0.WarmedH s.vm) {b : Nat} (hob : mx_Ob s H "FewBits$Runs" b) (as rest : List Value) (hn : as.length = 1) : ∀ T, T.heap = H → Stand p l e R s m args below meth c T locs cells slots → mx_Inv p l e R s m args below meth c T locs cells slots (F0 m 7 ls (as.reverse ++ .ref b :: rest)) (F0 m 7 ls rest) y_R_pairOf (.ref b :: as) := fun T hT X => mx_invV X hT hx hown (G.1.at 376 rfl rfl _ hW) (G.1.at 377 rfl rfl _ hW) (G.1.at 378 rfl rfl _ hW) (G.1.at 379 rfl rfl _ hW) ⟨⟨by decide, by decide⟩, by decide +kernel⟩ hob rfl hn rfl (by rw [hb]; exact d_R_looksAlike_7)
set_option maxRecDepth 20000 in
theorem iv_R_strain_1 {l : Launch} {s0 : State} {D : va_G} {cI cF cJ : ClassId} (G : Gx l s0 D cI cF cJ) {p : Program} {e : Env} {R : Room} {s : State} {m : MethodId} {args : Array Value} {below : List Frame} {meth : Method} {c : Code} {H : Heap} {locs : List Loc} {cells slots : Nat} {ls : Array Slot} (hx : p.tables.exec = Jvm.exec) (hb : c.code = b_R_strain) (hown : s.vm.findClass "FewBits$Runs" = some m.cls) (hW : s0.WarmedH s.vm) {b : Nat} (hob : mx_Ob s H "FewBits$Runs" b) (as rest : List Value) (hn : as.length = 0) : ∀ T, T.heap = H → Stand p l e R s m args below meth c T locs cells slots → mx_Inv p l e R s m args below meth c T locs cells slots (F0 m 1 ls (as.reverse ++ .ref b :: rest)) (F0 m 1 ls rest) y_R_layOut (.ref b :: as) := fun T hT X => mx_invV X hT hx hown (G.1.at 553 rfl rfl _ hW) (G.1.at 554 rfl rfl _ hW) (G.1.at 555 rfl rfl _ hW) (G.1.at 556 rfl rfl _ hW) ⟨⟨by decide, by decide⟩, by decide +kernel⟩ hob rfl hn rfl (by rw [hb]; exact d_R_strain_1)
set_option maxRecDepth 20000 in
theorem iv_R_strain_13 {l : Launch} {s0 : State} {D : va_G} {cI cF cJ : ClassId} (G : Gx l s0 D cI cF cJ) {p : Program} {e : Env} {R : Room} {s : State} {m : MethodId} {args : Array Value} {below : List Frame} {meth : Method} {c : Code} {H : Heap} {locs : List Loc} {cells slots : Nat} {ls : Array Slot} (hx : p.tables.exec = Jvm.exec) (hb : c.code = b_R_strain) (hown : s.vm.findClass "FewBits$Runs" = some m.cls) (hW : s0.WarmedH s.vm) {b : Nat} (hob : mx_Ob s H "FewBits$Runs" b) (as rest : List Value) (hn : as.length = 0) : ∀ T, T.heap = H → Stand p l e R s m args below meth c T locs cells slots → mx_Inv p l e R s m args below meth c T locs cells slots (F0 m 13 ls (as.reverse ++ .ref b :: rest)) (F0 m 13 ls rest) y_P_power (.ref b :: as) := fun T hT X => mx_invU X hT hx (owner := "FewBits$Filter") (x := ⟨"FewBits$Runs", "power", "()I"⟩) hown (G.1.at 372 rfl rfl _ hW) (G.1.at 373 rfl rfl _ hW) (va_Decl.abs (va_Nw.warmD hW (G.1.nw 374 rfl rfl))) ⟨by decide, by decide⟩ (G.1.at 375 rfl rfl _ hW) (G.1.at 320 rfl rfl _ hW) ⟨⟨by decide, by decide⟩, by decide +kernel⟩ hob rfl hn rfl (by rw [hb]; exact d_R_strain_13)
set_option maxRecDepth 20000 in
theorem iv_R_strain_26 {l : Launch} {s0 : State} {D : va_G} {cI cF cJ : ClassId} (G : Gx l s0 D cI cF cJ) {p : Program} {e : Env} {R : Room} {s : State} {m : MethodId} {args : Array Value} {below : List Frame} {meth : Method} {c : Code} {H : Heap} {locs : List Loc} {cells slots : Nat} {ls : Array Slot} (hx : p.tables.exec = Jvm.exec) (hb : c.code = b_R_strain) (hown : s.vm.findClass "FewBits$Runs" = some m.cls) (hW : s0.WarmedH s.vm) {b : Nat} (hob : mx_Ob s H "FewBits$Runs" b) (as rest : List Value) (hn : as.length = 0) : ∀ T, T.heap = H → Stand p l e R s m args below meth c T locs cells slots → mx_Inv p l e R s m args below meth c T locs cells slots (F0 m 26 ls (as.reverse ++ .ref b :: rest)) (F0 m 26 ls rest) y_P_power (.ref b :: as) := fun T hT X => mx_invU X hT hx (owner := "FewBits$Filter") (x := ⟨"FewBits$Runs", "power", "()I"⟩) hown (G.1.at 372 rfl rfl _ hW) (G.1.at 373 rfl rfl _ hW) (va_Decl.abs (va_Nw.warmD hW (G.1.nw 374 rfl rfl))) ⟨by decide, by decide⟩ (G.1.at 375 rfl rfl _ hW) (G.1.at 320 rfl rfl _ hW) ⟨⟨by decide, by decide⟩, by decide +kernel⟩ hob rfl hn rfl (by rw [hb]; exact d_R_strain_26)
set_option maxRecDepth 20000 in
theorem iv_R_strain_59 {l : Launch} {s0 : State} {D : va_G} {cI cF cJ : ClassId} (G : Gx l s0 D cI cF cJ) {p : Program} {e : Env} {R : Room} {s : State} {m : MethodId} {args : Array Value} {below : List Frame} {meth : Method} {c : Code} {H : Heap} {locs : List Loc} {cells slots : Nat} {ls : Array Slot} (hx : p.tables.exec = Jvm.exec) (hb : c.code = b_R_strain) (hown : s.vm.findClass "FewBits$Runs" = some m.cls) (hW : s0.WarmedH s.vm) {b : Nat} (hob : mx_Ob s H "FewBits$Runs" b) (as rest : List Value) (hn : as.length = 0) : ∀ T, T.heap = H → Stand p l e R s m args below meth c T locs cells slots → mx_Inv p l e R s m args below meth c T locs cells slots (F0 m 59 ls (as.reverse ++ .ref b :: rest)) (F0 m 59 ls rest) y_P_power (.ref b :: as) := fun T hT X => mx_invU X hT hx (owner := "FewBits$Filter") (x := ⟨"FewBits$Runs", "power", "()I"⟩) hown (G.1.at 372 rfl rfl _ hW) (G.1.at 373 rfl rfl _ hW) (va_Decl.abs (va_Nw.warmD hW (G.1.nw 374 rfl rfl))) ⟨by decide, by decide⟩ (G.1.at 375 rfl rfl _ hW) (G.1.at 320 rfl rfl _ hW) ⟨⟨by decide, by decide⟩, by decide +kernel⟩ hob rfl hn rfl (by rw [hb]; exact d_R_strain_59)
set_option maxRecDepth 20000 in
theorem iv_R_look_1 {l : Launch} {s0 : State} {D : va_G} {cI cF cJ : ClassId} (G : Gx l s0 D cI cF cJ) {p : Program} {e : Env} {R : Room} {s : State} {m : MethodId} {args : Array Value} {below : List Frame} {meth : Method} {c : Code} {H : Heap} {locs : List Loc} {cells slots : Nat} {ls : Array Slot} (hx : p.tables.exec = Jvm.exec) (hb : c.code = b_R_look) (hown : s.vm.findClass "FewBits$Runs" = some m.cls) (hW : s0.WarmedH s.vm) {b : Nat} (hob : mx_Ob s H "FewBits$Runs" b) (as rest : List Value) (hn : as.length = 0) : ∀ T, T.heap = H → Stand p l e R s m args below meth c T locs cells slots → mx_Inv p l e R s m args below meth c T locs cells slots (F0 m 1 ls (as.reverse ++ .ref b :: rest)) (F0 m 1 ls rest) y_R_layOut (.ref b :: as) := fun T hT X => mx_invV X hT hx hown (G.1.at 553 rfl rfl _ hW) (G.1.at 554 rfl rfl _ hW) (G.1.at 555 rfl rfl _ hW) (G.1.at 556 rfl rfl _ hW) ⟨⟨by decide, by decide⟩, by decide +kernel⟩ hob rfl hn rfl (by rw [hb]; exact d_R_look_1)
set_option maxRecDepth 20000 in
theorem iv_R_look_20 {l : Launch} {s0 : State} {D : va_G} {cI cF cJ : ClassId} (G : Gx l s0 D cI cF cJ) {p : Program} {e : Env} {R : Room} {s : State} {m : MethodId} {args : Array Value} {below : List Frame} {meth : Method} {c : Code} {H : Heap} {locs : List Loc} {cells slots : Nat} {ls : Array Slot} (hx : p.tables.exec = Jvm.exec) (hb : c.code = b_R_look) (hown : s.vm.findClass "FewBits$Runs" = some m.cls) (hW : s0.WarmedH s.vm) {b : Nat} (hob : mx_Ob s H "FewBits$Runs" b) (as rest : List Value) (hn : as.length = 1) : ∀ T, T.heap = H → Stand p l e R s m args below meth c T locs cells slots → mx_Inv p l e R s m args below meth c T locs cells slots (F0 m 20 ls (as.reverse ++ .ref b :: rest)) (F0 m 20 ls rest) y_R_quotient (.ref b :: as) := fun T hT X => mx_invV X hT hx hown (G.1.at 562 rfl rfl _ hW) (G.1.at 563 rfl rfl _ hW) (G.1.at 564 rfl rfl _ hW) (G.1.at 565 rfl rfl _ hW) ⟨⟨by decide, by decide⟩, by decide +kernel⟩ hob rfl hn rfl (by rw [hb]; exact d_R_look_20)
set_option maxRecDepth 20000 in
theorem iv_R_look_28 {l : Launch} {s0 : State} {D : va_G} {cI cF cJ : ClassId} (G : Gx l s0 D cI cF cJ) {p : Program} {e : Env} {R : Room} {s : State} {m : MethodId} {args : Array Value} {below : List Frame} {meth : Method} {c : Code} {H : Heap} {locs : List Loc} {cells slots : Nat} {ls : Array Slot} (hx : p.tables.exec = Jvm.exec) (hb : c.code = b_R_look) (hown : s.vm.findClass "FewBits$Runs" = some m.cls) (hW : s0.WarmedH s.vm) {b : Nat} (hob : mx_Ob s H "FewBits$Runs" b) (as rest : List Value) (hn : as.length = 1) : ∀ T, T.heap = H → Stand p l e R s m args below meth c T locs cells slots → mx_Inv p l e R s m args below meth c T locs cells slots (F0 m 28 ls (as.reverse ++ .ref b :: rest)) (F0 m 28 ls rest) y_R_remainder (.ref b :: as) := fun T hT X => mx_invV X hT hx hown (G.1.at 603 rfl rfl _ hW) (G.1.at 604 rfl rfl _ hW) (G.1.at 605 rfl rfl _ hW) (G.1.at 606 rfl rfl _ hW) ⟨⟨by decide, by decide⟩, by decide +kernel⟩ hob rfl hn rfl (by rw [hb]; exact d_R_look_28)
set_option maxRecDepth 20000 in
theorem iv_R_look_36 {l : Launch} {s0 : State} {D : va_G} {cI cF cJ : ClassId} (G : Gx l s0 D cI cF cJ) {p : Program} {e : Env} {R : Room} {s : State} {m : MethodId} {args : Array Value} {below : List Frame} {meth : Method} {c : Code} {H : Heap} {locs : List Loc} {cells slots : Nat} {ls : Array Slot} (hx : p.tables.exec = Jvm.exec) (hb : c.code = b_R_look) (hown : s.vm.findClass "FewBits$Runs" = some m.cls) (hW : s0.WarmedH s.vm) {b : Nat} (hob : mx_Ob s H "FewBits$Runs" b) (as rest : List Value) (hn : as.length = 1) : ∀ T, T.heap = H → Stand p l e R s m args below meth c T locs cells slots → mx_Inv p l e R s m args below meth c T locs cells slots (F0 m 36 ls (as.reverse ++ .ref b :: rest)) (F0 m 36 ls rest) y_R_isClaimed (.ref b :: as) := fun T hT X => mx_invV X hT hx hown (G.1.at 607 rfl rfl _ hW) (G.1.at 608 rfl rfl _ hW) (G.1.at 609 rfl rfl _ hW) (G.1.at 610 rfl rfl _ hW) ⟨⟨by decide, by decide⟩, by decide +kernel⟩ hob rfl hn rfl (by rw [hb]; exact d_R_look_36)
set_option maxRecDepth 20000 in
theorem iv_R_look_53 {l : Launch} {s0 : State} {D : va_G} {cI cF cJ : ClassId} (G : Gx l s0 D cI cF cJ) {p : Program} {e : Env} {R : Room} {s : State} {m : MethodId} {args : Array Value} {below : List Frame} {meth : Method} {c : Code} {H : Heap} {locs : List Loc} {cells slots : Nat} {ls : Array Slot} (hx : p.tables.exec = Jvm.exec) (hb : c.code = b_R_look) (hown : s.vm.findClass "FewBits$Runs" = some m.cls) (hW : s0.WarmedH s.vm) {b : Nat} (hob : mx_Ob s H "FewBits$Runs" b) (as rest : List Value) (hn : as.length = 1) : ∀ T, T.heap = H → Stand p l e R s m args below meth c T locs cells slots → mx_Inv p l e R s m args below meth c T locs cells slots (F0 m 53 ls (as.reverse ++ .ref b :: rest)) (F0 m 53 ls rest) y_R_quotient (.ref b :: as) := fun T hT X => mx_invV X hT hx hown (G.1.at 562 rfl rfl _ hW) (G.1.at 563 rfl rfl _ hW) (G.1.at 564 rfl rfl _ hW) (G.1.at 565 rfl rfl _ hW) ⟨⟨by decide, by decide⟩, by decide +kernel⟩ hob rfl hn rfl (by rw [hb]; exact d_R_look_53)
set_option maxRecDepth 20000 in
theorem iv_R_acceptPairs_28 {l : Launch} {s0 : State} {D : va_G} {cI cF cJ : ClassId} (G : Gx l s0 D cI cF cJ) {p : Program} {e : Env} {R : Room} {s : State} {m : MethodId} {args : Array Value} {below : List Frame} {meth : Method} {c : Code} {H : Heap} {locs : List Loc} {cells slots : Nat} {ls : Array Slot} (hx : p.tables.exec = Jvm.exec) (hb : c.code = b_R_acceptPairs) (hown : s.vm.findClass "FewBits$Runs" = some m.cls) (hW : s0.WarmedH s.vm) {b : Nat} (hob : mx_Ob s H "FewBits$Runs" b) (as rest : List Value) (hn : as.length = 0) : ∀ T, T.heap = H → Stand p l e R s m args below meth c T locs cells slots → mx_Inv p l e R s m args below meth c T locs cells slots (F0 m 28 ls (as.reverse ++ .ref b :: rest)) (F0 m 28 ls rest) y_P_power (.ref b :: as) := fun T hT X => mx_invU X hT hx (owner := "FewBits$Filter") (x := ⟨"FewBits$Runs", "power", "()I"⟩) hown (G.1.at 372 rfl rfl _ hW) (G.1.at 373 rfl rfl _ hW) (va_Decl.abs (va_Nw.warmD hW (G.1.nw 374 rfl rfl))) ⟨by decide, by decide⟩ (G.1.at 375 rfl rfl _ hW) (G.1.at 320 rfl rfl _ hW) ⟨⟨by decide, by decide⟩, by decide +kernel⟩ hob rfl hn rfl (by rw [hb]; exact d_R_acceptPairs_28)
set_option maxRecDepth 20000 in
theorem iv_R_pairOf_2 {l : Launch} {s0 : State} {D : va_G} {cI cF cJ : ClassId} (G : Gx l s0 D cI cF cJ) {p : Program} {e : Env} {R : Room} {s : State} {m : MethodId} {args : Array Value} {below : List Frame} {meth : Method} {c : Code} {H : Heap} {locs : List Loc} {cells slots : Nat} {ls : Array Slot} (hx : p.tables.exec = Jvm.exec) (hb : c.code = b_R_pairOf) (hown : s.vm.findClass "FewBits$Runs" = some m.cls) (hW : s0.WarmedH s.vm) (as rest : List Value) (hn : as.length = 2) : ∀ T, T.heap = H → Stand p l e R s m args below meth c T locs cells slots → mx_Inv p l e R s m args below meth c T locs cells slots (F0 m 2 ls (as.reverse ++ rest)) (F0 m 2 ls rest) y_F_mixed as := fun T hT X => mx_invSN X hx hown (va_Nw.use rfl (va_Nw.warmM hW (G.1.nw 380 rfl rfl))) (G.1.at 40 rfl rfl _ hW) (G.1.at 1 rfl rfl _ hW) (G.1.at 41 rfl rfl _ hW) ⟨⟨by decide, by decide⟩, by decide +kernel⟩ rfl hn rfl (by rw [hb]; exact d_R_pairOf_2)
set_option maxRecDepth 20000 in
theorem iv_R_isClaimed_7 {l : Launch} {s0 : State} {D : va_G} {cI cF cJ : ClassId} (G : Gx l s0 D cI cF cJ) {p : Program} {e : Env} {R : Room} {s : State} {m : MethodId} {args : Array Value} {below : List Frame} {meth : Method} {c : Code} {H : Heap} {locs : List Loc} {cells slots : Nat} {ls : Array Slot} (hx : p.tables.exec = Jvm.exec) (hb : c.code = b_R_isClaimed) (hown : s.vm.findClass "FewBits$Runs" = some m.cls) (hW : s0.WarmedH s.vm) {b : Nat} (hob : mx_Ob s H "FewBits$Runs" b) (as rest : List Value) (hn : as.length = 1) : ∀ T, T.heap = H → Stand p l e R s m args below meth c T locs cells slots → mx_Inv p l e R s m args below meth c T locs cells slots (F0 m 7 ls (as.reverse ++ .ref b :: rest)) (F0 m 7 ls rest) y_R_firstNotBelow (.ref b :: as) := fun T hT X => mx_invV X hT hx hown (G.1.at 381 rfl rfl _ hW) (G.1.at 382 rfl rfl _ hW) (G.1.at 383 rfl rfl _ hW) (G.1.at 384 rfl rfl _ hW) ⟨⟨by decide, by decide⟩, by decide +kernel⟩ hob rfl hn rfl (by rw [hb]; exact d_R_isClaimed_7)
set_option maxRecDepth 20000 in
theorem iv_R_isClaimed_21 {l : Launch} {s0 : State} {D : va_G} {cI cF cJ : ClassId} (G : Gx l s0 D cI cF cJ) {p : Program} {e : Env} {R : Room} {s : State} {m : MethodId} {args : Array Value} {below : List Frame} {meth : Method} {c : Code} {H : Heap} {locs : List Loc} {cells slots : Nat} {ls : Array Slot} (hx : p.tables.exec = Jvm.exec) (hb : c.code = b_R_isClaimed) (hown : s.vm.findClass "FewBits$Runs" = some m.cls) (hW : s0.WarmedH s.vm) {b : Nat} (hob : mx_Ob s H "FewBits$Runs" b) (as rest : List Value) (hn : as.length = 1) : ∀ T, T.heap = H → Stand p l e R s m args below meth c T locs cells slots → mx_Inv p l e R s m args below meth c T locs cells slots (F0 m 21 ls (as.reverse ++ .ref b :: rest)) (F0 m 21 ls rest) y_R_quotient (.ref b :: as) := fun T hT X => mx_invV X hT hx hown (G.1.at 562 rfl rfl _ hW) (G.1.at 563 rfl rfl _ hW) (G.1.at 564 rfl rfl _ hW) (G.1.at 565 rfl rfl _ hW) ⟨⟨by decide, by decide⟩, by decide +kernel⟩ hob rfl hn rfl (by rw [hb]; exact d_R_isClaimed_21)
set_option maxRecDepth 20000 in
theorem iv_R_layOut_5 {l : Launch} {s0 : State} {D : va_G} {cI cF cJ : ClassId} (G : Gx l s0 D cI cF cJ) {p : Program} {e : Env} {R : Room} {s : State} {m : MethodId} {args : Array Value} {below : List Frame} {meth : Method} {c : Code} {H : Heap} {locs : List Loc} {cells slots : Nat} {ls : Array Slot} (hx : p.tables.exec = Jvm.exec) (hb : c.code = b_R_layOut) (hown : s.vm.findClass "FewBits$Runs" = some m.cls) (hW : s0.WarmedH s.vm) (as rest : List Value) (hn : as.length = 2) : ∀ T, T.heap = H → Stand p l e R s m args below meth c T locs cells slots → mx_Inv p l e R s m args below meth c T locs cells slots (F0 m 5 ls (as.reverse ++ rest)) (F0 m 5 ls rest) y_A_fill as := fun T hT X => mx_invS X hx hown (G.1.at 557 rfl rfl _ hW) (G.1.at 253 rfl rfl _ hW) (G.1.at 12 rfl rfl _ hW) (G.1.at 254 rfl rfl _ hW) ⟨⟨by decide, by decide⟩, by decide +kernel⟩ rfl hn rfl (by rw [hb]; exact d_R_layOut_5)
set_option maxRecDepth 20000 in
theorem iv_R_layOut_9 {l : Launch} {s0 : State} {D : va_G} {cI cF cJ : ClassId} (G : Gx l s0 D cI cF cJ) {p : Program} {e : Env} {R : Room} {s : State} {m : MethodId} {args : Array Value} {below : List Frame} {meth : Method} {c : Code} {H : Heap} {locs : List Loc} {cells slots : Nat} {ls : Array Slot} (hx : p.tables.exec = Jvm.exec) (hb : c.code = b_R_layOut) (hown : s.vm.findClass "FewBits$Runs" = some m.cls) (hW : s0.WarmedH s.vm) {b : Nat} (hob : mx_Ob s H "FewBits$Runs" b) (as rest : List Value) (hn : as.length = 0) : ∀ T, T.heap = H → Stand p l e R s m args below meth c T locs cells slots → mx_Inv p l e R s m args below meth c T locs cells slots (F0 m 9 ls (as.reverse ++ .ref b :: rest)) (F0 m 9 ls rest) y_R_overEnd (.ref b :: as) := fun T hT X => mx_invV X hT hx hown (G.1.at 558 rfl rfl _ hW) (G.1.at 559 rfl rfl _ hW) (G.1.at 560 rfl rfl _ hW) (G.1.at 561 rfl rfl _ hW) ⟨⟨by decide, by decide⟩, by decide +kernel⟩ hob rfl hn rfl (by rw [hb]; exact d_R_layOut_9)
set_option maxRecDepth 20000 in
theorem iv_R_layOut_26 {l : Launch} {s0 : State} {D : va_G} {cI cF cJ : ClassId} (G : Gx l s0 D cI cF cJ) {p : Program} {e : Env} {R : Room} {s : State} {m : MethodId} {args : Array Value} {below : List Frame} {meth : Method} {c : Code} {H : Heap} {locs : List Loc} {cells slots : Nat} {ls : Array Slot} (hx : p.tables.exec = Jvm.exec) (hb : c.code = b_R_layOut) (hown : s.vm.findClass "FewBits$Runs" = some m.cls) (hW : s0.WarmedH s.vm) {b : Nat} (hob : mx_Ob s H "FewBits$Runs" b) (as rest : List Value) (hn : as.length = 1) : ∀ T, T.heap = H → Stand p l e R s m args below meth c T locs cells slots → mx_Inv p l e R s m args below meth c T locs cells slots (F0 m 26 ls (as.reverse ++ .ref b :: rest)) (F0 m 26 ls rest) y_R_quotient (.ref b :: as) := fun T hT X => mx_invV X hT hx hown (G.1.at 562 rfl rfl _ hW) (G.1.at 563 rfl rfl _ hW) (G.1.at 564 rfl rfl _ hW) (G.1.at 565 rfl rfl _ hW) ⟨⟨by decide, by decide⟩, by decide +kernel⟩ hob rfl hn rfl (by rw [hb]; exact d_R_layOut_26)
set_option maxRecDepth 20000 in
theorem iv_R_layOut_39 {l : Launch} {s0 : State} {D : va_G} {cI cF cJ : ClassId} (G : Gx l s0 D cI cF cJ) {p : Program} {e : Env} {R : Room} {s : State} {m : MethodId} {args : Array Value} {below : List Frame} {meth : Method} {c : Code} {H : Heap} {locs : List Loc} {cells slots : Nat} {ls : Array Slot} (hx : p.tables.exec = Jvm.exec) (hb : c.code = b_R_layOut) (hown : s.vm.findClass "FewBits$Runs" = some m.cls) (hW : s0.WarmedH s.vm) {b : Nat} (hob : mx_Ob s H "FewBits$Runs" b) (as rest : List Value) (hn : as.length = 0) : ∀ T, T.heap = H → Stand p l e R s m args below meth c T locs cells slots → mx_Inv p l e R s m args below meth c T locs cells slots (F0 m 39 ls (as.reverse ++ .ref b :: rest)) (F0 m 39 ls rest) y_P_power (.ref b :: as) := fun T hT X => mx_invU X hT hx (owner := "FewBits$Filter") (x := ⟨"FewBits$Runs", "power", "()I"⟩) hown (G.1.at 372 rfl rfl _ hW) (G.1.at 373 rfl rfl _ hW) (va_Decl.abs (va_Nw.warmD hW (G.1.nw 374 rfl rfl))) ⟨by decide, by decide⟩ (G.1.at 375 rfl rfl _ hW) (G.1.at 320 rfl rfl _ hW) ⟨⟨by decide, by decide⟩, by decide +kernel⟩ hob rfl hn rfl (by rw [hb]; exact d_R_layOut_39)
set_option maxRecDepth 20000 in
theorem iv_R_overEnd_15 {l : Launch} {s0 : State} {D : va_G} {cI cF cJ : ClassId} (G : Gx l s0 D cI cF cJ) {p : Program} {e : Env} {R : Room} {s : State} {m : MethodId} {args : Array Value} {below : List Frame} {meth : Method} {c : Code} {H : Heap} {locs : List Loc} {cells slots : Nat} {ls : Array Slot} (hx : p.tables.exec = Jvm.exec) (hb : c.code = b_R_overEnd) (hown : s.vm.findClass "FewBits$Runs" = some m.cls) (hW : s0.WarmedH s.vm) {b : Nat} (hob : mx_Ob s H "FewBits$Runs" b) (as rest : List Value) (hn : as.length = 1) : ∀ T, T.heap = H → Stand p l e R s m args below meth c T locs cells slots → mx_Inv p l e R s m args below meth c T locs cells slots (F0 m 15 ls (as.reverse ++ .ref b :: rest)) (F0 m 15 ls rest) y_R_quotient (.ref b :: as) := fun T hT X => mx_invV X hT hx hown (G.1.at 562 rfl rfl _ hW) (G.1.at 563 rfl rfl _ hW) (G.1.at 564 rfl rfl _ hW) (G.1.at 565 rfl rfl _ hW) ⟨⟨by decide, by decide⟩, by decide +kernel⟩ hob rfl hn rfl (by rw [hb]; exact d_R_overEnd_15)
set_option maxRecDepth 20000 in
theorem iv_R_overEnd_33 {l : Launch} {s0 : State} {D : va_G} {cI cF cJ : ClassId} (G : Gx l s0 D cI cF cJ) {p : Program} {e : Env} {R : Room} {s : State} {m : MethodId} {args : Array Value} {below : List Frame} {meth : Method} {c : Code} {H : Heap} {locs : List Loc} {cells slots : Nat} {ls : Array Slot} (hx : p.tables.exec = Jvm.exec) (hb : c.code = b_R_overEnd) (hown : s.vm.findClass "FewBits$Runs" = some m.cls) (hW : s0.WarmedH s.vm) {b : Nat} (hob : mx_Ob s H "FewBits$Runs" b) (as rest : List Value) (hn : as.length = 0) : ∀ T, T.heap = H → Stand p l e R s m args below meth c T locs cells slots → mx_Inv p l e R s m args below meth c T locs cells slots (F0 m 33 ls (as.reverse ++ .ref b :: rest)) (F0 m 33 ls rest) y_P_power (.ref b :: as) := fun T hT X => mx_invU X hT hx (owner := "FewBits$Filter") (x := ⟨"FewBits$Runs", "power", "()I"⟩) hown (G.1.at 372 rfl rfl _ hW) (G.1.at 373 rfl rfl _ hW) (va_Decl.abs (va_Nw.warmD hW (G.1.nw 374 rfl rfl))) ⟨by decide, by decide⟩ (G.1.at 375 rfl rfl _ hW) (G.1.at 320 rfl rfl _ hW) ⟨⟨by decide, by decide⟩, by decide +kernel⟩ hob rfl hn rfl (by rw [hb]; exact d_R_overEnd_33)
set_option maxRecDepth 20000 in
theorem iv_L_make_6 {l : Launch} {s0 : State} {D : va_G} {cI cF cJ : ClassId} (G : Gx l s0 D cI cF cJ) {p : Program} {e : Env} {R : Room} {s : State} {m : MethodId} {args : Array Value} {below : List Frame} {meth : Method} {c : Code} {H : Heap} {locs : List Loc} {cells slots : Nat} {ls : Array Slot} (hx : p.tables.exec = Jvm.exec) (hb : c.code = b_L_make) (hown : s.vm.findClass "FewBitsLaw" = some m.cls) (hW : s0.WarmedH s.vm) {b : Nat} (hob : mx_Ob s H "FewBits" b) (as rest : List Value) (hn : as.length = 4) : ∀ T, T.heap = H → Stand p l e R s m args below meth c T locs cells slots → mx_Inv p l e R s m args below meth c T locs cells slots (F0 m 6 ls (as.reverse ++ .ref b :: rest)) (F0 m 6 ls rest) y_F_make (.ref b :: as) := fun T hT X => mx_invV X hT hx hown (G.1.at 50 rfl rfl _ hW) (G.1.at 51 rfl rfl _ hW) (G.1.at 52 rfl rfl _ hW) (G.1.at 53 rfl rfl _ hW) ⟨⟨by decide, by decide⟩, by decide +kernel⟩ hob rfl hn rfl (by rw [hb]; exact d_L_make_6)
set_option maxRecDepth 20000 in
theorem iv_L_add_6 {l : Launch} {s0 : State} {D : va_G} {cI cF cJ : ClassId} (G : Gx l s0 D cI cF cJ) {p : Program} {e : Env} {R : Room} {s : State} {m : MethodId} {args : Array Value} {below : List Frame} {meth : Method} {c : Code} {H : Heap} {locs : List Loc} {cells slots : Nat} {ls : Array Slot} (hx : p.tables.exec = Jvm.exec) (hb : c.code = b_L_add) (hown : s.vm.findClass "FewBitsLaw" = some m.cls) (hW : s0.WarmedH s.vm) {b : Nat} (hob : mx_Ob s H "FewBits" b) (as rest : List Value) (hn : as.length = 2) : ∀ T, T.heap = H → Stand p l e R s m args below meth c T locs cells slots → mx_Inv p l e R s m args below meth c T locs cells slots (F0 m 6 ls (as.reverse ++ .ref b :: rest)) (F0 m 6 ls rest) y_F_add (.ref b :: as) := fun T hT X => mx_invV X hT hx hown (G.1.at 267 rfl rfl _ hW) (G.1.at 268 rfl rfl _ hW) (G.1.at 269 rfl rfl _ hW) (G.1.at 270 rfl rfl _ hW) ⟨⟨by decide, by decide⟩, by decide +kernel⟩ hob rfl hn rfl (by rw [hb]; exact d_L_add_6)
set_option maxRecDepth 20000 in
theorem iv_L_addAll_10 {l : Launch} {s0 : State} {D : va_G} {cI cF cJ : ClassId} (G : Gx l s0 D cI cF cJ) {p : Program} {e : Env} {R : Room} {s : State} {m : MethodId} {args : Array Value} {below : List Frame} {meth : Method} {c : Code} {H : Heap} {locs : List Loc} {cells slots : Nat} {ls : Array Slot} (hx : p.tables.exec = Jvm.exec) (hb : c.code = b_L_addAll) (hown : s.vm.findClass "FewBitsLaw" = some m.cls) (hW : s0.WarmedH s.vm) {b : Nat} (hob : mx_Ob s H "FewBits" b) (as rest : List Value) (hn : as.length = 4) : ∀ T, T.heap = H → Stand p l e R s m args below meth c T locs cells slots → mx_Inv p l e R s m args below meth c T locs cells slots (F0 m 10 ls (as.reverse ++ .ref b :: rest)) (F0 m 10 ls rest) y_F_addAll (.ref b :: as) := fun T hT X => mx_invV X hT hx hown (G.1.at 407 rfl rfl _ hW) (G.1.at 408 rfl rfl _ hW) (G.1.at 409 rfl rfl _ hW) (G.1.at 410 rfl rfl _ hW) ⟨⟨by decide, by decide⟩, by decide +kernel⟩ hob rfl hn rfl (by rw [hb]; exact d_L_addAll_10)
set_option maxRecDepth 20000 in
theorem iv_L_remove_6 {l : Launch} {s0 : State} {D : va_G} {cI cF cJ : ClassId} (G : Gx l s0 D cI cF cJ) {p : Program} {e : Env} {R : Room} {s : State} {m : MethodId} {args : Array Value} {below : List Frame} {meth : Method} {c : Code} {H : Heap} {locs : List Loc} {cells slots : Nat} {ls : Array Slot} (hx : p.tables.exec = Jvm.exec) (hb : c.code = b_L_remove) (hown : s.vm.findClass "FewBitsLaw" = some m.cls) (hW : s0.WarmedH s.vm) {b : Nat} (hob : mx_Ob s H "FewBits" b) (as rest : List Value) (hn : as.length = 2) : ∀ T, T.heap = H → Stand p l e R s m args below meth c T locs cells slots → mx_Inv p l e R s m args below meth c T locs cells slots (F0 m 6 ls (as.reverse ++ .ref b :: rest)) (F0 m 6 ls rest) y_F_remove (.ref b :: as) := fun T hT X => mx_invV X hT hx hown (G.1.at 419 rfl rfl _ hW) (G.1.at 420 rfl rfl _ hW) (G.1.at 421 rfl rfl _ hW) (G.1.at 422 rfl rfl _ hW) ⟨⟨by decide, by decide⟩, by decide +kernel⟩ hob rfl hn rfl (by rw [hb]; exact d_L_remove_6)
set_option maxRecDepth 20000 in
theorem iv_L_has_6 {l : Launch} {s0 : State} {D : va_G} {cI cF cJ : ClassId} (G : Gx l s0 D cI cF cJ) {p : Program} {e : Env} {R : Room} {s : State} {m : MethodId} {args : Array Value} {below : List Frame} {meth : Method} {c : Code} {H : Heap} {locs : List Loc} {cells slots : Nat} {ls : Array Slot} (hx : p.tables.exec = Jvm.exec) (hb : c.code = b_L_has) (hown : s.vm.findClass "FewBitsLaw" = some m.cls) (hW : s0.WarmedH s.vm) {b : Nat} (hob : mx_Ob s H "FewBits" b) (as rest : List Value) (hn : as.length = 2) : ∀ T, T.heap = H → Stand p l e R s m args below meth c T locs cells slots → mx_Inv p l e R s m args below meth c T locs cells slots (F0 m 6 ls (as.reverse ++ .ref b :: rest)) (F0 m 6 ls rest) y_F_has (.ref b :: as) := fun T hT X => mx_invV X hT hx hown (G.1.at 465 rfl rfl _ hW) (G.1.at 466 rfl rfl _ hW) (G.1.at 467 rfl rfl _ hW) (G.1.at 468 rfl rfl _ hW) ⟨⟨by decide, by decide⟩, by decide +kernel⟩ hob rfl hn rfl (by rw [hb]; exact d_L_has_6)
set_option maxRecDepth 20000 in
theorem iv_L_hasAll_10 {l : Launch} {s0 : State} {D : va_G} {cI cF cJ : ClassId} (G : Gx l s0 D cI cF cJ) {p : Program} {e : Env} {R : Room} {s : State} {m : MethodId} {args : Array Value} {below : List Frame} {meth : Method} {c : Code} {H : Heap} {locs : List Loc} {cells slots : Nat} {ls : Array Slot} (hx : p.tables.exec = Jvm.exec) (hb : c.code = b_L_hasAll) (hown : s.vm.findClass "FewBitsLaw" = some m.cls) (hW : s0.WarmedH s.vm) {b : Nat} (hob : mx_Ob s H "FewBits" b) (as rest : List Value) (hn : as.length = 4) : ∀ T, T.heap = H → Stand p l e R s m args below meth c T locs cells slots → mx_Inv p l e R s m args below meth c T locs cells slots (F0 m 10 ls (as.reverse ++ .ref b :: rest)) (F0 m 10 ls rest) y_F_hasAll (.ref b :: as) := fun T hT X => mx_invV X hT hx hown (G.1.at 484 rfl rfl _ hW) (G.1.at 485 rfl rfl _ hW) (G.1.at 486 rfl rfl _ hW) (G.1.at 487 rfl rfl _ hW) ⟨⟨by decide, by decide⟩, by decide +kernel⟩ hob rfl hn rfl (by rw [hb]; exact d_L_hasAll_10)
set_option maxRecDepth 20000 in
theorem iv_L_same_8 {l : Launch} {s0 : State} {D : va_G} {cI cF cJ : ClassId} (G : Gx l s0 D cI cF cJ) {p : Program} {e : Env} {R : Room} {s : State} {m : MethodId} {args : Array Value} {below : List Frame} {meth : Method} {c : Code} {H : Heap} {locs : List Loc} {cells slots : Nat} {ls : Array Slot} (hx : p.tables.exec = Jvm.exec) (hb : c.code = b_L_same) (hown : s.vm.findClass "FewBitsLaw" = some m.cls) (hW : s0.WarmedH s.vm) {b : Nat} (hob : mx_Ob s H "FewBits" b) (as rest : List Value) (hn : as.length = 3) : ∀ T, T.heap = H → Stand p l e R s m args below meth c T locs cells slots → mx_Inv p l e R s m args below meth c T locs cells slots (F0 m 8 ls (as.reverse ++ .ref b :: rest)) (F0 m 8 ls rest) y_F_same (.ref b :: as) := fun T hT X => mx_invV X hT hx hown (G.1.at 491 rfl rfl _ hW) (G.1.at 492 rfl rfl _ hW) (G.1.at 493 rfl rfl _ hW) (G.1.at 494 rfl rfl _ hW) ⟨⟨by decide, by decide⟩, by decide +kernel⟩ hob rfl hn rfl (by rw [hb]; exact d_L_same_8)
set_option maxRecDepth 20000 in
theorem iv_L_count_5 {l : Launch} {s0 : State} {D : va_G} {cI cF cJ : ClassId} (G : Gx l s0 D cI cF cJ) {p : Program} {e : Env} {R : Room} {s : State} {m : MethodId} {args : Array Value} {below : List Frame} {meth : Method} {c : Code} {H : Heap} {locs : List Loc} {cells slots : Nat} {ls : Array Slot} (hx : p.tables.exec = Jvm.exec) (hb : c.code = b_L_count) (hown : s.vm.findClass "FewBitsLaw" = some m.cls) (hW : s0.WarmedH s.vm) {b : Nat} (hob : mx_Ob s H "FewBits" b) (as rest : List Value) (hn : as.length = 2) : ∀ T, T.heap = H → Stand p l e R s m args below meth c T locs cells slots → mx_Inv p l e R s m args below meth c T locs cells slots (F0 m 5 ls (as.reverse ++ .ref b :: rest)) (F0 m 5 ls rest) y_F_count (.ref b :: as) := fun T hT X => mx_invV X hT hx hown (G.1.at 510 rfl rfl _ hW) (G.1.at 511 rfl rfl _ hW) (G.1.at 512 rfl rfl _ hW) (G.1.at 513 rfl rfl _ hW) ⟨⟨by decide, by decide⟩, by decide +kernel⟩ hob rfl hn rfl (by rw [hb]; exact d_L_count_5)
set_option maxRecDepth 20000 in
theorem iv_L_cell_5 {l : Launch} {s0 : State} {D : va_G} {cI cF cJ : ClassId} (G : Gx l s0 D cI cF cJ) {p : Program} {e : Env} {R : Room} {s : State} {m : MethodId} {args : Array Value} {below : List Frame} {meth : Method} {c : Code} {H : Heap} {locs : List Loc} {cells slots : Nat} {ls : Array Slot} (hx : p.tables.exec = Jvm.exec) (hb : c.code = b_L_cell) (hown : s.vm.findClass "FewBitsLaw" = some m.cls) (hW : s0.WarmedH s.vm) {b : Nat} (hob : mx_Ob s H "FewBits" b) (as rest : List Value) (hn : as.length = 2) : ∀ T, T.heap = H → Stand p l e R s m args below meth c T locs cells slots → mx_Inv p l e R s m args below meth c T locs cells slots (F0 m 5 ls (as.reverse ++ .ref b :: rest)) (F0 m 5 ls rest) y_F_cell (.ref b :: as) := fun T hT X => mx_invV X hT hx hown (G.1.at 574 rfl rfl _ hW) (G.1.at 575 rfl rfl _ hW) (G.1.at 576 rfl rfl _ hW) (G.1.at 577 rfl rfl _ hW) ⟨⟨by decide, by decide⟩, by decide +kernel⟩ hob rfl hn rfl (by rw [hb]; exact d_L_cell_5)
set_option maxRecDepth 20000 in
theorem iv_L_merge_5 {l : Launch} {s0 : State} {D : va_G} {cI cF cJ : ClassId} (G : Gx l s0 D cI cF cJ) {p : Program} {e : Env} {R : Room} {s : State} {m : MethodId} {args : Array Value} {below : List Frame} {meth : Method} {c : Code} {H : Heap} {locs : List Loc} {cells slots : Nat} {ls : Array Slot} (hx : p.tables.exec = Jvm.exec) (hb : c.code = b_L_merge) (hown : s.vm.findClass "FewBitsLaw" = some m.cls) (hW : s0.WarmedH s.vm) {b : Nat} (hob : mx_Ob s H "FewBits" b) (as rest : List Value) (hn : as.length = 2) : ∀ T, T.heap = H → Stand p l e R s m args below meth c T locs cells slots → mx_Inv p l e R s m args below meth c T locs cells slots (F0 m 5 ls (as.reverse ++ .ref b :: rest)) (F0 m 5 ls rest) y_F_merge (.ref b :: as) := fun T hT X => mx_invV X hT hx hown (G.1.at 614 rfl rfl _ hW) (G.1.at 615 rfl rfl _ hW) (G.1.at 616 rfl rfl _ hW) (G.1.at 617 rfl rfl _ hW) ⟨⟨by decide, by decide⟩, by decide +kernel⟩ hob rfl hn rfl (by rw [hb]; exact d_L_merge_5)
set_option maxRecDepth 20000 in
theorem iv_L_grow_2 {l : Launch} {s0 : State} {D : va_G} {cI cF cJ : ClassId} (G : Gx l s0 D cI cF cJ) {p : Program} {e : Env} {R : Room} {s : State} {m : MethodId} {args : Array Value} {below : List Frame} {meth : Method} {c : Code} {H : Heap} {locs : List Loc} {cells slots : Nat} {ls : Array Slot} (hx : p.tables.exec = Jvm.exec) (hb : c.code = b_L_grow) (hown : s.vm.findClass "FewBitsLaw" = some m.cls) (hW : s0.WarmedH s.vm) {b : Nat} (hob : mx_Ob s H "FewBits" b) (as rest : List Value) (hn : as.length = 1) : ∀ T, T.heap = H → Stand p l e R s m args below meth c T locs cells slots → mx_Inv p l e R s m args below meth c T locs cells slots (F0 m 2 ls (as.reverse ++ .ref b :: rest)) (F0 m 2 ls rest) y_F_grow (.ref b :: as) := fun T hT X => mx_invV X hT hx hown (G.1.at 631 rfl rfl _ hW) (G.1.at 632 rfl rfl _ hW) (G.1.at 633 rfl rfl _ hW) (G.1.at 634 rfl rfl _ hW) ⟨⟨by decide, by decide⟩, by decide +kernel⟩ hob rfl hn rfl (by rw [hb]; exact d_L_grow_2)
set_option maxRecDepth 20000 in
theorem iv_L_clear_4 {l : Launch} {s0 : State} {D : va_G} {cI cF cJ : ClassId} (G : Gx l s0 D cI cF cJ) {p : Program} {e : Env} {R : Room} {s : State} {m : MethodId} {args : Array Value} {below : List Frame} {meth : Method} {c : Code} {H : Heap} {locs : List Loc} {cells slots : Nat} {ls : Array Slot} (hx : p.tables.exec = Jvm.exec) (hb : c.code = b_L_clear) (hown : s.vm.findClass "FewBitsLaw" = some m.cls) (hW : s0.WarmedH s.vm) {b : Nat} (hob : mx_Ob s H "FewBits" b) (as rest : List Value) (hn : as.length = 1) : ∀ T, T.heap = H → Stand p l e R s m args below meth c T locs cells slots → mx_Inv p l e R s m args below meth c T locs cells slots (F0 m 4 ls (as.reverse ++ .ref b :: rest)) (F0 m 4 ls rest) y_F_clear (.ref b :: as) := fun T hT X => mx_invV X hT hx hown (G.1.at 643 rfl rfl _ hW) (G.1.at 644 rfl rfl _ hW) (G.1.at 645 rfl rfl _ hW) (G.1.at 646 rfl rfl _ hW) ⟨⟨by decide, by decide⟩, by decide +kernel⟩ hob rfl hn rfl (by rw [hb]; exact d_L_clear_4)
end
section
theorem va_D.aa {A : Nat → Prop} {ws : va_W} (h : va_D A ws) {sz : Nat} : va_D (Aa (ws.map (·.1)) sz) ws := ⟨h.1, fun k q hk => Or.inl (List.mem_map.mpr ⟨q, List.mem_of_getElem? hk, rfl⟩)⟩
theorem va_D.same {A : Nat → Prop} {ws ws' : va_W} (h : va_D A ws) (he : ws'.map (·.1) = ws.map (·.1)) : va_D A ws' := by
  have key : ∀ (k : Nat) (q : Nat × va_E), ws'[k]? = some q → ∃ q0, ws[k]? = some q0 ∧ q0.1 = q.1 := by
    intro k q hq
    have h1 : (ws'.map (·.1))[k]? = some q.1 := by rw [List.getElem?_map, hq]; rfl
    rw [he, List.getElem?_map] at h1
    cases h2 : ws[k]? with
    | none => rw [h2] at h1; cases h1
    | some q0 => rw [h2] at h1; exact ⟨q0, rfl, Option.some.inj h1⟩
  refine ⟨fun i j p q hi hj hpq => ?_, fun k q hk => ?_⟩
  · obtain ⟨p0, a1, a2⟩ := key i p hi
    obtain ⟨q0, b1, b2⟩ := key j q hj
    exact h.1 i j p0 q0 a1 b1 (by rw [a2, b2, hpq])
  · obtain ⟨q0, a1, a2⟩ := key k q hk
    rw [← a2]
    exact h.2 k q0 a1
/-- the shifts of longs, as the rows spell them -/
abbrev lshr (x : Int64) (y : Int32) : Int64 := (x.toUInt64 >>> (y.toInt64.toUInt64 &&& Int64.toUInt64 63)).toInt64
abbrev lshl (x : Int64) (y : Int32) : Int64 := x <<< (y.toInt64 &&& 63)
/-- the mix of x by s -/
def mx (x s : Int64) : Int64 :=
  let z1 := x + (s + 1) * (-7046029254386353131)
  let z2 := (z1 ^^^ lshr z1 30) * (-4658895280553007687)
  let z3 := (z2 ^^^ lshr z2 27) * (-7723592293110705685)
  z3 ^^^ lshr z3 31
/-- the mix as a number -/
def mxN (x : Int64) (s : Int64) : Nat := (mx x s).toBitVec.toNat
theorem mxN_lt (x s : Int64) : mxN x s < 2 ^ 64 := (mx x s).toBitVec.isLt
theorem pw_shl : ∀ A, A ≤ 30 → nI 1 <<< (nI A &&& 31) = nI (2 ^ A) := by decide +kernel
theorem i32_ext {x y : Int32} (h : x.toBitVec = y.toBitVec) : x = y := Int32.toBitVec_inj.mp h
theorem low_bv (z : Int64) (A : Nat) (hA : A ≤ 30) : z.toInt32 &&& (nI (2 ^ A) - nI 1) = nI (z.toBitVec.toNat % 2 ^ A) := by
  have h0 : 0 < 2 ^ A := Nat.two_pow_pos A
  have h1 : 2 ^ A ≤ 2 ^ 30 := Nat.pow_le_pow_right (by decide) hA
  have e1 : nI (2 ^ A) - nI 1 = nI (2 ^ A - 1) := pk_sub (by omega)
  rw [e1, pk_and (z.toInt32) A (by rw [pk_tn (by omega)])]
  congr 1
  have e2 : z.toInt32.toBitVec.toNat = z.toBitVec.toNat % 2 ^ 32 := by
    rw [Int64.toBitVec_toInt32, BitVec.signExtend_eq_setWidth_of_le _ (by decide), BitVec.toNat_setWidth]
  rw [e2, Nat.mod_mod_of_dvd _ (Nat.pow_dvd_pow 2 (by omega))]
/-- how often x stands among the first n of a row -/
def cnt (r : Nat → Nat) (x : Nat) : Nat → Nat
  | 0 => 0
  | n + 1 => cnt r x n + if r n = x then 1 else 0
theorem cnt_le (r : Nat → Nat) (x n : Nat) : cnt r x n ≤ n := by
  induction n with
  | zero => exact Nat.le_refl 0
  | succ n ih => unfold cnt; split <;> omega
theorem cnt_t {r : Nat → Nat} {x n : Nat} (h : r n = x) : cnt r x (n + 1) = cnt r x n + 1 := by simp [cnt, h]
theorem cnt_f {r : Nat → Nat} {x n : Nat} (h : r n ≠ x) : cnt r x (n + 1) = cnt r x n := by simp [cnt, h]
/-- place i of an item -/
def plx (A : Nat) (x : Int64) (i : Nat) : Nat := mxN x (nI i).toInt64 % 2 ^ A
theorem plx_lt {A : Nat} (hA : A ≤ 10) (x : Int64) (i : Nat) : plx A x i < 1024 := by
  have h1 : plx A x i < 2 ^ A := Nat.mod_lt _ (Nat.two_pow_pos A)
  have h2 : 2 ^ A ≤ 2 ^ 10 := Nat.pow_le_pow_right (by decide) hA
  omega
/-- a row with the first n places of an item -/
def fpr (A : Nat) (x : Int64) (r : Nat → Nat) : Nat → Nat → Nat
  | 0 => r
  | n + 1 => va_up (fpr A x r n) n (plx A x n)
theorem fpr_lt {A : Nat} {x : Int64} {r : Nat → Nat} {n i : Nat} (h : i < n) : fpr A x r n i = plx A x i := by
  induction n with
  | zero => omega
  | succ n ih =>
    unfold fpr va_up
    split
    · rename_i e; rw [e]
    · exact ih (by omega)
theorem fpr_in {A : Nat} (hA : A ≤ 10) {x : Int64} {r : Nat → Nat} {n i : Nat} (h : i < n) : fpr A x r n i < 1024 := by
  rw [fpr_lt h]; exact plx_lt hA x i
theorem cnt_congr {r r' : Nat → Nat} {x n : Nat} (h : ∀ i, i < n → r i = r' i) : cnt r x n = cnt r' x n := by
  induction n with
  | zero => rfl
  | succ n ih => unfold cnt; rw [ih (fun i hi => h i (by omega)), h n (by omega)]
theorem cnt_mono {r : Nat → Nat} {x m n : Nat} (h : m ≤ n) : cnt r x m ≤ cnt r x n := by
  induction n with
  | zero => have : m = 0 := by omega
            subst this; exact Nat.le_refl _
  | succ n ih =>
    by_cases e : m = n + 1
    · subst e; exact Nat.le_refl _
    · have := ih (by omega)
      exact Nat.le_trans this (Nat.le_add_right _ _)
theorem cnt_pos {r : Nat → Nat} {i n : Nat} (h : i < n) : 1 ≤ cnt r (r i) n := by
  have h1 : cnt r (r i) (i + 1) ≤ cnt r (r i) n := cnt_mono (by omega)
  rw [cnt_t rfl] at h1
  omega
/-- counters counted up, down, at the first n of a row -/
def addC (c r : Nat → Nat) (n : Nat) : Nat → Nat := fun x => c x + cnt r x n
def subC (c r : Nat → Nat) (n : Nat) : Nat → Nat := fun x => c x - cnt r x n
theorem addC_0 (c r : Nat → Nat) : addC c r 0 = c := rfl
theorem subC_0 (c r : Nat → Nat) : subC c r 0 = c := rfl
theorem addC_s (c r : Nat → Nat) (n : Nat) : va_up (addC c r n) (r n) (addC c r n (r n) + 1) = addC c r (n + 1) := by
  funext x
  by_cases h : x = r n
  · subst h; simp [va_up, addC, cnt]; omega
  · have h2 : r n ≠ x := fun e => h e.symm
    simp [va_up, addC, cnt, h, h2]
theorem subC_s (c r : Nat → Nat) (n : Nat) : va_up (subC c r n) (r n) (subC c r n (r n) - 1) = subC c r (n + 1) := by
  funext x
  by_cases h : x = r n
  · subst h; simp [va_up, subC, cnt]; omega
  · have h2 : r n ≠ x := fun e => h e.symm
    simp [va_up, subC, cnt, h, h2]
/-- all of the first n -/
def allN (f : Nat → Bool) : Nat → Bool
  | 0 => true
  | n + 1 => allN f n && f n
theorem allN_f {f : Nat → Bool} {i n : Nat} (h : i < n) (hf : f i = false) : allN f n = false := by
  induction n with
  | zero => omega
  | succ n ih =>
    unfold allN
    by_cases e : i = n
    · subst e; simp [hf]
    · simp [ih (by omega)]
theorem allN_s {f : Nat → Bool} {n : Nat} (h : allN f n = true) (hf : f n = true) : allN f (n + 1) = true := by
  unfold allN; simp [h, hf]
theorem allN_iff {f : Nat → Bool} {n : Nat} : allN f n = true ↔ ∀ i, i < n → f i = true := by
  induction n with
  | zero => simp [allN]
  | succ n ih =>
    unfold allN
    rw [Bool.and_eq_true, ih]
    constructor
    · intro h i hi
      by_cases e : i = n
      · subst e; exact h.2
      · exact h.1 i (by omega)
    · intro h
      exact ⟨fun i hi => h i (by omega), h n (by omega)⟩
theorem allN_congr {f g : Nat → Bool} {n : Nat} (h : ∀ i, i < n → f i = g i) : allN f n = allN g n := by
  induction n with
  | zero => rfl
  | succ n ih => unfold allN; rw [ih (fun i hi => h i (by omega)), h n (by omega)]
/-- a truth as an int -/
def bI (b : Bool) : Int32 := if b then nI 1 else nI 0
theorem bI_nar (b : Bool) : narrow .boolean (.int (bI b)) = .int (bI b) := by cases b <;> rfl
theorem bI_0 {b : Bool} : bI b = nI 0 ↔ b = false := by cases b <;> simp [bI] <;> decide
theorem bI_ne0 {b : Bool} : bI b = 0 ↔ b = false := by cases b <;> simp [bI] <;> decide
/-- whether adding fits, whether removing does, whether the item is there, over a row of places -/
def fitA (c r : Nat → Nat) (B : Nat) (i : Nat) : Bool := decide (c (r i) + cnt r (r i) B ≤ 15)
def fitS (c r : Nat → Nat) (B : Nat) (i : Nat) : Bool := decide (cnt r (r i) B ≤ c (r i))
def isC (c r : Nat → Nat) (i : Nat) : Bool := decide (0 < c (r i))
def sameC (r r' : Nat → Nat) (B : Nat) (i : Nat) : Bool := decide (cnt r (r i) B = cnt r' (r i) B)
/-- how many of the first n are above 0; the greatest of them -/
def posN (c : Nat → Nat) : Nat → Nat
  | 0 => 0
  | n + 1 => posN c n + if 0 < c n then 1 else 0
theorem posN_le (c : Nat → Nat) (n : Nat) : posN c n ≤ n := by
  induction n with
  | zero => exact Nat.le_refl 0
  | succ n ih => unfold posN; split <;> omega
theorem posN_t {c : Nat → Nat} {n : Nat} (h : 0 < c n) : posN c (n + 1) = posN c n + 1 := by simp [posN, h]
theorem posN_f {c : Nat → Nat} {n : Nat} (h : ¬ 0 < c n) : posN c (n + 1) = posN c n := by simp [posN, h]
def maxN (c : Nat → Nat) : Nat → Nat
  | 0 => 0
  | n + 1 => if maxN c n < c n then c n else maxN c n
theorem maxN_lt {c : Nat → Nat} {M : Nat} (hM : 0 < M) {n : Nat} (h : ∀ i, i < n → c i < M) : maxN c n < M := by
  induction n with
  | zero => exact hM
  | succ n ih =>
    unfold maxN
    split
    · exact h n (by omega)
    · exact ih (fun i hi => h i (by omega))
theorem if_nI {a b : Nat} (ha : a < 2 ^ 31) (hb : b < 2 ^ 31) : (if nI a < nI b then nI b else nI a) = nI (if a < b then b else a) := by
  by_cases h : a < b
  · rw [if_pos ((nI_ltI ha hb).mpr h), if_pos h]
  · rw [if_neg (fun z => h ((nI_ltI ha hb).mp z)), if_neg h]
theorem p2_le {A M : Nat} (h : A ≤ M) : 2 ^ A ≤ 2 ^ M := Nat.pow_le_pow_right (by decide) h
theorem va_D.same2 {A : Nat → Prop} {ws ws' : va_W} (ad : List Nat) (h : va_D A ws) (h1 : ws.map (·.1) = ad) (h2 : ws'.map (·.1) = ad) : va_D A ws' := h.same (h2.trans h1.symm)
end
section
set_option maxHeartbeats 4000000 in
set_option maxRecDepth 100000 in
theorem c_F_mixed {l : Launch} {s0 : State} {D : va_G} {cI cF cJ : ClassId} (G : Gx l s0 D cI cF cJ) (x : Int64) (sk : Int32) {H0 : Heap}  : Mx l s0 y_F_mixed (.code y_F_mixed b_F_mixed 5 (some .long)) { frames := 0, cells := 0, slots := 0, locals := 0 } [.long x, .int sk] H0 (fun _ => False) (Rd H0 (.long (mx x sk.toInt64))) := by
  refine Mx.ofW (own := "FewBits") rfl rfl ?_
  rintro p e s m below meth c ⟨hx, hb, hml, hr, hown, hW, hlk⟩ hnm het hH
  have hK := G.k hW
  have hl := lv_entry ([.long x, .int sk]) (n := 5) (Nat.le_of_ble_eq_true rfl)
  rw [lg_entry_eq]
  generalize (lg_sl ([.long x, .int sk]) ++ List.replicate (5 - (lg_sl ([.long x, .int sk])).length) Slot.unset).toArray = ls at hl ⊢
  have hl : lv_has ls 5 [(0, .long x), (2, .int sk)] := hl
  refine lv_lload_n hx hb d_F_mixed_0 rfl (lv_at hl 0 rfl) ?_
  refine lv_iload_n hx hb d_F_mixed_1 rfl (lv_at hl 1 rfl) ?_
  refine lv_i2l hx hb d_F_mixed_2 rfl ?_
  refine lv_lconst (v := 1) hx hb d_F_mixed_3 (by decide) ?_
  refine lv_ladd hx hb d_F_mixed_4 ?_
  refine lv_ldc2 (v := (-7046029254386353131)) hx hb hown (G.1.at 42 rfl rfl _ hW) d_F_mixed_5 ?_
  refine lv_lmul hx hb d_F_mixed_8 ?_
  refine lv_ladd hx hb d_F_mixed_9 ?_
  refine lv_topl (fun z1 e1 => ?_)
  refine lv_lstore_n (lv' := [(3, .long z1), (0, .long x), (2, .int sk)]) hx hb d_F_mixed_10 rfl hl (by decide) rfl (fun ls hl => ?_)
  refine lv_lload_n hx hb d_F_mixed_11 rfl (lv_at hl 0 rfl) ?_
  refine lv_lload_n hx hb d_F_mixed_12 rfl (lv_at hl 0 rfl) ?_
  refine lv_bipush (v := (nI 30)) hx hb d_F_mixed_13 (by decide) ?_
  refine lv_lushr hx hb d_F_mixed_15 rfl ?_
  refine lv_lxor hx hb d_F_mixed_16 ?_
  refine lv_ldc2 (v := (-4658895280553007687)) hx hb hown (G.1.at 43 rfl rfl _ hW) d_F_mixed_17 ?_
  refine lv_lmul hx hb d_F_mixed_20 ?_
  refine lv_topl (fun z2 e2 => ?_)
  refine lv_lstore_n (lv' := [(3, .long z2), (0, .long x), (2, .int sk)]) hx hb d_F_mixed_21 rfl hl (by decide) rfl (fun ls hl => ?_)
  refine lv_lload_n hx hb d_F_mixed_22 rfl (lv_at hl 0 rfl) ?_
  refine lv_lload_n hx hb d_F_mixed_23 rfl (lv_at hl 0 rfl) ?_
  refine lv_bipush (v := (nI 27)) hx hb d_F_mixed_24 (by decide) ?_
  refine lv_lushr hx hb d_F_mixed_26 rfl ?_
  refine lv_lxor hx hb d_F_mixed_27 ?_
  refine lv_ldc2 (v := (-7723592293110705685)) hx hb hown (G.1.at 44 rfl rfl _ hW) d_F_mixed_28 ?_
  refine lv_lmul hx hb d_F_mixed_31 ?_
  refine lv_topl (fun z3 e3 => ?_)
  refine lv_lstore_n (lv' := [(3, .long z3), (0, .long x), (2, .int sk)]) hx hb d_F_mixed_32 rfl hl (by decide) rfl (fun ls hl => ?_)
  refine lv_lload_n hx hb d_F_mixed_33 rfl (lv_at hl 0 rfl) ?_
  refine lv_lload_n hx hb d_F_mixed_34 rfl (lv_at hl 0 rfl) ?_
  refine lv_bipush (v := (nI 31)) hx hb d_F_mixed_35 (by decide) ?_
  refine lv_lushr hx hb d_F_mixed_37 rfl ?_
  refine lv_lxor hx hb d_F_mixed_38 ?_
  exact mx_lret hx hb hr hlk d_F_mixed_39 (Nat.le_of_ble_eq_true rfl) (Nat.le_of_ble_eq_true rfl) (fun _ h => nomatch h) (⟨by subst e3 e2 e1; rfl, rfl⟩)

set_option maxHeartbeats 4000000 in
set_option maxRecDepth 100000 in
theorem c_M_mixed {l : Launch} {s0 : State} {D : va_G} {cI cF cJ : ClassId} (G : Gx l s0 D cI cF cJ) (x sk : Int64) {H0 : Heap}  : Mx l s0 y_M_mixed (.code y_M_mixed b_M_mixed 6 (some .long)) { frames := 0, cells := 0, slots := 0, locals := 0 } [.long x, .long sk] H0 (fun _ => False) (Rd H0 (.long (mx x sk))) := by
  refine Mx.ofW (own := "FewBitsModel") rfl rfl ?_
  rintro p e s m below meth c ⟨hx, hb, hml, hr, hown, hW, hlk⟩ hnm het hH
  have hK := G.k hW
  have hl := lv_entry ([.long x, .long sk]) (n := 6) (Nat.le_of_ble_eq_true rfl)
  rw [lg_entry_eq]
  generalize (lg_sl ([.long x, .long sk]) ++ List.replicate (6 - (lg_sl ([.long x, .long sk])).length) Slot.unset).toArray = ls at hl ⊢
  have hl : lv_has ls 6 [(0, .long x), (2, .long sk)] := hl
  refine lv_lload_n hx hb d_M_mixed_0 rfl (lv_at hl 0 rfl) ?_
  refine lv_lload_n hx hb d_M_mixed_1 rfl (lv_at hl 1 rfl) ?_
  refine lv_lconst (v := 1) hx hb d_M_mixed_2 (by decide) ?_
  refine lv_ladd hx hb d_M_mixed_3 ?_
  refine lv_ldc2 (v := (-7046029254386353131)) hx hb hown (G.1.at 701 rfl rfl _ hW) d_M_mixed_4 ?_
  refine lv_lmul hx hb d_M_mixed_7 ?_
  refine lv_ladd hx hb d_M_mixed_8 ?_
  refine lv_topl (fun z1 e1 => ?_)
  refine lv_lstore (lv' := [(4, .long z1), (0, .long x), (2, .long sk)]) hx hb d_M_mixed_9 hl (by decide) rfl (fun ls hl => ?_)
  refine lv_lload hx hb d_M_mixed_11 (lv_at hl 0 rfl) ?_
  refine lv_lload hx hb d_M_mixed_13 (lv_at hl 0 rfl) ?_
  refine lv_bipush (v := (nI 30)) hx hb d_M_mixed_15 (by decide) ?_
  refine lv_lushr hx hb d_M_mixed_17 rfl ?_
  refine lv_lxor hx hb d_M_mixed_18 ?_
  refine lv_ldc2 (v := (-4658895280553007687)) hx hb hown (G.1.at 702 rfl rfl _ hW) d_M_mixed_19 ?_
  refine lv_lmul hx hb d_M_mixed_22 ?_
  refine lv_topl (fun z2 e2 => ?_)
  refine lv_lstore (lv' := [(4, .long z2), (0, .long x), (2, .long sk)]) hx hb d_M_mixed_23 hl (by decide) rfl (fun ls hl => ?_)
  refine lv_lload hx hb d_M_mixed_25 (lv_at hl 0 rfl) ?_
  refine lv_lload hx hb d_M_mixed_27 (lv_at hl 0 rfl) ?_
  refine lv_bipush (v := (nI 27)) hx hb d_M_mixed_29 (by decide) ?_
  refine lv_lushr hx hb d_M_mixed_31 rfl ?_
  refine lv_lxor hx hb d_M_mixed_32 ?_
  refine lv_ldc2 (v := (-7723592293110705685)) hx hb hown (G.1.at 703 rfl rfl _ hW) d_M_mixed_33 ?_
  refine lv_lmul hx hb d_M_mixed_36 ?_
  refine lv_topl (fun z3 e3 => ?_)
  refine lv_lstore (lv' := [(4, .long z3), (0, .long x), (2, .long sk)]) hx hb d_M_mixed_37 hl (by decide) rfl (fun ls hl => ?_)
  refine lv_lload hx hb d_M_mixed_39 (lv_at hl 0 rfl) ?_
  refine lv_lload hx hb d_M_mixed_41 (lv_at hl 0 rfl) ?_
  refine lv_bipush (v := (nI 31)) hx hb d_M_mixed_43 (by decide) ?_
  refine lv_lushr hx hb d_M_mixed_45 rfl ?_
  refine lv_lxor hx hb d_M_mixed_46 ?_
  exact mx_lret hx hb hr hlk d_M_mixed_47 (Nat.le_of_ble_eq_true rfl) (Nat.le_of_ble_eq_true rfl) (fun _ h => nomatch h) (⟨by subst e3 e2 e1; rfl, rfl⟩)

set_option maxHeartbeats 4000000 in
set_option maxRecDepth 100000 in
theorem c_P_power_C {l : Launch} {s0 : State} {D : va_G} {cI cF cJ : ClassId} (G : Gx l s0 D cI cF cJ) (h h1 h2 h3 A B : Nat) (hd : Int32) (cs pl pb : Nat → Nat) {H0 : Heap} (hP : va_P D vcl [(h, .inr (0, [.int (nI A), .int (nI B), .int hd, .ref h1, .ref h2, .ref h3])), (h1, aN cI 1024 cs), (h2, aN cI 6 pl), (h3, aN cI 6 pb)] H0) (hA : A ≤ 10) : Mx l s0 y_P_power (.code y_P_power b_P_power 1 (some .int)) { frames := 0, cells := 0, slots := 0, locals := 0 } [.ref h] H0 (fun _ => False) (Rd H0 (.int (nI (2 ^ A)))) := by
  refine Mx.ofW (own := "FewBits$Filter") rfl rfl ?_
  rintro p e s m below meth c ⟨hx, hb, hml, hr, hown, hW, hlk⟩ hnm het hH
  have hK := G.k hW
  have hl := lv_entry ([.ref h]) (n := 1) (Nat.le_of_ble_eq_true rfl)
  rw [lg_entry_eq]
  generalize (lg_sl ([.ref h]) ++ List.replicate (1 - (lg_sl ([.ref h])).length) Slot.unset).toArray = ls at hl ⊢
  have hl : lv_has ls 1 [(0, .ref h)] := hl
  refine lv_iconst (v := (nI 1)) hx hb d_P_power_0 (by decide) ?_
  refine lv_aload_n hx hb d_P_power_1 rfl (lv_at hl 0 rfl) ?_
  refine va_get (D := D) (ci := 0) (v := .int (nI A)) (C := R_C) (T := T_C) (N := 6) hx hb (us_C G hW) (fun _ h => h) hown hK hP 0 rfl rfl 0 (by decide) (fl_P_7 G hW) (fun _ h9 => h9) rfl d_P_power_2 ?_
  refine lv_ishl hx hb d_P_power_5 ?_
  refine tp_i (y := (nI (2 ^ A))) (pw_shl A (by omega)) ?_
  exact mx_iret hx hb hr hlk d_P_power_6 (Nat.le_of_ble_eq_true rfl) (Nat.le_of_ble_eq_true rfl) (fun _ h => nomatch h) (⟨rfl, rfl⟩)

set_option maxHeartbeats 4000000 in
set_option maxRecDepth 100000 in
theorem c_P_lowestBits_C {l : Launch} {s0 : State} {D : va_G} {cI cF cJ : ClassId} (G : Gx l s0 D cI cF cJ) (h h1 h2 h3 A B : Nat) (hd : Int32) (cs pl pb : Nat → Nat) (z : Int64) {H0 : Heap} (hP : va_P D vcl [(h, .inr (0, [.int (nI A), .int (nI B), .int hd, .ref h1, .ref h2, .ref h3])), (h1, aN cI 1024 cs), (h2, aN cI 6 pl), (h3, aN cI 6 pb)] H0) (hA : A ≤ 10) : Mx l s0 y_P_lowestBits (.code y_P_lowestBits b_P_lowestBits 3 (some .int)) { frames := 1, cells := 0, slots := 0, locals := 20 } [.ref h, .long z] H0 (fun _ => False) (Rd H0 (.int (nI (z.toBitVec.toNat % 2 ^ A)))) := by
  refine Mx.ofW (own := "FewBits$Filter") rfl rfl ?_
  rintro p e s m below meth c ⟨hx, hb, hml, hr, hown, hW, hlk⟩ hnm het hH
  have hK := G.k hW
  have hl := lv_entry ([.ref h, .long z]) (n := 3) (Nat.le_of_ble_eq_true rfl)
  rw [lg_entry_eq]
  generalize (lg_sl ([.ref h, .long z]) ++ List.replicate (3 - (lg_sl ([.ref h, .long z])).length) Slot.unset).toArray = ls at hl ⊢
  have hl : lv_has ls 3 [(0, .ref h), (1, .long z)] := hl
  refine lv_lload_n hx hb d_P_lowestBits_0 rfl (lv_at hl 1 rfl) ?_
  refine lv_l2i hx hb d_P_lowestBits_1 rfl ?_
  refine lv_aload_n hx hb d_P_lowestBits_2 rfl (lv_at hl 0 rfl) ?_
  refine mx_callR (r := .int (nI (2 ^ A))) (c_P_power_C G h h1 h2 h3 A B hd cs pl pb hP hA) hW (iv_P_lowestBits_3_C G hx hb hown hW (va_recv hK hP (ci := 0) (q0 := 0) rfl rfl) [] [.int (Int64.toInt32 z)] rfl) hml hl.1 (by rw [hb]; exact d_P_lowestBits_3) (cd_P_power G hW) ⟨Nat.le_of_ble_eq_true rfl, Nat.le_of_ble_eq_true rfl⟩ rfl rfl (Nat.le_of_ble_eq_true rfl) (Nat.le_of_ble_eq_true rfl) (Nat.le_of_ble_eq_true rfl) ?_
  refine lv_iconst (v := (nI 1)) hx hb d_P_lowestBits_6 (by decide) ?_
  refine lv_isub hx hb d_P_lowestBits_7 ?_
  refine lv_iand hx hb d_P_lowestBits_8 ?_
  refine tp_i (y := (nI (z.toBitVec.toNat % 2 ^ A))) (low_bv z A (by omega)) ?_
  exact mx_iret hx hb hr hlk d_P_lowestBits_9 (Nat.le_of_ble_eq_true rfl) (Nat.le_of_ble_eq_true rfl) (fun _ h => nomatch h) (⟨rfl, rfl⟩)

set_option maxHeartbeats 4000000 in
set_option maxRecDepth 100000 in
theorem c_P_cells_C {l : Launch} {s0 : State} {D : va_G} {cI cF cJ : ClassId} (G : Gx l s0 D cI cF cJ) (h h1 h2 h3 A B : Nat) (hd : Int32) (cs pl pb : Nat → Nat) {H0 : Heap} (hP : va_P D vcl [(h, .inr (0, [.int (nI A), .int (nI B), .int hd, .ref h1, .ref h2, .ref h3])), (h1, aN cI 1024 cs), (h2, aN cI 6 pl), (h3, aN cI 6 pb)] H0) (hA : A ≤ 10) : Mx l s0 y_P_cells (.code y_P_cells b_P_cells 1 (some .int)) { frames := 1, cells := 0, slots := 0, locals := 20 } [.ref h] H0 (fun _ => False) (Rd H0 (.int (nI (2 ^ A)))) := by
  refine Mx.ofW (own := "FewBits$Filter") rfl rfl ?_
  rintro p e s m below meth c ⟨hx, hb, hml, hr, hown, hW, hlk⟩ hnm het hH
  have hK := G.k hW
  have hl := lv_entry ([.ref h]) (n := 1) (Nat.le_of_ble_eq_true rfl)
  rw [lg_entry_eq]
  generalize (lg_sl ([.ref h]) ++ List.replicate (1 - (lg_sl ([.ref h])).length) Slot.unset).toArray = ls at hl ⊢
  have hl : lv_has ls 1 [(0, .ref h)] := hl
  refine lv_aload_n hx hb d_P_cells_0 rfl (lv_at hl 0 rfl) ?_
  refine mx_callR (r := .int (nI (2 ^ A))) (c_P_power_C G h h1 h2 h3 A B hd cs pl pb hP hA) hW (iv_P_cells_1_C G hx hb hown hW (va_recv hK hP (ci := 0) (q0 := 0) rfl rfl) [] [] rfl) hml hl.1 (by rw [hb]; exact d_P_cells_1) (cd_P_power G hW) ⟨Nat.le_of_ble_eq_true rfl, Nat.le_of_ble_eq_true rfl⟩ rfl rfl (Nat.le_of_ble_eq_true rfl) (Nat.le_of_ble_eq_true rfl) (Nat.le_of_ble_eq_true rfl) ?_
  exact mx_iret hx hb hr hlk d_P_cells_4 (Nat.le_of_ble_eq_true rfl) (Nat.le_of_ble_eq_true rfl) (fun _ h => nomatch h) (⟨rfl, rfl⟩)

set_option maxHeartbeats 4000000 in
set_option maxRecDepth 100000 in
theorem c_C_kind {l : Launch} {s0 : State} {D : va_G} {cI cF cJ : ClassId} (G : Gx l s0 D cI cF cJ) (h h1 h2 h3 A B : Nat) (hd : Int32) (cs pl pb : Nat → Nat) {H0 : Heap}  : Mx l s0 y_C_kind (.code y_C_kind b_C_kind 1 (some .int)) { frames := 0, cells := 0, slots := 0, locals := 0 } [.ref h] H0 (fun _ => False) (Rd H0 (.int (nI 1))) := by
  refine Mx.ofW (own := "FewBits$Counters") rfl rfl ?_
  rintro p e s m below meth c ⟨hx, hb, hml, hr, hown, hW, hlk⟩ hnm het hH
  have hK := G.k hW
  have hl := lv_entry ([.ref h]) (n := 1) (Nat.le_of_ble_eq_true rfl)
  rw [lg_entry_eq]
  generalize (lg_sl ([.ref h]) ++ List.replicate (1 - (lg_sl ([.ref h])).length) Slot.unset).toArray = ls at hl ⊢
  have hl : lv_has ls 1 [(0, .ref h)] := hl
  refine lv_iconst (v := (nI 1)) hx hb d_C_kind_0 (by decide) ?_
  exact mx_iret hx hb hr hlk d_C_kind_1 (Nat.le_of_ble_eq_true rfl) (Nat.le_of_ble_eq_true rfl) (fun _ h => nomatch h) (⟨rfl, rfl⟩)

set_option maxHeartbeats 4000000 in
set_option maxRecDepth 100000 in
theorem c_C_timesIn_2 {l : Launch} {s0 : State} {D : va_G} {cI cF cJ : ClassId} (G : Gx l s0 D cI cF cJ) (h h1 h2 h3 A B : Nat) (hd : Int32) (cs pl pb : Nat → Nat) (x : Nat) {H0 : Heap} (hP : va_P D vcl [(h, .inr (0, [.int (nI A), .int (nI B), .int hd, .ref h1, .ref h2, .ref h3])), (h1, aN cI 1024 cs), (h2, aN cI 6 pl), (h3, aN cI 6 pb)] H0) (hB : B ≤ 6) (hrow : ∀ i, i < B → pl i < 1024) (hx1 : x < 1024) : Mx l s0 y_C_timesIn (.code y_C_timesIn b_C_timesIn 5 (some .int)) { frames := 0, cells := 0, slots := 0, locals := 0 } [.ref h, .ref h2, .int (nI x)] H0 (fun _ => False) (Rd H0 (.int (nI (cnt pl x B)))) := by
  refine Mx.ofW (own := "FewBits$Counters") rfl rfl ?_
  rintro p e s m below meth c ⟨hx, hb, hml, hr, hown, hW, hlk⟩ hnm het hH
  have hK := G.k hW
  have hl := lv_entry ([.ref h, .ref h2, .int (nI x)]) (n := 5) (Nat.le_of_ble_eq_true rfl)
  rw [lg_entry_eq]
  generalize (lg_sl ([.ref h, .ref h2, .int (nI x)]) ++ List.replicate (5 - (lg_sl ([.ref h, .ref h2, .int (nI x)])).length) Slot.unset).toArray = ls at hl ⊢
  have hl : lv_has ls 5 [(0, .ref h), (1, .ref h2), (2, .int (nI x))] := hl
  refine lv_iconst (v := (nI 0)) hx hb d_C_timesIn_0 (by decide) ?_
  refine lv_istore_n (lv' := [(3, .int (nI 0)), (0, .ref h), (1, .ref h2), (2, .int (nI x))]) hx hb d_C_timesIn_1 rfl hl (by decide) rfl (fun ls hl => ?_)
  refine lv_iconst (v := (nI 0)) hx hb d_C_timesIn_2 (by decide) ?_
  refine lv_istore (lv' := [(4, .int (nI 0)), (3, .int (nI 0)), (0, .ref h), (1, .ref h2), (2, .int (nI x))]) hx hb d_C_timesIn_3 hl (by decide) rfl (fun ls hl => ?_)
  have loop_5 : ∀ (k : Nat) (i : Nat) (t : Nat), (i + k = B) → (t = cnt pl x i) → ∀ (ls : Array Slot), lv_has ls 5 [(4, .int (nI i)), (3, .int (nI t)), (0, .ref h), (1, .ref h2), (2, .int (nI x))] → W p l e { frames := 0, cells := 0, slots := 0, locals := 0 } s m ([.ref h, .ref h2, .int (nI x)] : List Value).toArray below meth c H0 [] 0 0 (MQx below (Rd H0 (.int (nI (cnt pl x B)))) s 0 0 (fun _ => False)) (F0 m 5 ls []) := by
    intro k
    induction k with
    | zero =>
      intro i t hk ht  ls hl
      refine lv_iload hx hb d_C_timesIn_5 (lv_at hl 0 rfl) ?_
      refine lv_aload_n hx hb d_C_timesIn_7 rfl (lv_at hl 2 rfl) ?_
      refine va_get (D := D) (ci := 0) (v := .int (nI B)) (C := R_C) (T := T_C) (N := 6) hx hb (us_C G hW) (fun _ h => h) hown hK hP 0 rfl rfl 1 (by decide) (fl_C_31 G hW) (u_same (args := ([.ref h, .ref h2, .int (nI x)] : List Value).toArray) (G.1.at 178 rfl rfl _ hW)) rfl d_C_timesIn_8 ?_
      refine lv_icmp_ge (tgt := 31) hx hb d_C_timesIn_11 (by decide) (fun c_11 => ?_) (fun c_11 => absurd (nI_le (by omega) (by omega)) c_11)
      refine lv_iload_n hx hb d_C_timesIn_31 rfl (lv_at hl 1 rfl) ?_
      exact mx_iret hx hb hr hlk d_C_timesIn_32 (Nat.le_of_ble_eq_true rfl) (Nat.le_of_ble_eq_true rfl) (fun _ h => nomatch h) (⟨by rw [ht, show i = B by omega], rfl⟩)
    | succ k ih_5 =>
      intro i t hk ht  ls hl
      refine lv_iload hx hb d_C_timesIn_5 (lv_at hl 0 rfl) ?_
      refine lv_aload_n hx hb d_C_timesIn_7 rfl (lv_at hl 2 rfl) ?_
      refine va_get (D := D) (ci := 0) (v := .int (nI B)) (C := R_C) (T := T_C) (N := 6) hx hb (us_C G hW) (fun _ h => h) hown hK hP 0 rfl rfl 1 (by decide) (fl_C_31 G hW) (u_same (args := ([.ref h, .ref h2, .int (nI x)] : List Value).toArray) (G.1.at 178 rfl rfl _ hW)) rfl d_C_timesIn_8 ?_
      refine lv_icmp_ge (tgt := 31) hx hb d_C_timesIn_11 (by decide) (fun c_11 => absurd c_11 (nI_ge (by omega) (by omega))) (fun c_11 => ?_)
      refine lv_aload_n hx hb d_C_timesIn_14 rfl (lv_at hl 3 rfl) ?_
      refine lv_iload hx hb d_C_timesIn_15 (lv_at hl 0 rfl) ?_
      refine ia_ld hx hb hK hP 2 (j := i) rfl (by omega) (by decide) d_C_timesIn_17 ?_
      refine tp_i (y := (nI (pl i))) rfl ?_
      refine lv_iload_n hx hb d_C_timesIn_18 rfl (lv_at hl 4 rfl) ?_
      refine lv_icmp_ne (tgt := 25) hx hb d_C_timesIn_19 (by decide) (fun c_19 => ?_) (fun c_19 => ?_)
      · refine lv_iinc (v := (nI (i + 1))) (lv' := [(4, .int (nI (i + 1))), (3, .int (nI t)), (0, .ref h), (1, .ref h2), (2, .int (nI x))]) hx hb d_C_timesIn_25 hl (k := 0) rfl (nI_1 _) (by decide) rfl (fun ls hl => ?_)
        refine lv_goto (tgt := 5) hx hb d_C_timesIn_28 (by decide) ?_
        exact ih_5 (i + 1) (t) (by omega) (by rw [ht, cnt_f (fun h9 => c_19 (by rw [h9]))]) ls (lv_sub hl [0, 1, 2, 3, 4] rfl)
      · refine lv_iinc (v := (nI (t + 1))) (lv' := [(3, .int (nI (t + 1))), (4, .int (nI i)), (0, .ref h), (1, .ref h2), (2, .int (nI x))]) hx hb d_C_timesIn_22 hl (k := 1) rfl (nI_1 _) (by decide) rfl (fun ls hl => ?_)
        refine lv_iinc (v := (nI (i + 1))) (lv' := [(4, .int (nI (i + 1))), (3, .int (nI (t + 1))), (0, .ref h), (1, .ref h2), (2, .int (nI x))]) hx hb d_C_timesIn_25 hl (k := 1) rfl (nI_1 _) (by decide) rfl (fun ls hl => ?_)
        refine lv_goto (tgt := 5) hx hb d_C_timesIn_28 (by decide) ?_
        exact ih_5 (i + 1) (t + 1) (by omega) (by rw [ht, cnt_t ((nI_eq (by have := hrow i (by omega); omega) (by omega)).mp c_19)]) ls (lv_sub hl [0, 1, 2, 3, 4] rfl)
  exact loop_5 (B) (0) (0) (by omega) (rfl) ls (lv_sub hl [0, 1, 2, 3, 4] rfl)

set_option maxHeartbeats 4000000 in
set_option maxRecDepth 100000 in
theorem c_C_findPlaces_2 {l : Launch} {s0 : State} {D : va_G} {cI cF cJ : ClassId} (G : Gx l s0 D cI cF cJ) (h h1 h2 h3 A B : Nat) (hd : Int32) (cs pl pb : Nat → Nat) (x : Int64) {H0 : Heap} {A0 : Nat → Prop} (hP : va_P D vcl [(h, .inr (0, [.int (nI A), .int (nI B), .int hd, .ref h1, .ref h2, .ref h3])), (h1, aN cI 1024 cs), (h2, aN cI 6 pl), (h3, aN cI 6 pb)] H0) (hD : va_D A0 [(h, .inr (0, [.int (nI A), .int (nI B), .int hd, .ref h1, .ref h2, .ref h3])), (h1, aN cI 1024 cs), (h2, aN cI 6 pl), (h3, aN cI 6 pb)]) (hA : A ≤ 10) (hB : B ≤ 6) : Mx l s0 y_C_findPlaces (.code y_C_findPlaces b_C_findPlaces 5 none) { frames := 2, cells := 0, slots := 0, locals := 42 } [.ref h, .long x, .ref h2] H0 (Aa [h, h1, h2, h3] H0.size) (Rn (fun H1 => va_P D vcl [(h, .inr (0, [.int (nI A), .int (nI B), .int hd, .ref h1, .ref h2, .ref h3])), (h1, aN cI 1024 cs), (h2, aN cI 6 (fpr A x pl B)), (h3, aN cI 6 pb)] H1)) := by
  refine Mx.ofW (own := "FewBits$Counters") rfl rfl ?_
  rintro p e s m below meth c ⟨hx, hb, hml, hr, hown, hW, hlk⟩ hnm het hH
  have hK := G.k hW
  have hD := hD.aa (sz := H0.size)
  have hD : va_D (Aa [h, h1, h2, h3] H0.size) [(h, .inr (0, [.int (nI A), .int (nI B), .int hd, .ref h1, .ref h2, .ref h3])), (h1, aN cI 1024 cs), (h2, aN cI 6 pl), (h3, aN cI 6 pb)] := hD
  have hS : va_S (Aa [h, h1, h2, h3] H0.size) H0 H0 [] := va_S.rf
  have hl := lv_entry ([.ref h, .long x, .ref h2]) (n := 5) (Nat.le_of_ble_eq_true rfl)
  rw [lg_entry_eq]
  generalize (lg_sl ([.ref h, .long x, .ref h2]) ++ List.replicate (5 - (lg_sl ([.ref h, .long x, .ref h2])).length) Slot.unset).toArray = ls at hl ⊢
  have hl : lv_has ls 5 [(0, .ref h), (1, .long x), (3, .ref h2)] := hl
  refine lv_iconst (v := (nI 0)) hx hb d_C_findPlaces_0 (by decide) ?_
  refine lv_istore (lv' := [(4, .int (nI 0)), (0, .ref h), (1, .long x), (3, .ref h2)]) hx hb d_C_findPlaces_1 hl (by decide) rfl (fun ls hl => ?_)
  have loop_3 : ∀ (k : Nat) (i : Nat), (i + k = B) → ∀ (H : Heap) (locs : List Loc), va_P D vcl [(h, .inr (0, [.int (nI A), .int (nI B), .int hd, .ref h1, .ref h2, .ref h3])), (h1, aN cI 1024 cs), (h2, aN cI 6 (fpr A x pl i)), (h3, aN cI 6 pb)] H → va_D (Aa [h, h1, h2, h3] H0.size) [(h, .inr (0, [.int (nI A), .int (nI B), .int hd, .ref h1, .ref h2, .ref h3])), (h1, aN cI 1024 cs), (h2, aN cI 6 (fpr A x pl i)), (h3, aN cI 6 pb)] → va_S (Aa [h, h1, h2, h3] H0.size) H0 H locs → ∀ (ls : Array Slot), lv_has ls 5 [(4, .int (nI i)), (0, .ref h), (1, .long x), (3, .ref h2)] → W p l e { frames := 2, cells := 0, slots := 0, locals := 42 } s m ([.ref h, .long x, .ref h2] : List Value).toArray below meth c H locs 0 0 (MQx below (Rn (fun H1 => va_P D vcl [(h, .inr (0, [.int (nI A), .int (nI B), .int hd, .ref h1, .ref h2, .ref h3])), (h1, aN cI 1024 cs), (h2, aN cI 6 (fpr A x pl B)), (h3, aN cI 6 pb)] H1)) s 0 0 (Aa [h, h1, h2, h3] H0.size)) (F0 m 3 ls []) := by
    intro k
    induction k with
    | zero =>
      intro i hk H locs hP hD hS ls hl
      refine lv_iload hx hb d_C_findPlaces_3 (lv_at hl 0 rfl) ?_
      refine lv_aload_n hx hb d_C_findPlaces_5 rfl (lv_at hl 1 rfl) ?_
      refine va_get (D := D) (ci := 0) (v := .int (nI B)) (C := R_C) (T := T_C) (N := 6) hx hb (us_C G hW) (fun _ h => h) hown hK hP 0 rfl rfl 1 (by decide) (fl_C_31 G hW) (u_same (args := ([.ref h, .long x, .ref h2] : List Value).toArray) (G.1.at 178 rfl rfl _ hW)) rfl d_C_findPlaces_6 ?_
      refine lv_icmp_ge (tgt := 32) hx hb d_C_findPlaces_9 (by decide) (fun c_9 => ?_) (fun c_9 => absurd (nI_le (by omega) (by omega)) c_9)
      exact mx_vret hx hb hr hlk d_C_findPlaces_32 (Nat.le_of_ble_eq_true rfl) (Nat.le_of_ble_eq_true rfl) hS.2.2 (⟨rfl, by rw [show i = B by omega] at hP; exact hP⟩)
    | succ k ih_3 =>
      intro i hk H locs hP hD hS ls hl
      refine lv_iload hx hb d_C_findPlaces_3 (lv_at hl 0 rfl) ?_
      refine lv_aload_n hx hb d_C_findPlaces_5 rfl (lv_at hl 1 rfl) ?_
      refine va_get (D := D) (ci := 0) (v := .int (nI B)) (C := R_C) (T := T_C) (N := 6) hx hb (us_C G hW) (fun _ h => h) hown hK hP 0 rfl rfl 1 (by decide) (fl_C_31 G hW) (u_same (args := ([.ref h, .long x, .ref h2] : List Value).toArray) (G.1.at 178 rfl rfl _ hW)) rfl d_C_findPlaces_6 ?_
      refine lv_icmp_ge (tgt := 32) hx hb d_C_findPlaces_9 (by decide) (fun c_9 => absurd c_9 (nI_ge (by omega) (by omega))) (fun c_9 => ?_)
      refine lv_aload_n hx hb d_C_findPlaces_12 rfl (lv_at hl 3 rfl) ?_
      refine lv_iload hx hb d_C_findPlaces_13 (lv_at hl 0 rfl) ?_
      refine lv_aload_n hx hb d_C_findPlaces_15 rfl (lv_at hl 1 rfl) ?_
      refine lv_lload_n hx hb d_C_findPlaces_16 rfl (lv_at hl 2 rfl) ?_
      refine lv_iload hx hb d_C_findPlaces_17 (lv_at hl 0 rfl) ?_
      refine mx_callR (r := .long (mx x (nI i).toInt64)) (c_F_mixed G x (nI i)) hW (iv_C_findPlaces_19 G hx hb hown hW [.long x, .int (nI i)] [.ref h, .int (nI i), .ref h2] rfl) hml hl.1 (by rw [hb]; exact d_C_findPlaces_19) (cd_F_mixed G hW) ⟨Nat.le_of_ble_eq_true rfl, Nat.le_of_ble_eq_true rfl⟩ rfl rfl (Nat.le_of_ble_eq_true rfl) (Nat.le_of_ble_eq_true rfl) (Nat.le_of_ble_eq_true rfl) ?_
      refine mx_callR (r := .int (nI (plx A x i))) (c_P_lowestBits_C G h h1 h2 h3 A B hd cs (fpr A x pl i) pb (mx x (nI i).toInt64) hP hA) hW (iv_C_findPlaces_22 G hx hb hown hW (va_recv hK hP (ci := 0) (q0 := 0) rfl rfl) [.long (mx x (nI i).toInt64)] [.int (nI i), .ref h2] rfl) hml hl.1 (by rw [hb]; exact d_C_findPlaces_22) (cd_P_lowestBits G hW) ⟨Nat.le_of_ble_eq_true rfl, Nat.le_of_ble_eq_true rfl⟩ rfl rfl (Nat.le_of_ble_eq_true rfl) (Nat.le_of_ble_eq_true rfl) (Nat.le_of_ble_eq_true rfl) ?_
      refine ia_stN hx hb hK hP hD hS 2 (j := i) (x := (plx A x i)) (f := (fpr A x pl i)) rfl (by omega) (by decide) d_C_findPlaces_25 (fun H locs hP hD hS => ?_)
      have hP : va_P D vcl [(h, .inr (0, [.int (nI A), .int (nI B), .int hd, .ref h1, .ref h2, .ref h3])), (h1, aN cI 1024 cs), (h2, aN cI 6 (va_up (fpr A x pl i) i (plx A x i))), (h3, aN cI 6 pb)] H := hP
      have hD : va_D (Aa [h, h1, h2, h3] H0.size) [(h, .inr (0, [.int (nI A), .int (nI B), .int hd, .ref h1, .ref h2, .ref h3])), (h1, aN cI 1024 cs), (h2, aN cI 6 (va_up (fpr A x pl i) i (plx A x i))), (h3, aN cI 6 pb)] := hD
      refine lv_iinc (v := (nI (i + 1))) (lv' := [(4, .int (nI (i + 1))), (0, .ref h), (1, .long x), (3, .ref h2)]) hx hb d_C_findPlaces_26 hl (k := 0) rfl (nI_1 _) (by decide) rfl (fun ls hl => ?_)
      refine lv_goto (tgt := 3) hx hb d_C_findPlaces_29 (by decide) ?_
      exact ih_3 (i + 1) (by omega) H locs hP hD hS ls (lv_sub hl [0, 1, 2, 3] rfl)
  exact loop_3 (B) (0) (by omega) H0 [] hP hD hS ls (lv_sub hl [0, 1, 2, 3] rfl)

set_option maxHeartbeats 4000000 in
set_option maxRecDepth 100000 in
theorem c_C_timesIn_3 {l : Launch} {s0 : State} {D : va_G} {cI cF cJ : ClassId} (G : Gx l s0 D cI cF cJ) (h h1 h2 h3 A B : Nat) (hd : Int32) (cs pl pb : Nat → Nat) (x : Nat) {H0 : Heap} (hP : va_P D vcl [(h, .inr (0, [.int (nI A), .int (nI B), .int hd, .ref h1, .ref h2, .ref h3])), (h1, aN cI 1024 cs), (h2, aN cI 6 pl), (h3, aN cI 6 pb)] H0) (hB : B ≤ 6) (hrow : ∀ i, i < B → pb i < 1024) (hx1 : x < 1024) : Mx l s0 y_C_timesIn (.code y_C_timesIn b_C_timesIn 5 (some .int)) { frames := 0, cells := 0, slots := 0, locals := 0 } [.ref h, .ref h3, .int (nI x)] H0 (fun _ => False) (Rd H0 (.int (nI (cnt pb x B)))) := by
  refine Mx.ofW (own := "FewBits$Counters") rfl rfl ?_
  rintro p e s m below meth c ⟨hx, hb, hml, hr, hown, hW, hlk⟩ hnm het hH
  have hK := G.k hW
  have hl := lv_entry ([.ref h, .ref h3, .int (nI x)]) (n := 5) (Nat.le_of_ble_eq_true rfl)
  rw [lg_entry_eq]
  generalize (lg_sl ([.ref h, .ref h3, .int (nI x)]) ++ List.replicate (5 - (lg_sl ([.ref h, .ref h3, .int (nI x)])).length) Slot.unset).toArray = ls at hl ⊢
  have hl : lv_has ls 5 [(0, .ref h), (1, .ref h3), (2, .int (nI x))] := hl
  refine lv_iconst (v := (nI 0)) hx hb d_C_timesIn_0 (by decide) ?_
  refine lv_istore_n (lv' := [(3, .int (nI 0)), (0, .ref h), (1, .ref h3), (2, .int (nI x))]) hx hb d_C_timesIn_1 rfl hl (by decide) rfl (fun ls hl => ?_)
  refine lv_iconst (v := (nI 0)) hx hb d_C_timesIn_2 (by decide) ?_
  refine lv_istore (lv' := [(4, .int (nI 0)), (3, .int (nI 0)), (0, .ref h), (1, .ref h3), (2, .int (nI x))]) hx hb d_C_timesIn_3 hl (by decide) rfl (fun ls hl => ?_)
  have loop_5 : ∀ (k : Nat) (i : Nat) (t : Nat), (i + k = B) → (t = cnt pb x i) → ∀ (ls : Array Slot), lv_has ls 5 [(4, .int (nI i)), (3, .int (nI t)), (0, .ref h), (1, .ref h3), (2, .int (nI x))] → W p l e { frames := 0, cells := 0, slots := 0, locals := 0 } s m ([.ref h, .ref h3, .int (nI x)] : List Value).toArray below meth c H0 [] 0 0 (MQx below (Rd H0 (.int (nI (cnt pb x B)))) s 0 0 (fun _ => False)) (F0 m 5 ls []) := by
    intro k
    induction k with
    | zero =>
      intro i t hk ht  ls hl
      refine lv_iload hx hb d_C_timesIn_5 (lv_at hl 0 rfl) ?_
      refine lv_aload_n hx hb d_C_timesIn_7 rfl (lv_at hl 2 rfl) ?_
      refine va_get (D := D) (ci := 0) (v := .int (nI B)) (C := R_C) (T := T_C) (N := 6) hx hb (us_C G hW) (fun _ h => h) hown hK hP 0 rfl rfl 1 (by decide) (fl_C_31 G hW) (u_same (args := ([.ref h, .ref h3, .int (nI x)] : List Value).toArray) (G.1.at 178 rfl rfl _ hW)) rfl d_C_timesIn_8 ?_
      refine lv_icmp_ge (tgt := 31) hx hb d_C_timesIn_11 (by decide) (fun c_11 => ?_) (fun c_11 => absurd (nI_le (by omega) (by omega)) c_11)
      refine lv_iload_n hx hb d_C_timesIn_31 rfl (lv_at hl 1 rfl) ?_
      exact mx_iret hx hb hr hlk d_C_timesIn_32 (Nat.le_of_ble_eq_true rfl) (Nat.le_of_ble_eq_true rfl) (fun _ h => nomatch h) (⟨by rw [ht, show i = B by omega], rfl⟩)
    | succ k ih_5 =>
      intro i t hk ht  ls hl
      refine lv_iload hx hb d_C_timesIn_5 (lv_at hl 0 rfl) ?_
      refine lv_aload_n hx hb d_C_timesIn_7 rfl (lv_at hl 2 rfl) ?_
      refine va_get (D := D) (ci := 0) (v := .int (nI B)) (C := R_C) (T := T_C) (N := 6) hx hb (us_C G hW) (fun _ h => h) hown hK hP 0 rfl rfl 1 (by decide) (fl_C_31 G hW) (u_same (args := ([.ref h, .ref h3, .int (nI x)] : List Value).toArray) (G.1.at 178 rfl rfl _ hW)) rfl d_C_timesIn_8 ?_
      refine lv_icmp_ge (tgt := 31) hx hb d_C_timesIn_11 (by decide) (fun c_11 => absurd c_11 (nI_ge (by omega) (by omega))) (fun c_11 => ?_)
      refine lv_aload_n hx hb d_C_timesIn_14 rfl (lv_at hl 3 rfl) ?_
      refine lv_iload hx hb d_C_timesIn_15 (lv_at hl 0 rfl) ?_
      refine ia_ld hx hb hK hP 3 (j := i) rfl (by omega) (by decide) d_C_timesIn_17 ?_
      refine tp_i (y := (nI (pb i))) rfl ?_
      refine lv_iload_n hx hb d_C_timesIn_18 rfl (lv_at hl 4 rfl) ?_
      refine lv_icmp_ne (tgt := 25) hx hb d_C_timesIn_19 (by decide) (fun c_19 => ?_) (fun c_19 => ?_)
      · refine lv_iinc (v := (nI (i + 1))) (lv' := [(4, .int (nI (i + 1))), (3, .int (nI t)), (0, .ref h), (1, .ref h3), (2, .int (nI x))]) hx hb d_C_timesIn_25 hl (k := 0) rfl (nI_1 _) (by decide) rfl (fun ls hl => ?_)
        refine lv_goto (tgt := 5) hx hb d_C_timesIn_28 (by decide) ?_
        exact ih_5 (i + 1) (t) (by omega) (by rw [ht, cnt_f (fun h9 => c_19 (by rw [h9]))]) ls (lv_sub hl [0, 1, 2, 3, 4] rfl)
      · refine lv_iinc (v := (nI (t + 1))) (lv' := [(3, .int (nI (t + 1))), (4, .int (nI i)), (0, .ref h), (1, .ref h3), (2, .int (nI x))]) hx hb d_C_timesIn_22 hl (k := 1) rfl (nI_1 _) (by decide) rfl (fun ls hl => ?_)
        refine lv_iinc (v := (nI (i + 1))) (lv' := [(4, .int (nI (i + 1))), (3, .int (nI (t + 1))), (0, .ref h), (1, .ref h3), (2, .int (nI x))]) hx hb d_C_timesIn_25 hl (k := 1) rfl (nI_1 _) (by decide) rfl (fun ls hl => ?_)
        refine lv_goto (tgt := 5) hx hb d_C_timesIn_28 (by decide) ?_
        exact ih_5 (i + 1) (t + 1) (by omega) (by rw [ht, cnt_t ((nI_eq (by have := hrow i (by omega); omega) (by omega)).mp c_19)]) ls (lv_sub hl [0, 1, 2, 3, 4] rfl)
  exact loop_5 (B) (0) (0) (by omega) (rfl) ls (lv_sub hl [0, 1, 2, 3, 4] rfl)

set_option maxHeartbeats 4000000 in
set_option maxRecDepth 100000 in
theorem c_C_findPlaces_3 {l : Launch} {s0 : State} {D : va_G} {cI cF cJ : ClassId} (G : Gx l s0 D cI cF cJ) (h h1 h2 h3 A B : Nat) (hd : Int32) (cs pl pb : Nat → Nat) (x : Int64) {H0 : Heap} {A0 : Nat → Prop} (hP : va_P D vcl [(h, .inr (0, [.int (nI A), .int (nI B), .int hd, .ref h1, .ref h2, .ref h3])), (h1, aN cI 1024 cs), (h2, aN cI 6 pl), (h3, aN cI 6 pb)] H0) (hD : va_D A0 [(h, .inr (0, [.int (nI A), .int (nI B), .int hd, .ref h1, .ref h2, .ref h3])), (h1, aN cI 1024 cs), (h2, aN cI 6 pl), (h3, aN cI 6 pb)]) (hA : A ≤ 10) (hB : B ≤ 6) : Mx l s0 y_C_findPlaces (.code y_C_findPlaces b_C_findPlaces 5 none) { frames := 2, cells := 0, slots := 0, locals := 42 } [.ref h, .long x, .ref h3] H0 (Aa [h, h1, h2, h3] H0.size) (Rn (fun H1 => va_P D vcl [(h, .inr (0, [.int (nI A), .int (nI B), .int hd, .ref h1, .ref h2, .ref h3])), (h1, aN cI 1024 cs), (h2, aN cI 6 pl), (h3, aN cI 6 (fpr A x pb B))] H1)) := by
  refine Mx.ofW (own := "FewBits$Counters") rfl rfl ?_
  rintro p e s m below meth c ⟨hx, hb, hml, hr, hown, hW, hlk⟩ hnm het hH
  have hK := G.k hW
  have hD := hD.aa (sz := H0.size)
  have hD : va_D (Aa [h, h1, h2, h3] H0.size) [(h, .inr (0, [.int (nI A), .int (nI B), .int hd, .ref h1, .ref h2, .ref h3])), (h1, aN cI 1024 cs), (h2, aN cI 6 pl), (h3, aN cI 6 pb)] := hD
  have hS : va_S (Aa [h, h1, h2, h3] H0.size) H0 H0 [] := va_S.rf
  have hl := lv_entry ([.ref h, .long x, .ref h3]) (n := 5) (Nat.le_of_ble_eq_true rfl)
  rw [lg_entry_eq]
  generalize (lg_sl ([.ref h, .long x, .ref h3]) ++ List.replicate (5 - (lg_sl ([.ref h, .long x, .ref h3])).length) Slot.unset).toArray = ls at hl ⊢
  have hl : lv_has ls 5 [(0, .ref h), (1, .long x), (3, .ref h3)] := hl
  refine lv_iconst (v := (nI 0)) hx hb d_C_findPlaces_0 (by decide) ?_
  refine lv_istore (lv' := [(4, .int (nI 0)), (0, .ref h), (1, .long x), (3, .ref h3)]) hx hb d_C_findPlaces_1 hl (by decide) rfl (fun ls hl => ?_)
  have loop_3 : ∀ (k : Nat) (i : Nat), (i + k = B) → ∀ (H : Heap) (locs : List Loc), va_P D vcl [(h, .inr (0, [.int (nI A), .int (nI B), .int hd, .ref h1, .ref h2, .ref h3])), (h1, aN cI 1024 cs), (h2, aN cI 6 pl), (h3, aN cI 6 (fpr A x pb i))] H → va_D (Aa [h, h1, h2, h3] H0.size) [(h, .inr (0, [.int (nI A), .int (nI B), .int hd, .ref h1, .ref h2, .ref h3])), (h1, aN cI 1024 cs), (h2, aN cI 6 pl), (h3, aN cI 6 (fpr A x pb i))] → va_S (Aa [h, h1, h2, h3] H0.size) H0 H locs → ∀ (ls : Array Slot), lv_has ls 5 [(4, .int (nI i)), (0, .ref h), (1, .long x), (3, .ref h3)] → W p l e { frames := 2, cells := 0, slots := 0, locals := 42 } s m ([.ref h, .long x, .ref h3] : List Value).toArray below meth c H locs 0 0 (MQx below (Rn (fun H1 => va_P D vcl [(h, .inr (0, [.int (nI A), .int (nI B), .int hd, .ref h1, .ref h2, .ref h3])), (h1, aN cI 1024 cs), (h2, aN cI 6 pl), (h3, aN cI 6 (fpr A x pb B))] H1)) s 0 0 (Aa [h, h1, h2, h3] H0.size)) (F0 m 3 ls []) := by
    intro k
    induction k with
    | zero =>
      intro i hk H locs hP hD hS ls hl
      refine lv_iload hx hb d_C_findPlaces_3 (lv_at hl 0 rfl) ?_
      refine lv_aload_n hx hb d_C_findPlaces_5 rfl (lv_at hl 1 rfl) ?_
      refine va_get (D := D) (ci := 0) (v := .int (nI B)) (C := R_C) (T := T_C) (N := 6) hx hb (us_C G hW) (fun _ h => h) hown hK hP 0 rfl rfl 1 (by decide) (fl_C_31 G hW) (u_same (args := ([.ref h, .long x, .ref h3] : List Value).toArray) (G.1.at 178 rfl rfl _ hW)) rfl d_C_findPlaces_6 ?_
      refine lv_icmp_ge (tgt := 32) hx hb d_C_findPlaces_9 (by decide) (fun c_9 => ?_) (fun c_9 => absurd (nI_le (by omega) (by omega)) c_9)
      exact mx_vret hx hb hr hlk d_C_findPlaces_32 (Nat.le_of_ble_eq_true rfl) (Nat.le_of_ble_eq_true rfl) hS.2.2 (⟨rfl, by rw [show i = B by omega] at hP; exact hP⟩)
    | succ k ih_3 =>
      intro i hk H locs hP hD hS ls hl
      refine lv_iload hx hb d_C_findPlaces_3 (lv_at hl 0 rfl) ?_
      refine lv_aload_n hx hb d_C_findPlaces_5 rfl (lv_at hl 1 rfl) ?_
      refine va_get (D := D) (ci := 0) (v := .int (nI B)) (C := R_C) (T := T_C) (N := 6) hx hb (us_C G hW) (fun _ h => h) hown hK hP 0 rfl rfl 1 (by decide) (fl_C_31 G hW) (u_same (args := ([.ref h, .long x, .ref h3] : List Value).toArray) (G.1.at 178 rfl rfl _ hW)) rfl d_C_findPlaces_6 ?_
      refine lv_icmp_ge (tgt := 32) hx hb d_C_findPlaces_9 (by decide) (fun c_9 => absurd c_9 (nI_ge (by omega) (by omega))) (fun c_9 => ?_)
      refine lv_aload_n hx hb d_C_findPlaces_12 rfl (lv_at hl 3 rfl) ?_
      refine lv_iload hx hb d_C_findPlaces_13 (lv_at hl 0 rfl) ?_
      refine lv_aload_n hx hb d_C_findPlaces_15 rfl (lv_at hl 1 rfl) ?_
      refine lv_lload_n hx hb d_C_findPlaces_16 rfl (lv_at hl 2 rfl) ?_
      refine lv_iload hx hb d_C_findPlaces_17 (lv_at hl 0 rfl) ?_
      refine mx_callR (r := .long (mx x (nI i).toInt64)) (c_F_mixed G x (nI i)) hW (iv_C_findPlaces_19 G hx hb hown hW [.long x, .int (nI i)] [.ref h, .int (nI i), .ref h3] rfl) hml hl.1 (by rw [hb]; exact d_C_findPlaces_19) (cd_F_mixed G hW) ⟨Nat.le_of_ble_eq_true rfl, Nat.le_of_ble_eq_true rfl⟩ rfl rfl (Nat.le_of_ble_eq_true rfl) (Nat.le_of_ble_eq_true rfl) (Nat.le_of_ble_eq_true rfl) ?_
      refine mx_callR (r := .int (nI (plx A x i))) (c_P_lowestBits_C G h h1 h2 h3 A B hd cs pl (fpr A x pb i) (mx x (nI i).toInt64) hP hA) hW (iv_C_findPlaces_22 G hx hb hown hW (va_recv hK hP (ci := 0) (q0 := 0) rfl rfl) [.long (mx x (nI i).toInt64)] [.int (nI i), .ref h3] rfl) hml hl.1 (by rw [hb]; exact d_C_findPlaces_22) (cd_P_lowestBits G hW) ⟨Nat.le_of_ble_eq_true rfl, Nat.le_of_ble_eq_true rfl⟩ rfl rfl (Nat.le_of_ble_eq_true rfl) (Nat.le_of_ble_eq_true rfl) (Nat.le_of_ble_eq_true rfl) ?_
      refine ia_stN hx hb hK hP hD hS 3 (j := i) (x := (plx A x i)) (f := (fpr A x pb i)) rfl (by omega) (by decide) d_C_findPlaces_25 (fun H locs hP hD hS => ?_)
      have hP : va_P D vcl [(h, .inr (0, [.int (nI A), .int (nI B), .int hd, .ref h1, .ref h2, .ref h3])), (h1, aN cI 1024 cs), (h2, aN cI 6 pl), (h3, aN cI 6 (va_up (fpr A x pb i) i (plx A x i)))] H := hP
      have hD : va_D (Aa [h, h1, h2, h3] H0.size) [(h, .inr (0, [.int (nI A), .int (nI B), .int hd, .ref h1, .ref h2, .ref h3])), (h1, aN cI 1024 cs), (h2, aN cI 6 pl), (h3, aN cI 6 (va_up (fpr A x pb i) i (plx A x i)))] := hD
      refine lv_iinc (v := (nI (i + 1))) (lv' := [(4, .int (nI (i + 1))), (0, .ref h), (1, .long x), (3, .ref h3)]) hx hb d_C_findPlaces_26 hl (k := 0) rfl (nI_1 _) (by decide) rfl (fun ls hl => ?_)
      refine lv_goto (tgt := 3) hx hb d_C_findPlaces_29 (by decide) ?_
      exact ih_3 (i + 1) (by omega) H locs hP hD hS ls (lv_sub hl [0, 1, 2, 3] rfl)
  exact loop_3 (B) (0) (by omega) H0 [] hP hD hS ls (lv_sub hl [0, 1, 2, 3] rfl)

set_option maxHeartbeats 4000000 in
set_option maxRecDepth 100000 in
theorem c_C_countBy_p {l : Launch} {s0 : State} {D : va_G} {cI cF cJ : ClassId} (G : Gx l s0 D cI cF cJ) (h h1 h2 h3 A B : Nat) (hd : Int32) (cs pl pb : Nat → Nat) {H0 : Heap} {A0 : Nat → Prop} (hP : va_P D vcl [(h, .inr (0, [.int (nI A), .int (nI B), .int hd, .ref h1, .ref h2, .ref h3])), (h1, aN cI 1024 cs), (h2, aN cI 6 pl), (h3, aN cI 6 pb)] H0) (hD : va_D A0 [(h, .inr (0, [.int (nI A), .int (nI B), .int hd, .ref h1, .ref h2, .ref h3])), (h1, aN cI 1024 cs), (h2, aN cI 6 pl), (h3, aN cI 6 pb)]) (hB : B ≤ 6) (hrow : ∀ i, i < B → pl i < 1024) : Mx l s0 y_C_countBy (.code y_C_countBy b_C_countBy 3 none) { frames := 0, cells := 0, slots := 0, locals := 0 } [.ref h, .int (nI 1)] H0 (Aa [h, h1, h2, h3] H0.size) (Rn (fun H1 => va_P D vcl [(h, .inr (0, [.int (nI A), .int (nI B), .int hd, .ref h1, .ref h2, .ref h3])), (h1, aN cI 1024 (addC cs pl B)), (h2, aN cI 6 pl), (h3, aN cI 6 pb)] H1)) := by
  refine Mx.ofW (own := "FewBits$Counters") rfl rfl ?_
  rintro p e s m below meth c ⟨hx, hb, hml, hr, hown, hW, hlk⟩ hnm het hH
  have hK := G.k hW
  have hD := hD.aa (sz := H0.size)
  have hD : va_D (Aa [h, h1, h2, h3] H0.size) [(h, .inr (0, [.int (nI A), .int (nI B), .int hd, .ref h1, .ref h2, .ref h3])), (h1, aN cI 1024 cs), (h2, aN cI 6 pl), (h3, aN cI 6 pb)] := hD
  have hS : va_S (Aa [h, h1, h2, h3] H0.size) H0 H0 [] := va_S.rf
  have hl := lv_entry ([.ref h, .int (nI 1)]) (n := 3) (Nat.le_of_ble_eq_true rfl)
  rw [lg_entry_eq]
  generalize (lg_sl ([.ref h, .int (nI 1)]) ++ List.replicate (3 - (lg_sl ([.ref h, .int (nI 1)])).length) Slot.unset).toArray = ls at hl ⊢
  have hl : lv_has ls 3 [(0, .ref h), (1, .int (nI 1))] := hl
  refine lv_iconst (v := (nI 0)) hx hb d_C_countBy_0 (by decide) ?_
  refine lv_istore_n (lv' := [(2, .int (nI 0)), (0, .ref h), (1, .int (nI 1))]) hx hb d_C_countBy_1 rfl hl (by decide) rfl (fun ls hl => ?_)
  have loop_2 : ∀ (k : Nat) (i : Nat), (i + k = B) → ∀ (H : Heap) (locs : List Loc), va_P D vcl [(h, .inr (0, [.int (nI A), .int (nI B), .int hd, .ref h1, .ref h2, .ref h3])), (h1, aN cI 1024 (addC cs pl i)), (h2, aN cI 6 pl), (h3, aN cI 6 pb)] H → va_D (Aa [h, h1, h2, h3] H0.size) [(h, .inr (0, [.int (nI A), .int (nI B), .int hd, .ref h1, .ref h2, .ref h3])), (h1, aN cI 1024 (addC cs pl i)), (h2, aN cI 6 pl), (h3, aN cI 6 pb)] → va_S (Aa [h, h1, h2, h3] H0.size) H0 H locs → ∀ (ls : Array Slot), lv_has ls 3 [(2, .int (nI i)), (0, .ref h), (1, .int (nI 1))] → W p l e { frames := 0, cells := 0, slots := 0, locals := 0 } s m ([.ref h, .int (nI 1)] : List Value).toArray below meth c H locs 0 0 (MQx below (Rn (fun H1 => va_P D vcl [(h, .inr (0, [.int (nI A), .int (nI B), .int hd, .ref h1, .ref h2, .ref h3])), (h1, aN cI 1024 (addC cs pl B)), (h2, aN cI 6 pl), (h3, aN cI 6 pb)] H1)) s 0 0 (Aa [h, h1, h2, h3] H0.size)) (F0 m 2 ls []) := by
    intro k
    induction k with
    | zero =>
      intro i hk H locs hP hD hS ls hl
      refine lv_iload_n hx hb d_C_countBy_2 rfl (lv_at hl 0 rfl) ?_
      refine lv_aload_n hx hb d_C_countBy_3 rfl (lv_at hl 1 rfl) ?_
      refine va_get (D := D) (ci := 0) (v := .int (nI B)) (C := R_C) (T := T_C) (N := 6) hx hb (us_C G hW) (fun _ h => h) hown hK hP 0 rfl rfl 1 (by decide) (fl_C_31 G hW) (u_same (args := ([.ref h, .int (nI 1)] : List Value).toArray) (G.1.at 178 rfl rfl _ hW)) rfl d_C_countBy_4 ?_
      refine lv_icmp_ge (tgt := 31) hx hb d_C_countBy_7 (by decide) (fun c_7 => ?_) (fun c_7 => absurd (nI_le (by omega) (by omega)) c_7)
      exact mx_vret hx hb hr hlk d_C_countBy_31 (Nat.le_of_ble_eq_true rfl) (Nat.le_of_ble_eq_true rfl) hS.2.2 (⟨rfl, by rw [show i = B by omega] at hP; exact hP⟩)
    | succ k ih_2 =>
      intro i hk H locs hP hD hS ls hl
      refine lv_iload_n hx hb d_C_countBy_2 rfl (lv_at hl 0 rfl) ?_
      refine lv_aload_n hx hb d_C_countBy_3 rfl (lv_at hl 1 rfl) ?_
      refine va_get (D := D) (ci := 0) (v := .int (nI B)) (C := R_C) (T := T_C) (N := 6) hx hb (us_C G hW) (fun _ h => h) hown hK hP 0 rfl rfl 1 (by decide) (fl_C_31 G hW) (u_same (args := ([.ref h, .int (nI 1)] : List Value).toArray) (G.1.at 178 rfl rfl _ hW)) rfl d_C_countBy_4 ?_
      refine lv_icmp_ge (tgt := 31) hx hb d_C_countBy_7 (by decide) (fun c_7 => absurd c_7 (nI_ge (by omega) (by omega))) (fun c_7 => ?_)
      refine lv_aload_n hx hb d_C_countBy_10 rfl (lv_at hl 1 rfl) ?_
      refine va_get (D := D) (ci := 0) (v := .ref h1) (C := R_C) (T := T_C) (N := 6) hx hb (us_C G hW) (fun _ h => h) hown hK hP 0 rfl rfl 3 (by decide) (fl_C_11 G hW) (fun _ h9 => h9) rfl d_C_countBy_11 ?_
      refine lv_aload_n hx hb d_C_countBy_14 rfl (lv_at hl 1 rfl) ?_
      refine va_get (D := D) (ci := 0) (v := .ref h2) (C := R_C) (T := T_C) (N := 6) hx hb (us_C G hW) (fun _ h => h) hown hK hP 0 rfl rfl 4 (by decide) (fl_C_15 G hW) (fun _ h9 => h9) rfl d_C_countBy_15 ?_
      refine lv_iload_n hx hb d_C_countBy_18 rfl (lv_at hl 0 rfl) ?_
      refine ia_ld hx hb hK hP 2 (j := i) rfl (by omega) (by decide) d_C_countBy_19 ?_
      refine tp_i (y := (nI (pl i))) rfl ?_
      refine lv_dup2_11 hx hb d_C_countBy_20 rfl rfl ?_
      refine ia_ld hx hb hK hP 1 (j := (pl i)) rfl (hrow i (by omega)) (by decide) d_C_countBy_21 ?_
      refine tp_i (y := (nI ((addC cs pl i) (pl i)))) rfl ?_
      refine lv_iload_n hx hb d_C_countBy_22 rfl (lv_at hl 2 rfl) ?_
      refine lv_iadd hx hb d_C_countBy_23 ?_
      refine tp_i (y := (nI (addC cs pl i (pl i) + 1))) (nI_add _ _) ?_
      refine ia_stN hx hb hK hP hD hS 1 (j := (pl i)) (x := (addC cs pl i (pl i) + 1)) (f := (addC cs pl i)) rfl (hrow i (by omega)) (by decide) d_C_countBy_24 (fun H locs hP hD hS => ?_)
      have hP : va_P D vcl [(h, .inr (0, [.int (nI A), .int (nI B), .int hd, .ref h1, .ref h2, .ref h3])), (h1, aN cI 1024 (va_up (addC cs pl i) (pl i) (addC cs pl i (pl i) + 1))), (h2, aN cI 6 pl), (h3, aN cI 6 pb)] H := hP
      have hD : va_D (Aa [h, h1, h2, h3] H0.size) [(h, .inr (0, [.int (nI A), .int (nI B), .int hd, .ref h1, .ref h2, .ref h3])), (h1, aN cI 1024 (va_up (addC cs pl i) (pl i) (addC cs pl i (pl i) + 1))), (h2, aN cI 6 pl), (h3, aN cI 6 pb)] := hD
      rw [addC_s] at hP hD
      refine lv_iinc (v := (nI (i + 1))) (lv' := [(2, .int (nI (i + 1))), (0, .ref h), (1, .int (nI 1))]) hx hb d_C_countBy_25 hl (k := 0) rfl (nI_1 _) (by decide) rfl (fun ls hl => ?_)
      refine lv_goto (tgt := 2) hx hb d_C_countBy_28 (by decide) ?_
      exact ih_2 (i + 1) (by omega) H locs hP hD hS ls (lv_sub hl [0, 1, 2] rfl)
  exact loop_2 (B) (0) (by omega) H0 [] hP hD hS ls (lv_sub hl [0, 1, 2] rfl)

set_option maxHeartbeats 4000000 in
set_option maxRecDepth 100000 in
theorem c_C_countBy_m {l : Launch} {s0 : State} {D : va_G} {cI cF cJ : ClassId} (G : Gx l s0 D cI cF cJ) (h h1 h2 h3 A B : Nat) (hd : Int32) (cs pl pb : Nat → Nat) {H0 : Heap} {A0 : Nat → Prop} (hP : va_P D vcl [(h, .inr (0, [.int (nI A), .int (nI B), .int hd, .ref h1, .ref h2, .ref h3])), (h1, aN cI 1024 cs), (h2, aN cI 6 pl), (h3, aN cI 6 pb)] H0) (hD : va_D A0 [(h, .inr (0, [.int (nI A), .int (nI B), .int hd, .ref h1, .ref h2, .ref h3])), (h1, aN cI 1024 cs), (h2, aN cI 6 pl), (h3, aN cI 6 pb)]) (hB : B ≤ 6) (hrow : ∀ i, i < B → pl i < 1024) (hge : ∀ i, i < B → cnt pl (pl i) B ≤ cs (pl i)) : Mx l s0 y_C_countBy (.code y_C_countBy b_C_countBy 3 none) { frames := 0, cells := 0, slots := 0, locals := 0 } [.ref h, .int (-1)] H0 (Aa [h, h1, h2, h3] H0.size) (Rn (fun H1 => va_P D vcl [(h, .inr (0, [.int (nI A), .int (nI B), .int hd, .ref h1, .ref h2, .ref h3])), (h1, aN cI 1024 (subC cs pl B)), (h2, aN cI 6 pl), (h3, aN cI 6 pb)] H1)) := by
  refine Mx.ofW (own := "FewBits$Counters") rfl rfl ?_
  rintro p e s m below meth c ⟨hx, hb, hml, hr, hown, hW, hlk⟩ hnm het hH
  have hK := G.k hW
  have hD := hD.aa (sz := H0.size)
  have hD : va_D (Aa [h, h1, h2, h3] H0.size) [(h, .inr (0, [.int (nI A), .int (nI B), .int hd, .ref h1, .ref h2, .ref h3])), (h1, aN cI 1024 cs), (h2, aN cI 6 pl), (h3, aN cI 6 pb)] := hD
  have hS : va_S (Aa [h, h1, h2, h3] H0.size) H0 H0 [] := va_S.rf
  have hl := lv_entry ([.ref h, .int (-1)]) (n := 3) (Nat.le_of_ble_eq_true rfl)
  rw [lg_entry_eq]
  generalize (lg_sl ([.ref h, .int (-1)]) ++ List.replicate (3 - (lg_sl ([.ref h, .int (-1)])).length) Slot.unset).toArray = ls at hl ⊢
  have hl : lv_has ls 3 [(0, .ref h), (1, .int (-1))] := hl
  refine lv_iconst (v := (nI 0)) hx hb d_C_countBy_0 (by decide) ?_
  refine lv_istore_n (lv' := [(2, .int (nI 0)), (0, .ref h), (1, .int (-1))]) hx hb d_C_countBy_1 rfl hl (by decide) rfl (fun ls hl => ?_)
  have loop_2 : ∀ (k : Nat) (i : Nat), (i + k = B) → ∀ (H : Heap) (locs : List Loc), va_P D vcl [(h, .inr (0, [.int (nI A), .int (nI B), .int hd, .ref h1, .ref h2, .ref h3])), (h1, aN cI 1024 (subC cs pl i)), (h2, aN cI 6 pl), (h3, aN cI 6 pb)] H → va_D (Aa [h, h1, h2, h3] H0.size) [(h, .inr (0, [.int (nI A), .int (nI B), .int hd, .ref h1, .ref h2, .ref h3])), (h1, aN cI 1024 (subC cs pl i)), (h2, aN cI 6 pl), (h3, aN cI 6 pb)] → va_S (Aa [h, h1, h2, h3] H0.size) H0 H locs → ∀ (ls : Array Slot), lv_has ls 3 [(2, .int (nI i)), (0, .ref h), (1, .int (-1))] → W p l e { frames := 0, cells := 0, slots := 0, locals := 0 } s m ([.ref h, .int (-1)] : List Value).toArray below meth c H locs 0 0 (MQx below (Rn (fun H1 => va_P D vcl [(h, .inr (0, [.int (nI A), .int (nI B), .int hd, .ref h1, .ref h2, .ref h3])), (h1, aN cI 1024 (subC cs pl B)), (h2, aN cI 6 pl), (h3, aN cI 6 pb)] H1)) s 0 0 (Aa [h, h1, h2, h3] H0.size)) (F0 m 2 ls []) := by
    intro k
    induction k with
    | zero =>
      intro i hk H locs hP hD hS ls hl
      refine lv_iload_n hx hb d_C_countBy_2 rfl (lv_at hl 0 rfl) ?_
      refine lv_aload_n hx hb d_C_countBy_3 rfl (lv_at hl 1 rfl) ?_
      refine va_get (D := D) (ci := 0) (v := .int (nI B)) (C := R_C) (T := T_C) (N := 6) hx hb (us_C G hW) (fun _ h => h) hown hK hP 0 rfl rfl 1 (by decide) (fl_C_31 G hW) (u_same (args := ([.ref h, .int (-1)] : List Value).toArray) (G.1.at 178 rfl rfl _ hW)) rfl d_C_countBy_4 ?_
      refine lv_icmp_ge (tgt := 31) hx hb d_C_countBy_7 (by decide) (fun c_7 => ?_) (fun c_7 => absurd (nI_le (by omega) (by omega)) c_7)
      exact mx_vret hx hb hr hlk d_C_countBy_31 (Nat.le_of_ble_eq_true rfl) (Nat.le_of_ble_eq_true rfl) hS.2.2 (⟨rfl, by rw [show i = B by omega] at hP; exact hP⟩)
    | succ k ih_2 =>
      intro i hk H locs hP hD hS ls hl
      refine lv_iload_n hx hb d_C_countBy_2 rfl (lv_at hl 0 rfl) ?_
      refine lv_aload_n hx hb d_C_countBy_3 rfl (lv_at hl 1 rfl) ?_
      refine va_get (D := D) (ci := 0) (v := .int (nI B)) (C := R_C) (T := T_C) (N := 6) hx hb (us_C G hW) (fun _ h => h) hown hK hP 0 rfl rfl 1 (by decide) (fl_C_31 G hW) (u_same (args := ([.ref h, .int (-1)] : List Value).toArray) (G.1.at 178 rfl rfl _ hW)) rfl d_C_countBy_4 ?_
      refine lv_icmp_ge (tgt := 31) hx hb d_C_countBy_7 (by decide) (fun c_7 => absurd c_7 (nI_ge (by omega) (by omega))) (fun c_7 => ?_)
      refine lv_aload_n hx hb d_C_countBy_10 rfl (lv_at hl 1 rfl) ?_
      refine va_get (D := D) (ci := 0) (v := .ref h1) (C := R_C) (T := T_C) (N := 6) hx hb (us_C G hW) (fun _ h => h) hown hK hP 0 rfl rfl 3 (by decide) (fl_C_11 G hW) (fun _ h9 => h9) rfl d_C_countBy_11 ?_
      refine lv_aload_n hx hb d_C_countBy_14 rfl (lv_at hl 1 rfl) ?_
      refine va_get (D := D) (ci := 0) (v := .ref h2) (C := R_C) (T := T_C) (N := 6) hx hb (us_C G hW) (fun _ h => h) hown hK hP 0 rfl rfl 4 (by decide) (fl_C_15 G hW) (fun _ h9 => h9) rfl d_C_countBy_15 ?_
      refine lv_iload_n hx hb d_C_countBy_18 rfl (lv_at hl 0 rfl) ?_
      refine ia_ld hx hb hK hP 2 (j := i) rfl (by omega) (by decide) d_C_countBy_19 ?_
      refine tp_i (y := (nI (pl i))) rfl ?_
      refine lv_dup2_11 hx hb d_C_countBy_20 rfl rfl ?_
      refine ia_ld hx hb hK hP 1 (j := (pl i)) rfl (hrow i (by omega)) (by decide) d_C_countBy_21 ?_
      refine tp_i (y := (nI ((subC cs pl i) (pl i)))) rfl ?_
      refine lv_iload_n hx hb d_C_countBy_22 rfl (lv_at hl 2 rfl) ?_
      refine lv_iadd hx hb d_C_countBy_23 ?_
      refine tp_i (y := (nI (subC cs pl i (pl i) - 1))) (sb_m1 (by have h1 := hge i (by omega); have h2 := cnt_mono (r := pl) (x := pl i) (show i + 1 ≤ B by omega); rw [cnt_t rfl] at h2; unfold subC; omega)) ?_
      refine ia_stN hx hb hK hP hD hS 1 (j := (pl i)) (x := (subC cs pl i (pl i) - 1)) (f := (subC cs pl i)) rfl (hrow i (by omega)) (by decide) d_C_countBy_24 (fun H locs hP hD hS => ?_)
      have hP : va_P D vcl [(h, .inr (0, [.int (nI A), .int (nI B), .int hd, .ref h1, .ref h2, .ref h3])), (h1, aN cI 1024 (va_up (subC cs pl i) (pl i) (subC cs pl i (pl i) - 1))), (h2, aN cI 6 pl), (h3, aN cI 6 pb)] H := hP
      have hD : va_D (Aa [h, h1, h2, h3] H0.size) [(h, .inr (0, [.int (nI A), .int (nI B), .int hd, .ref h1, .ref h2, .ref h3])), (h1, aN cI 1024 (va_up (subC cs pl i) (pl i) (subC cs pl i (pl i) - 1))), (h2, aN cI 6 pl), (h3, aN cI 6 pb)] := hD
      rw [subC_s] at hP hD
      refine lv_iinc (v := (nI (i + 1))) (lv' := [(2, .int (nI (i + 1))), (0, .ref h), (1, .int (-1))]) hx hb d_C_countBy_25 hl (k := 0) rfl (nI_1 _) (by decide) rfl (fun ls hl => ?_)
      refine lv_goto (tgt := 2) hx hb d_C_countBy_28 (by decide) ?_
      exact ih_2 (i + 1) (by omega) H locs hP hD hS ls (lv_sub hl [0, 1, 2] rfl)
  exact loop_2 (B) (0) (by omega) H0 [] hP hD hS ls (lv_sub hl [0, 1, 2] rfl)

set_option maxHeartbeats 4000000 in
set_option maxRecDepth 100000 in
theorem c_C_put {l : Launch} {s0 : State} {D : va_G} {cI cF cJ : ClassId} (G : Gx l s0 D cI cF cJ) (h h1 h2 h3 A B : Nat) (hd : Int32) (cs pl pb : Nat → Nat) (x : Int64) {H0 : Heap} {A0 : Nat → Prop} (hP : va_P D vcl [(h, .inr (0, [.int (nI A), .int (nI B), .int hd, .ref h1, .ref h2, .ref h3])), (h1, aN cI 1024 cs), (h2, aN cI 6 pl), (h3, aN cI 6 pb)] H0) (hD : va_D A0 [(h, .inr (0, [.int (nI A), .int (nI B), .int hd, .ref h1, .ref h2, .ref h3])), (h1, aN cI 1024 cs), (h2, aN cI 6 pl), (h3, aN cI 6 pb)]) (hA : A ≤ 10) (hB : B ≤ 6) (hc1 : ∀ j, j < 1024 → cs j ≤ 15) : Mx l s0 y_C_put (.code y_C_put b_C_put 4 (some .boolean)) { frames := 3, cells := 0, slots := 0, locals := 66 } [.ref h, .long x] H0 (Aa [h, h1, h2, h3] H0.size) (Rw (.int (bI (allN (fitA cs (fpr A x pl B) B) B))) (fun H1 => va_P D vcl [(h, .inr (0, [.int (nI A), .int (nI B), .int hd, .ref h1, .ref h2, .ref h3])), (h1, aN cI 1024 (if (allN (fitA cs (fpr A x pl B) B) B) then addC cs (fpr A x pl B) B else cs)), (h2, aN cI 6 (fpr A x pl B)), (h3, aN cI 6 pb)] H1)) := by
  refine Mx.ofW (own := "FewBits$Counters") rfl rfl ?_
  rintro p e s m below meth c ⟨hx, hb, hml, hr, hown, hW, hlk⟩ hnm het hH
  have hK := G.k hW
  have hD := hD.aa (sz := H0.size)
  have hD : va_D (Aa [h, h1, h2, h3] H0.size) [(h, .inr (0, [.int (nI A), .int (nI B), .int hd, .ref h1, .ref h2, .ref h3])), (h1, aN cI 1024 cs), (h2, aN cI 6 pl), (h3, aN cI 6 pb)] := hD
  have hS : va_S (Aa [h, h1, h2, h3] H0.size) H0 H0 [] := va_S.rf
  have hl := lv_entry ([.ref h, .long x]) (n := 4) (Nat.le_of_ble_eq_true rfl)
  rw [lg_entry_eq]
  generalize (lg_sl ([.ref h, .long x]) ++ List.replicate (4 - (lg_sl ([.ref h, .long x])).length) Slot.unset).toArray = ls at hl ⊢
  have hl : lv_has ls 4 [(0, .ref h), (1, .long x)] := hl
  refine lv_aload_n hx hb d_C_put_0 rfl (lv_at hl 0 rfl) ?_
  refine lv_lload_n hx hb d_C_put_1 rfl (lv_at hl 1 rfl) ?_
  refine lv_aload_n hx hb d_C_put_2 rfl (lv_at hl 0 rfl) ?_
  refine va_get (D := D) (ci := 0) (v := .ref h2) (C := R_C) (T := T_C) (N := 6) hx hb (us_C G hW) (fun _ h => h) hown hK hP 0 rfl rfl 4 (by decide) (fl_C_15 G hW) (fun _ h9 => h9) rfl d_C_put_3 ?_
  refine mx_callN (c_C_findPlaces_2 G h h1 h2 h3 A B hd cs pl pb x hP hD hA hB) hW (iv_C_put_6 G hx hb hown hW (va_recv hK hP (ci := 0) (q0 := 0) rfl rfl) [.long x, .ref h2] [] rfl) hml hl.1 (by rw [hb]; exact d_C_put_6) (cd_C_findPlaces G hW) ⟨Nat.le_of_ble_eq_true rfl, Nat.le_of_ble_eq_true rfl⟩ (Nat.le_of_ble_eq_true rfl) (Nat.le_of_ble_eq_true rfl) (Nat.le_of_ble_eq_true rfl) hS (Aa.mono (fun _ h => h) hS.1) (fun H locs hP _ _ hS => ?_)
  have hP : va_P D vcl [(h, .inr (0, [.int (nI A), .int (nI B), .int hd, .ref h1, .ref h2, .ref h3])), (h1, aN cI 1024 cs), (h2, aN cI 6 (fpr A x pl B)), (h3, aN cI 6 pb)] H := hP
  have hD : va_D (Aa [h, h1, h2, h3] H0.size) [(h, .inr (0, [.int (nI A), .int (nI B), .int hd, .ref h1, .ref h2, .ref h3])), (h1, aN cI 1024 cs), (h2, aN cI 6 (fpr A x pl B)), (h3, aN cI 6 pb)] := va_D.same2 [h, h1, h2, h3] hD rfl rfl
  refine lv_iconst (v := (nI 0)) hx hb d_C_put_9 (by decide) ?_
  refine lv_istore_n (lv' := [(3, .int (nI 0)), (0, .ref h), (1, .long x)]) hx hb d_C_put_10 rfl hl (by decide) rfl (fun ls hl => ?_)
  have loop_11 : ∀ (k : Nat) (i : Nat), (i + k = B) → (allN (fitA cs (fpr A x pl B) B) i = true) → ∀ (ls : Array Slot), lv_has ls 4 [(3, .int (nI i)), (0, .ref h), (1, .long x)] → W p l e { frames := 3, cells := 0, slots := 0, locals := 66 } s m ([.ref h, .long x] : List Value).toArray below meth c H locs 0 0 (MQx below (Rw (.int (bI (allN (fitA cs (fpr A x pl B) B) B))) (fun H1 => va_P D vcl [(h, .inr (0, [.int (nI A), .int (nI B), .int hd, .ref h1, .ref h2, .ref h3])), (h1, aN cI 1024 (if (allN (fitA cs (fpr A x pl B) B) B) then addC cs (fpr A x pl B) B else cs)), (h2, aN cI 6 (fpr A x pl B)), (h3, aN cI 6 pb)] H1)) s 0 0 (Aa [h, h1, h2, h3] H0.size)) (F0 m 11 ls []) := by
    intro k
    induction k with
    | zero =>
      intro i hk hf  ls hl
      refine lv_iload_n hx hb d_C_put_11 rfl (lv_at hl 0 rfl) ?_
      refine lv_aload_n hx hb d_C_put_12 rfl (lv_at hl 1 rfl) ?_
      refine va_get (D := D) (ci := 0) (v := .int (nI B)) (C := R_C) (T := T_C) (N := 6) hx hb (us_C G hW) (fun _ h => h) hown hK hP 0 rfl rfl 1 (by decide) (fl_C_31 G hW) (u_same (args := ([.ref h, .long x] : List Value).toArray) (G.1.at 178 rfl rfl _ hW)) rfl d_C_put_13 ?_
      refine lv_icmp_ge (tgt := 58) hx hb d_C_put_16 (by decide) (fun c_16 => ?_) (fun c_16 => absurd (nI_le (by omega) (by omega)) c_16)
      refine lv_aload_n hx hb d_C_put_58 rfl (lv_at hl 1 rfl) ?_
      refine lv_iconst (v := (nI 1)) hx hb d_C_put_59 (by decide) ?_
      rw [show i = B by omega] at hf
      refine mx_callN (c_C_countBy_p G h h1 h2 h3 A B hd cs (fpr A x pl B) pb hP hD hB (fun j hj => fpr_in hA hj)) hW (iv_C_put_60 G hx hb hown hW (va_recv hK hP (ci := 0) (q0 := 0) rfl rfl) [.int (nI 1)] [] rfl) hml hl.1 (by rw [hb]; exact d_C_put_60) (cd_C_countBy G hW) ⟨Nat.le_of_ble_eq_true rfl, Nat.le_of_ble_eq_true rfl⟩ (Nat.le_of_ble_eq_true rfl) (Nat.le_of_ble_eq_true rfl) (Nat.le_of_ble_eq_true rfl) hS (Aa.mono (fun _ h => h) hS.1) (fun H locs hP _ _ hS => ?_)
      have hP : va_P D vcl [(h, .inr (0, [.int (nI A), .int (nI B), .int hd, .ref h1, .ref h2, .ref h3])), (h1, aN cI 1024 (addC cs (fpr A x pl B) B)), (h2, aN cI 6 (fpr A x pl B)), (h3, aN cI 6 pb)] H := hP
      have hD : va_D (Aa [h, h1, h2, h3] H0.size) [(h, .inr (0, [.int (nI A), .int (nI B), .int hd, .ref h1, .ref h2, .ref h3])), (h1, aN cI 1024 (addC cs (fpr A x pl B) B)), (h2, aN cI 6 (fpr A x pl B)), (h3, aN cI 6 pb)] := va_D.same2 [h, h1, h2, h3] hD rfl rfl
      refine lv_iconst (v := (nI 1)) hx hb d_C_put_63 (by decide) ?_
      exact mx_zret hx hb hr hlk d_C_put_64 (Nat.le_of_ble_eq_true rfl) (Nat.le_of_ble_eq_true rfl) hS.2.2 (rfl) (⟨by rw [hf]; rfl, by rw [hf]; exact hP⟩)
    | succ k ih_11 =>
      intro i hk hf  ls hl
      refine lv_iload_n hx hb d_C_put_11 rfl (lv_at hl 0 rfl) ?_
      refine lv_aload_n hx hb d_C_put_12 rfl (lv_at hl 1 rfl) ?_
      refine va_get (D := D) (ci := 0) (v := .int (nI B)) (C := R_C) (T := T_C) (N := 6) hx hb (us_C G hW) (fun _ h => h) hown hK hP 0 rfl rfl 1 (by decide) (fl_C_31 G hW) (u_same (args := ([.ref h, .long x] : List Value).toArray) (G.1.at 178 rfl rfl _ hW)) rfl d_C_put_13 ?_
      refine lv_icmp_ge (tgt := 58) hx hb d_C_put_16 (by decide) (fun c_16 => absurd c_16 (nI_ge (by omega) (by omega))) (fun c_16 => ?_)
      refine lv_aload_n hx hb d_C_put_19 rfl (lv_at hl 1 rfl) ?_
      refine va_get (D := D) (ci := 0) (v := .ref h1) (C := R_C) (T := T_C) (N := 6) hx hb (us_C G hW) (fun _ h => h) hown hK hP 0 rfl rfl 3 (by decide) (fl_C_11 G hW) (fun _ h9 => h9) rfl d_C_put_20 ?_
      refine lv_aload_n hx hb d_C_put_23 rfl (lv_at hl 1 rfl) ?_
      refine va_get (D := D) (ci := 0) (v := .ref h2) (C := R_C) (T := T_C) (N := 6) hx hb (us_C G hW) (fun _ h => h) hown hK hP 0 rfl rfl 4 (by decide) (fl_C_15 G hW) (fun _ h9 => h9) rfl d_C_put_24 ?_
      refine lv_iload_n hx hb d_C_put_27 rfl (lv_at hl 0 rfl) ?_
      refine ia_ld hx hb hK hP 2 (j := i) rfl (by omega) (by decide) d_C_put_28 ?_
      refine tp_i (y := (nI ((fpr A x pl B) i))) rfl ?_
      refine ia_ld hx hb hK hP 1 (j := ((fpr A x pl B) i)) rfl ((fpr_in hA (by omega))) (by decide) d_C_put_29 ?_
      refine tp_i (y := (nI (cs ((fpr A x pl B) i)))) rfl ?_
      refine lv_aload_n hx hb d_C_put_30 rfl (lv_at hl 1 rfl) ?_
      refine lv_aload_n hx hb d_C_put_31 rfl (lv_at hl 1 rfl) ?_
      refine va_get (D := D) (ci := 0) (v := .ref h2) (C := R_C) (T := T_C) (N := 6) hx hb (us_C G hW) (fun _ h => h) hown hK hP 0 rfl rfl 4 (by decide) (fl_C_15 G hW) (fun _ h9 => h9) rfl d_C_put_32 ?_
      refine lv_aload_n hx hb d_C_put_35 rfl (lv_at hl 1 rfl) ?_
      refine va_get (D := D) (ci := 0) (v := .ref h2) (C := R_C) (T := T_C) (N := 6) hx hb (us_C G hW) (fun _ h => h) hown hK hP 0 rfl rfl 4 (by decide) (fl_C_15 G hW) (fun _ h9 => h9) rfl d_C_put_36 ?_
      refine lv_iload_n hx hb d_C_put_39 rfl (lv_at hl 0 rfl) ?_
      refine ia_ld hx hb hK hP 2 (j := i) rfl (by omega) (by decide) d_C_put_40 ?_
      refine tp_i (y := (nI ((fpr A x pl B) i))) rfl ?_
      refine mx_callR (r := .int (nI (cnt (fpr A x pl B) ((fpr A x pl B) i) B))) (c_C_timesIn_2 G h h1 h2 h3 A B hd cs (fpr A x pl B) pb ((fpr A x pl B) i) hP hB (fun j hj => fpr_in hA hj) (fpr_in hA (by omega))) hW (iv_C_put_41 G hx hb hown hW (va_recv hK hP (ci := 0) (q0 := 0) rfl rfl) [.ref h2, .int (nI ((fpr A x pl B) i))] [.int (nI (cs ((fpr A x pl B) i)))] rfl) hml hl.1 (by rw [hb]; exact d_C_put_41) (cd_C_timesIn G hW) ⟨Nat.le_of_ble_eq_true rfl, Nat.le_of_ble_eq_true rfl⟩ rfl rfl (Nat.le_of_ble_eq_true rfl) (Nat.le_of_ble_eq_true rfl) (Nat.le_of_ble_eq_true rfl) ?_
      refine lv_iadd hx hb d_C_put_44 ?_
      refine tp_i (y := (nI (cs ((fpr A x pl B) i) + cnt (fpr A x pl B) ((fpr A x pl B) i) B))) (nI_add _ _) ?_
      refine lv_bipush (v := (nI 15)) hx hb d_C_put_45 (by decide) ?_
      refine lv_icmp_le (tgt := 52) hx hb d_C_put_47 (by decide) (fun c_47 => ?_) (fun c_47 => ?_)
      · refine lv_iinc (v := (nI (i + 1))) (lv' := [(3, .int (nI (i + 1))), (0, .ref h), (1, .long x)]) hx hb d_C_put_52 hl (k := 0) rfl (nI_1 _) (by decide) rfl (fun ls hl => ?_)
        refine lv_goto (tgt := 11) hx hb d_C_put_55 (by decide) ?_
        exact ih_11 (i + 1) (by omega) (allN_s hf (decide_eq_true ((nI_leI (by have := hc1 ((fpr A x pl B) i) (fpr_in hA (by omega)); have := cnt_le (fpr A x pl B) ((fpr A x pl B) i) B; omega) (by decide)).mp c_47))) ls (lv_sub hl [0, 1, 2] rfl)
      · refine lv_iconst (v := (nI 0)) hx hb d_C_put_50 (by decide) ?_
        exact mx_zret hx hb hr hlk d_C_put_51 (Nat.le_of_ble_eq_true rfl) (Nat.le_of_ble_eq_true rfl) hS.2.2 (rfl) (⟨by rw [allN_f (i := i) (by omega) (decide_eq_false (fun h9 => c_47 (nI_le h9 (by decide))))]; rfl, by rw [allN_f (i := i) (by omega) (decide_eq_false (fun h9 => c_47 (nI_le h9 (by decide))))]; exact hP⟩)
  exact loop_11 (B) (0) (by omega) (rfl) ls (lv_sub hl [0, 1, 2] rfl)

set_option maxHeartbeats 4000000 in
set_option maxRecDepth 100000 in
theorem c_C_take {l : Launch} {s0 : State} {D : va_G} {cI cF cJ : ClassId} (G : Gx l s0 D cI cF cJ) (h h1 h2 h3 A B : Nat) (hd : Int32) (cs pl pb : Nat → Nat) (x : Int64) {H0 : Heap} {A0 : Nat → Prop} (hP : va_P D vcl [(h, .inr (0, [.int (nI A), .int (nI B), .int hd, .ref h1, .ref h2, .ref h3])), (h1, aN cI 1024 cs), (h2, aN cI 6 pl), (h3, aN cI 6 pb)] H0) (hD : va_D A0 [(h, .inr (0, [.int (nI A), .int (nI B), .int hd, .ref h1, .ref h2, .ref h3])), (h1, aN cI 1024 cs), (h2, aN cI 6 pl), (h3, aN cI 6 pb)]) (hA : A ≤ 10) (hB : B ≤ 6) (hc1 : ∀ j, j < 1024 → cs j ≤ 15) : Mx l s0 y_C_take (.code y_C_take b_C_take 4 (some .boolean)) { frames := 3, cells := 0, slots := 0, locals := 66 } [.ref h, .long x] H0 (Aa [h, h1, h2, h3] H0.size) (Rw (.int (bI (allN (fitS cs (fpr A x pl B) B) B))) (fun H1 => va_P D vcl [(h, .inr (0, [.int (nI A), .int (nI B), .int hd, .ref h1, .ref h2, .ref h3])), (h1, aN cI 1024 (if (allN (fitS cs (fpr A x pl B) B) B) then subC cs (fpr A x pl B) B else cs)), (h2, aN cI 6 (fpr A x pl B)), (h3, aN cI 6 pb)] H1)) := by
  refine Mx.ofW (own := "FewBits$Counters") rfl rfl ?_
  rintro p e s m below meth c ⟨hx, hb, hml, hr, hown, hW, hlk⟩ hnm het hH
  have hK := G.k hW
  have hD := hD.aa (sz := H0.size)
  have hD : va_D (Aa [h, h1, h2, h3] H0.size) [(h, .inr (0, [.int (nI A), .int (nI B), .int hd, .ref h1, .ref h2, .ref h3])), (h1, aN cI 1024 cs), (h2, aN cI 6 pl), (h3, aN cI 6 pb)] := hD
  have hS : va_S (Aa [h, h1, h2, h3] H0.size) H0 H0 [] := va_S.rf
  have hl := lv_entry ([.ref h, .long x]) (n := 4) (Nat.le_of_ble_eq_true rfl)
  rw [lg_entry_eq]
  generalize (lg_sl ([.ref h, .long x]) ++ List.replicate (4 - (lg_sl ([.ref h, .long x])).length) Slot.unset).toArray = ls at hl ⊢
  have hl : lv_has ls 4 [(0, .ref h), (1, .long x)] := hl
  refine lv_aload_n hx hb d_C_take_0 rfl (lv_at hl 0 rfl) ?_
  refine lv_lload_n hx hb d_C_take_1 rfl (lv_at hl 1 rfl) ?_
  refine lv_aload_n hx hb d_C_take_2 rfl (lv_at hl 0 rfl) ?_
  refine va_get (D := D) (ci := 0) (v := .ref h2) (C := R_C) (T := T_C) (N := 6) hx hb (us_C G hW) (fun _ h => h) hown hK hP 0 rfl rfl 4 (by decide) (fl_C_15 G hW) (fun _ h9 => h9) rfl d_C_take_3 ?_
  refine mx_callN (c_C_findPlaces_2 G h h1 h2 h3 A B hd cs pl pb x hP hD hA hB) hW (iv_C_take_6 G hx hb hown hW (va_recv hK hP (ci := 0) (q0 := 0) rfl rfl) [.long x, .ref h2] [] rfl) hml hl.1 (by rw [hb]; exact d_C_take_6) (cd_C_findPlaces G hW) ⟨Nat.le_of_ble_eq_true rfl, Nat.le_of_ble_eq_true rfl⟩ (Nat.le_of_ble_eq_true rfl) (Nat.le_of_ble_eq_true rfl) (Nat.le_of_ble_eq_true rfl) hS (Aa.mono (fun _ h => h) hS.1) (fun H locs hP _ _ hS => ?_)
  have hP : va_P D vcl [(h, .inr (0, [.int (nI A), .int (nI B), .int hd, .ref h1, .ref h2, .ref h3])), (h1, aN cI 1024 cs), (h2, aN cI 6 (fpr A x pl B)), (h3, aN cI 6 pb)] H := hP
  have hD : va_D (Aa [h, h1, h2, h3] H0.size) [(h, .inr (0, [.int (nI A), .int (nI B), .int hd, .ref h1, .ref h2, .ref h3])), (h1, aN cI 1024 cs), (h2, aN cI 6 (fpr A x pl B)), (h3, aN cI 6 pb)] := va_D.same2 [h, h1, h2, h3] hD rfl rfl
  refine lv_iconst (v := (nI 0)) hx hb d_C_take_9 (by decide) ?_
  refine lv_istore_n (lv' := [(3, .int (nI 0)), (0, .ref h), (1, .long x)]) hx hb d_C_take_10 rfl hl (by decide) rfl (fun ls hl => ?_)
  have loop_11 : ∀ (k : Nat) (i : Nat), (i + k = B) → (allN (fitS cs (fpr A x pl B) B) i = true) → ∀ (ls : Array Slot), lv_has ls 4 [(3, .int (nI i)), (0, .ref h), (1, .long x)] → W p l e { frames := 3, cells := 0, slots := 0, locals := 66 } s m ([.ref h, .long x] : List Value).toArray below meth c H locs 0 0 (MQx below (Rw (.int (bI (allN (fitS cs (fpr A x pl B) B) B))) (fun H1 => va_P D vcl [(h, .inr (0, [.int (nI A), .int (nI B), .int hd, .ref h1, .ref h2, .ref h3])), (h1, aN cI 1024 (if (allN (fitS cs (fpr A x pl B) B) B) then subC cs (fpr A x pl B) B else cs)), (h2, aN cI 6 (fpr A x pl B)), (h3, aN cI 6 pb)] H1)) s 0 0 (Aa [h, h1, h2, h3] H0.size)) (F0 m 11 ls []) := by
    intro k
    induction k with
    | zero =>
      intro i hk hf  ls hl
      refine lv_iload_n hx hb d_C_take_11 rfl (lv_at hl 0 rfl) ?_
      refine lv_aload_n hx hb d_C_take_12 rfl (lv_at hl 1 rfl) ?_
      refine va_get (D := D) (ci := 0) (v := .int (nI B)) (C := R_C) (T := T_C) (N := 6) hx hb (us_C G hW) (fun _ h => h) hown hK hP 0 rfl rfl 1 (by decide) (fl_C_31 G hW) (u_same (args := ([.ref h, .long x] : List Value).toArray) (G.1.at 178 rfl rfl _ hW)) rfl d_C_take_13 ?_
      refine lv_icmp_ge (tgt := 55) hx hb d_C_take_16 (by decide) (fun c_16 => ?_) (fun c_16 => absurd (nI_le (by omega) (by omega)) c_16)
      refine lv_aload_n hx hb d_C_take_55 rfl (lv_at hl 1 rfl) ?_
      refine lv_iconst (v := (-1)) hx hb d_C_take_56 (by decide) ?_
      rw [show i = B by omega] at hf
      refine mx_callN (c_C_countBy_m G h h1 h2 h3 A B hd cs (fpr A x pl B) pb hP hD hB (fun j hj => fpr_in hA hj) (fun j hj => of_decide_eq_true (allN_iff.mp hf j hj))) hW (iv_C_take_57 G hx hb hown hW (va_recv hK hP (ci := 0) (q0 := 0) rfl rfl) [.int (-1)] [] rfl) hml hl.1 (by rw [hb]; exact d_C_take_57) (cd_C_countBy G hW) ⟨Nat.le_of_ble_eq_true rfl, Nat.le_of_ble_eq_true rfl⟩ (Nat.le_of_ble_eq_true rfl) (Nat.le_of_ble_eq_true rfl) (Nat.le_of_ble_eq_true rfl) hS (Aa.mono (fun _ h => h) hS.1) (fun H locs hP _ _ hS => ?_)
      have hP : va_P D vcl [(h, .inr (0, [.int (nI A), .int (nI B), .int hd, .ref h1, .ref h2, .ref h3])), (h1, aN cI 1024 (subC cs (fpr A x pl B) B)), (h2, aN cI 6 (fpr A x pl B)), (h3, aN cI 6 pb)] H := hP
      have hD : va_D (Aa [h, h1, h2, h3] H0.size) [(h, .inr (0, [.int (nI A), .int (nI B), .int hd, .ref h1, .ref h2, .ref h3])), (h1, aN cI 1024 (subC cs (fpr A x pl B) B)), (h2, aN cI 6 (fpr A x pl B)), (h3, aN cI 6 pb)] := va_D.same2 [h, h1, h2, h3] hD rfl rfl
      refine lv_iconst (v := (nI 1)) hx hb d_C_take_60 (by decide) ?_
      exact mx_zret hx hb hr hlk d_C_take_61 (Nat.le_of_ble_eq_true rfl) (Nat.le_of_ble_eq_true rfl) hS.2.2 (rfl) (⟨by rw [hf]; rfl, by rw [hf]; exact hP⟩)
    | succ k ih_11 =>
      intro i hk hf  ls hl
      refine lv_iload_n hx hb d_C_take_11 rfl (lv_at hl 0 rfl) ?_
      refine lv_aload_n hx hb d_C_take_12 rfl (lv_at hl 1 rfl) ?_
      refine va_get (D := D) (ci := 0) (v := .int (nI B)) (C := R_C) (T := T_C) (N := 6) hx hb (us_C G hW) (fun _ h => h) hown hK hP 0 rfl rfl 1 (by decide) (fl_C_31 G hW) (u_same (args := ([.ref h, .long x] : List Value).toArray) (G.1.at 178 rfl rfl _ hW)) rfl d_C_take_13 ?_
      refine lv_icmp_ge (tgt := 55) hx hb d_C_take_16 (by decide) (fun c_16 => absurd c_16 (nI_ge (by omega) (by omega))) (fun c_16 => ?_)
      refine lv_aload_n hx hb d_C_take_19 rfl (lv_at hl 1 rfl) ?_
      refine va_get (D := D) (ci := 0) (v := .ref h1) (C := R_C) (T := T_C) (N := 6) hx hb (us_C G hW) (fun _ h => h) hown hK hP 0 rfl rfl 3 (by decide) (fl_C_11 G hW) (fun _ h9 => h9) rfl d_C_take_20 ?_
      refine lv_aload_n hx hb d_C_take_23 rfl (lv_at hl 1 rfl) ?_
      refine va_get (D := D) (ci := 0) (v := .ref h2) (C := R_C) (T := T_C) (N := 6) hx hb (us_C G hW) (fun _ h => h) hown hK hP 0 rfl rfl 4 (by decide) (fl_C_15 G hW) (fun _ h9 => h9) rfl d_C_take_24 ?_
      refine lv_iload_n hx hb d_C_take_27 rfl (lv_at hl 0 rfl) ?_
      refine ia_ld hx hb hK hP 2 (j := i) rfl (by omega) (by decide) d_C_take_28 ?_
      refine tp_i (y := (nI ((fpr A x pl B) i))) rfl ?_
      refine ia_ld hx hb hK hP 1 (j := ((fpr A x pl B) i)) rfl ((fpr_in hA (by omega))) (by decide) d_C_take_29 ?_
      refine tp_i (y := (nI (cs ((fpr A x pl B) i)))) rfl ?_
      refine lv_aload_n hx hb d_C_take_30 rfl (lv_at hl 1 rfl) ?_
      refine lv_aload_n hx hb d_C_take_31 rfl (lv_at hl 1 rfl) ?_
      refine va_get (D := D) (ci := 0) (v := .ref h2) (C := R_C) (T := T_C) (N := 6) hx hb (us_C G hW) (fun _ h => h) hown hK hP 0 rfl rfl 4 (by decide) (fl_C_15 G hW) (fun _ h9 => h9) rfl d_C_take_32 ?_
      refine lv_aload_n hx hb d_C_take_35 rfl (lv_at hl 1 rfl) ?_
      refine va_get (D := D) (ci := 0) (v := .ref h2) (C := R_C) (T := T_C) (N := 6) hx hb (us_C G hW) (fun _ h => h) hown hK hP 0 rfl rfl 4 (by decide) (fl_C_15 G hW) (fun _ h9 => h9) rfl d_C_take_36 ?_
      refine lv_iload_n hx hb d_C_take_39 rfl (lv_at hl 0 rfl) ?_
      refine ia_ld hx hb hK hP 2 (j := i) rfl (by omega) (by decide) d_C_take_40 ?_
      refine tp_i (y := (nI ((fpr A x pl B) i))) rfl ?_
      refine mx_callR (r := .int (nI (cnt (fpr A x pl B) ((fpr A x pl B) i) B))) (c_C_timesIn_2 G h h1 h2 h3 A B hd cs (fpr A x pl B) pb ((fpr A x pl B) i) hP hB (fun j hj => fpr_in hA hj) (fpr_in hA (by omega))) hW (iv_C_take_41 G hx hb hown hW (va_recv hK hP (ci := 0) (q0 := 0) rfl rfl) [.ref h2, .int (nI ((fpr A x pl B) i))] [.int (nI (cs ((fpr A x pl B) i)))] rfl) hml hl.1 (by rw [hb]; exact d_C_take_41) (cd_C_timesIn G hW) ⟨Nat.le_of_ble_eq_true rfl, Nat.le_of_ble_eq_true rfl⟩ rfl rfl (Nat.le_of_ble_eq_true rfl) (Nat.le_of_ble_eq_true rfl) (Nat.le_of_ble_eq_true rfl) ?_
      refine lv_icmp_ge (tgt := 49) hx hb d_C_take_44 (by decide) (fun c_44 => ?_) (fun c_44 => ?_)
      · refine lv_iinc (v := (nI (i + 1))) (lv' := [(3, .int (nI (i + 1))), (0, .ref h), (1, .long x)]) hx hb d_C_take_49 hl (k := 0) rfl (nI_1 _) (by decide) rfl (fun ls hl => ?_)
        refine lv_goto (tgt := 11) hx hb d_C_take_52 (by decide) ?_
        exact ih_11 (i + 1) (by omega) (allN_s hf (decide_eq_true ((nI_leI (by have := cnt_le (fpr A x pl B) ((fpr A x pl B) i) B; omega) (by have := hc1 ((fpr A x pl B) i) (fpr_in hA (by omega)); omega)).mp c_44))) ls (lv_sub hl [0, 1, 2] rfl)
      · refine lv_iconst (v := (nI 0)) hx hb d_C_take_47 (by decide) ?_
        exact mx_zret hx hb hr hlk d_C_take_48 (Nat.le_of_ble_eq_true rfl) (Nat.le_of_ble_eq_true rfl) hS.2.2 (rfl) (⟨by rw [allN_f (i := i) (by omega) (decide_eq_false (fun h9 => c_44 (nI_le h9 (by have := hc1 ((fpr A x pl B) i) (fpr_in hA (by omega)); omega))))]; rfl, by rw [allN_f (i := i) (by omega) (decide_eq_false (fun h9 => c_44 (nI_le h9 (by have := hc1 ((fpr A x pl B) i) (fpr_in hA (by omega)); omega))))]; exact hP⟩)
  exact loop_11 (B) (0) (by omega) (rfl) ls (lv_sub hl [0, 1, 2] rfl)

set_option maxHeartbeats 4000000 in
set_option maxRecDepth 100000 in
theorem c_C_holds {l : Launch} {s0 : State} {D : va_G} {cI cF cJ : ClassId} (G : Gx l s0 D cI cF cJ) (h h1 h2 h3 A B : Nat) (hd : Int32) (cs pl pb : Nat → Nat) (x : Int64) {H0 : Heap} {A0 : Nat → Prop} (hP : va_P D vcl [(h, .inr (0, [.int (nI A), .int (nI B), .int hd, .ref h1, .ref h2, .ref h3])), (h1, aN cI 1024 cs), (h2, aN cI 6 pl), (h3, aN cI 6 pb)] H0) (hD : va_D A0 [(h, .inr (0, [.int (nI A), .int (nI B), .int hd, .ref h1, .ref h2, .ref h3])), (h1, aN cI 1024 cs), (h2, aN cI 6 pl), (h3, aN cI 6 pb)]) (hA : A ≤ 10) (hB : B ≤ 6) (hc1 : ∀ j, j < 1024 → cs j ≤ 15) : Mx l s0 y_C_holds (.code y_C_holds b_C_holds 4 (some .boolean)) { frames := 3, cells := 0, slots := 0, locals := 66 } [.ref h, .long x] H0 (Aa [h, h1, h2, h3] H0.size) (Rw (.int (bI (allN (isC cs (fpr A x pl B)) B))) (fun H1 => va_P D vcl [(h, .inr (0, [.int (nI A), .int (nI B), .int hd, .ref h1, .ref h2, .ref h3])), (h1, aN cI 1024 cs), (h2, aN cI 6 (fpr A x pl B)), (h3, aN cI 6 pb)] H1)) := by
  refine Mx.ofW (own := "FewBits$Counters") rfl rfl ?_
  rintro p e s m below meth c ⟨hx, hb, hml, hr, hown, hW, hlk⟩ hnm het hH
  have hK := G.k hW
  have hD := hD.aa (sz := H0.size)
  have hD : va_D (Aa [h, h1, h2, h3] H0.size) [(h, .inr (0, [.int (nI A), .int (nI B), .int hd, .ref h1, .ref h2, .ref h3])), (h1, aN cI 1024 cs), (h2, aN cI 6 pl), (h3, aN cI 6 pb)] := hD
  have hS : va_S (Aa [h, h1, h2, h3] H0.size) H0 H0 [] := va_S.rf
  have hl := lv_entry ([.ref h, .long x]) (n := 4) (Nat.le_of_ble_eq_true rfl)
  rw [lg_entry_eq]
  generalize (lg_sl ([.ref h, .long x]) ++ List.replicate (4 - (lg_sl ([.ref h, .long x])).length) Slot.unset).toArray = ls at hl ⊢
  have hl : lv_has ls 4 [(0, .ref h), (1, .long x)] := hl
  refine lv_aload_n hx hb d_C_holds_0 rfl (lv_at hl 0 rfl) ?_
  refine lv_lload_n hx hb d_C_holds_1 rfl (lv_at hl 1 rfl) ?_
  refine lv_aload_n hx hb d_C_holds_2 rfl (lv_at hl 0 rfl) ?_
  refine va_get (D := D) (ci := 0) (v := .ref h2) (C := R_C) (T := T_C) (N := 6) hx hb (us_C G hW) (fun _ h => h) hown hK hP 0 rfl rfl 4 (by decide) (fl_C_15 G hW) (fun _ h9 => h9) rfl d_C_holds_3 ?_
  refine mx_callN (c_C_findPlaces_2 G h h1 h2 h3 A B hd cs pl pb x hP hD hA hB) hW (iv_C_holds_6 G hx hb hown hW (va_recv hK hP (ci := 0) (q0 := 0) rfl rfl) [.long x, .ref h2] [] rfl) hml hl.1 (by rw [hb]; exact d_C_holds_6) (cd_C_findPlaces G hW) ⟨Nat.le_of_ble_eq_true rfl, Nat.le_of_ble_eq_true rfl⟩ (Nat.le_of_ble_eq_true rfl) (Nat.le_of_ble_eq_true rfl) (Nat.le_of_ble_eq_true rfl) hS (Aa.mono (fun _ h => h) hS.1) (fun H locs hP _ _ hS => ?_)
  have hP : va_P D vcl [(h, .inr (0, [.int (nI A), .int (nI B), .int hd, .ref h1, .ref h2, .ref h3])), (h1, aN cI 1024 cs), (h2, aN cI 6 (fpr A x pl B)), (h3, aN cI 6 pb)] H := hP
  have hD : va_D (Aa [h, h1, h2, h3] H0.size) [(h, .inr (0, [.int (nI A), .int (nI B), .int hd, .ref h1, .ref h2, .ref h3])), (h1, aN cI 1024 cs), (h2, aN cI 6 (fpr A x pl B)), (h3, aN cI 6 pb)] := va_D.same2 [h, h1, h2, h3] hD rfl rfl
  refine lv_iconst (v := (nI 0)) hx hb d_C_holds_9 (by decide) ?_
  refine lv_istore_n (lv' := [(3, .int (nI 0)), (0, .ref h), (1, .long x)]) hx hb d_C_holds_10 rfl hl (by decide) rfl (fun ls hl => ?_)
  have loop_11 : ∀ (k : Nat) (i : Nat), (i + k = B) → (allN (isC cs (fpr A x pl B)) i = true) → ∀ (ls : Array Slot), lv_has ls 4 [(3, .int (nI i)), (0, .ref h), (1, .long x)] → W p l e { frames := 3, cells := 0, slots := 0, locals := 66 } s m ([.ref h, .long x] : List Value).toArray below meth c H locs 0 0 (MQx below (Rw (.int (bI (allN (isC cs (fpr A x pl B)) B))) (fun H1 => va_P D vcl [(h, .inr (0, [.int (nI A), .int (nI B), .int hd, .ref h1, .ref h2, .ref h3])), (h1, aN cI 1024 cs), (h2, aN cI 6 (fpr A x pl B)), (h3, aN cI 6 pb)] H1)) s 0 0 (Aa [h, h1, h2, h3] H0.size)) (F0 m 11 ls []) := by
    intro k
    induction k with
    | zero =>
      intro i hk hf  ls hl
      refine lv_iload_n hx hb d_C_holds_11 rfl (lv_at hl 0 rfl) ?_
      refine lv_aload_n hx hb d_C_holds_12 rfl (lv_at hl 1 rfl) ?_
      refine va_get (D := D) (ci := 0) (v := .int (nI B)) (C := R_C) (T := T_C) (N := 6) hx hb (us_C G hW) (fun _ h => h) hown hK hP 0 rfl rfl 1 (by decide) (fl_C_31 G hW) (u_same (args := ([.ref h, .long x] : List Value).toArray) (G.1.at 178 rfl rfl _ hW)) rfl d_C_holds_13 ?_
      refine lv_icmp_ge (tgt := 41) hx hb d_C_holds_16 (by decide) (fun c_16 => ?_) (fun c_16 => absurd (nI_le (by omega) (by omega)) c_16)
      refine lv_iconst (v := (nI 1)) hx hb d_C_holds_41 (by decide) ?_
      exact mx_zret hx hb hr hlk d_C_holds_42 (Nat.le_of_ble_eq_true rfl) (Nat.le_of_ble_eq_true rfl) hS.2.2 (rfl) (⟨by rw [show i = B by omega] at hf; rw [hf]; rfl, hP⟩)
    | succ k ih_11 =>
      intro i hk hf  ls hl
      refine lv_iload_n hx hb d_C_holds_11 rfl (lv_at hl 0 rfl) ?_
      refine lv_aload_n hx hb d_C_holds_12 rfl (lv_at hl 1 rfl) ?_
      refine va_get (D := D) (ci := 0) (v := .int (nI B)) (C := R_C) (T := T_C) (N := 6) hx hb (us_C G hW) (fun _ h => h) hown hK hP 0 rfl rfl 1 (by decide) (fl_C_31 G hW) (u_same (args := ([.ref h, .long x] : List Value).toArray) (G.1.at 178 rfl rfl _ hW)) rfl d_C_holds_13 ?_
      refine lv_icmp_ge (tgt := 41) hx hb d_C_holds_16 (by decide) (fun c_16 => absurd c_16 (nI_ge (by omega) (by omega))) (fun c_16 => ?_)
      refine lv_aload_n hx hb d_C_holds_19 rfl (lv_at hl 1 rfl) ?_
      refine va_get (D := D) (ci := 0) (v := .ref h1) (C := R_C) (T := T_C) (N := 6) hx hb (us_C G hW) (fun _ h => h) hown hK hP 0 rfl rfl 3 (by decide) (fl_C_11 G hW) (fun _ h9 => h9) rfl d_C_holds_20 ?_
      refine lv_aload_n hx hb d_C_holds_23 rfl (lv_at hl 1 rfl) ?_
      refine va_get (D := D) (ci := 0) (v := .ref h2) (C := R_C) (T := T_C) (N := 6) hx hb (us_C G hW) (fun _ h => h) hown hK hP 0 rfl rfl 4 (by decide) (fl_C_15 G hW) (fun _ h9 => h9) rfl d_C_holds_24 ?_
      refine lv_iload_n hx hb d_C_holds_27 rfl (lv_at hl 0 rfl) ?_
      refine ia_ld hx hb hK hP 2 (j := i) rfl (by omega) (by decide) d_C_holds_28 ?_
      refine tp_i (y := (nI ((fpr A x pl B) i))) rfl ?_
      refine ia_ld hx hb hK hP 1 (j := ((fpr A x pl B) i)) rfl ((fpr_in hA (by omega))) (by decide) d_C_holds_29 ?_
      refine tp_i (y := (nI (cs ((fpr A x pl B) i)))) rfl ?_
      refine lv_if_ne (tgt := 35) hx hb d_C_holds_30 (by decide) (fun c_30 => ?_) (fun c_30 => ?_)
      · refine lv_iinc (v := (nI (i + 1))) (lv' := [(3, .int (nI (i + 1))), (0, .ref h), (1, .long x)]) hx hb d_C_holds_35 hl (k := 0) rfl (nI_1 _) (by decide) rfl (fun ls hl => ?_)
        refine lv_goto (tgt := 11) hx hb d_C_holds_38 (by decide) ?_
        exact ih_11 (i + 1) (by omega) (allN_s hf (decide_eq_true (Nat.pos_of_ne_zero (fun h9 => c_30 (by rw [h9]; rfl))))) ls (lv_sub hl [0, 1, 2] rfl)
      · refine lv_iconst (v := (nI 0)) hx hb d_C_holds_33 (by decide) ?_
        exact mx_zret hx hb hr hlk d_C_holds_34 (Nat.le_of_ble_eq_true rfl) (Nat.le_of_ble_eq_true rfl) hS.2.2 (rfl) (⟨by rw [allN_f (i := i) (by omega) (decide_eq_false (by rw [(nI_eq (b := 0) (by have := hc1 ((fpr A x pl B) i) (fpr_in hA (by omega)); omega) (by decide)).mp c_30]; decide))]; rfl, hP⟩)
  exact loop_11 (B) (0) (by omega) (rfl) ls (lv_sub hl [0, 1, 2] rfl)

set_option maxHeartbeats 4000000 in
set_option maxRecDepth 100000 in
theorem c_C_looksAlike {l : Launch} {s0 : State} {D : va_G} {cI cF cJ : ClassId} (G : Gx l s0 D cI cF cJ) (h h1 h2 h3 A B : Nat) (hd : Int32) (cs pl pb : Nat → Nat) (x y : Int64) {H0 : Heap} {A0 : Nat → Prop} (hP : va_P D vcl [(h, .inr (0, [.int (nI A), .int (nI B), .int hd, .ref h1, .ref h2, .ref h3])), (h1, aN cI 1024 cs), (h2, aN cI 6 pl), (h3, aN cI 6 pb)] H0) (hD : va_D A0 [(h, .inr (0, [.int (nI A), .int (nI B), .int hd, .ref h1, .ref h2, .ref h3])), (h1, aN cI 1024 cs), (h2, aN cI 6 pl), (h3, aN cI 6 pb)]) (hA : A ≤ 10) (hB : B ≤ 6) : Mx l s0 y_C_looksAlike (.code y_C_looksAlike b_C_looksAlike 6 (some .boolean)) { frames := 3, cells := 0, slots := 0, locals := 66 } [.ref h, .long x, .long y] H0 (Aa [h, h1, h2, h3] H0.size) (Rw (.int (bI (allN (sameC (fpr A x pl B) (fpr A y pb B) B) B))) (fun H1 => va_P D vcl [(h, .inr (0, [.int (nI A), .int (nI B), .int hd, .ref h1, .ref h2, .ref h3])), (h1, aN cI 1024 cs), (h2, aN cI 6 (fpr A x pl B)), (h3, aN cI 6 (fpr A y pb B))] H1)) := by
  refine Mx.ofW (own := "FewBits$Counters") rfl rfl ?_
  rintro p e s m below meth c ⟨hx, hb, hml, hr, hown, hW, hlk⟩ hnm het hH
  have hK := G.k hW
  have hD := hD.aa (sz := H0.size)
  have hD : va_D (Aa [h, h1, h2, h3] H0.size) [(h, .inr (0, [.int (nI A), .int (nI B), .int hd, .ref h1, .ref h2, .ref h3])), (h1, aN cI 1024 cs), (h2, aN cI 6 pl), (h3, aN cI 6 pb)] := hD
  have hS : va_S (Aa [h, h1, h2, h3] H0.size) H0 H0 [] := va_S.rf
  have hl := lv_entry ([.ref h, .long x, .long y]) (n := 6) (Nat.le_of_ble_eq_true rfl)
  rw [lg_entry_eq]
  generalize (lg_sl ([.ref h, .long x, .long y]) ++ List.replicate (6 - (lg_sl ([.ref h, .long x, .long y])).length) Slot.unset).toArray = ls at hl ⊢
  have hl : lv_has ls 6 [(0, .ref h), (1, .long x), (3, .long y)] := hl
  refine lv_aload_n hx hb d_C_looksAlike_0 rfl (lv_at hl 0 rfl) ?_
  refine lv_lload_n hx hb d_C_looksAlike_1 rfl (lv_at hl 1 rfl) ?_
  refine lv_aload_n hx hb d_C_looksAlike_2 rfl (lv_at hl 0 rfl) ?_
  refine va_get (D := D) (ci := 0) (v := .ref h2) (C := R_C) (T := T_C) (N := 6) hx hb (us_C G hW) (fun _ h => h) hown hK hP 0 rfl rfl 4 (by decide) (fl_C_15 G hW) (fun _ h9 => h9) rfl d_C_looksAlike_3 ?_
  refine mx_callN (c_C_findPlaces_2 G h h1 h2 h3 A B hd cs pl pb x hP hD hA hB) hW (iv_C_looksAlike_6 G hx hb hown hW (va_recv hK hP (ci := 0) (q0 := 0) rfl rfl) [.long x, .ref h2] [] rfl) hml hl.1 (by rw [hb]; exact d_C_looksAlike_6) (cd_C_findPlaces G hW) ⟨Nat.le_of_ble_eq_true rfl, Nat.le_of_ble_eq_true rfl⟩ (Nat.le_of_ble_eq_true rfl) (Nat.le_of_ble_eq_true rfl) (Nat.le_of_ble_eq_true rfl) hS (Aa.mono (fun _ h => h) hS.1) (fun H locs hP _ _ hS => ?_)
  have hP : va_P D vcl [(h, .inr (0, [.int (nI A), .int (nI B), .int hd, .ref h1, .ref h2, .ref h3])), (h1, aN cI 1024 cs), (h2, aN cI 6 (fpr A x pl B)), (h3, aN cI 6 pb)] H := hP
  have hD : va_D (Aa [h, h1, h2, h3] H0.size) [(h, .inr (0, [.int (nI A), .int (nI B), .int hd, .ref h1, .ref h2, .ref h3])), (h1, aN cI 1024 cs), (h2, aN cI 6 (fpr A x pl B)), (h3, aN cI 6 pb)] := va_D.same2 [h, h1, h2, h3] hD rfl rfl
  refine lv_aload_n hx hb d_C_looksAlike_9 rfl (lv_at hl 0 rfl) ?_
  refine lv_lload_n hx hb d_C_looksAlike_10 rfl (lv_at hl 2 rfl) ?_
  refine lv_aload_n hx hb d_C_looksAlike_11 rfl (lv_at hl 0 rfl) ?_
  refine va_get (D := D) (ci := 0) (v := .ref h3) (C := R_C) (T := T_C) (N := 6) hx hb (us_C G hW) (fun _ h => h) hown hK hP 0 rfl rfl 5 (by decide) (fl_C_18 G hW) (fun _ h9 => h9) rfl d_C_looksAlike_12 ?_
  refine mx_callN (c_C_findPlaces_3 G h h1 h2 h3 A B hd cs (fpr A x pl B) pb y hP hD hA hB) hW (iv_C_looksAlike_15 G hx hb hown hW (va_recv hK hP (ci := 0) (q0 := 0) rfl rfl) [.long y, .ref h3] [] rfl) hml hl.1 (by rw [hb]; exact d_C_looksAlike_15) (cd_C_findPlaces G hW) ⟨Nat.le_of_ble_eq_true rfl, Nat.le_of_ble_eq_true rfl⟩ (Nat.le_of_ble_eq_true rfl) (Nat.le_of_ble_eq_true rfl) (Nat.le_of_ble_eq_true rfl) hS (Aa.mono (fun _ h => h) hS.1) (fun H locs hP _ _ hS => ?_)
  have hP : va_P D vcl [(h, .inr (0, [.int (nI A), .int (nI B), .int hd, .ref h1, .ref h2, .ref h3])), (h1, aN cI 1024 cs), (h2, aN cI 6 (fpr A x pl B)), (h3, aN cI 6 (fpr A y pb B))] H := hP
  have hD : va_D (Aa [h, h1, h2, h3] H0.size) [(h, .inr (0, [.int (nI A), .int (nI B), .int hd, .ref h1, .ref h2, .ref h3])), (h1, aN cI 1024 cs), (h2, aN cI 6 (fpr A x pl B)), (h3, aN cI 6 (fpr A y pb B))] := va_D.same2 [h, h1, h2, h3] hD rfl rfl
  refine lv_iconst (v := (nI 0)) hx hb d_C_looksAlike_18 (by decide) ?_
  refine lv_istore (lv' := [(5, .int (nI 0)), (0, .ref h), (1, .long x), (3, .long y)]) hx hb d_C_looksAlike_19 hl (by decide) rfl (fun ls hl => ?_)
  have loop_21 : ∀ (k : Nat) (i : Nat), (i + k = B) → (allN (sameC (fpr A x pl B) (fpr A y pb B) B) i = true) → ∀ (ls : Array Slot), lv_has ls 6 [(5, .int (nI i)), (0, .ref h), (1, .long x), (3, .long y)] → W p l e { frames := 3, cells := 0, slots := 0, locals := 66 } s m ([.ref h, .long x, .long y] : List Value).toArray below meth c H locs 0 0 (MQx below (Rw (.int (bI (allN (sameC (fpr A x pl B) (fpr A y pb B) B) B))) (fun H1 => va_P D vcl [(h, .inr (0, [.int (nI A), .int (nI B), .int hd, .ref h1, .ref h2, .ref h3])), (h1, aN cI 1024 cs), (h2, aN cI 6 (fpr A x pl B)), (h3, aN cI 6 (fpr A y pb B))] H1)) s 0 0 (Aa [h, h1, h2, h3] H0.size)) (F0 m 21 ls []) := by
    intro k
    induction k with
    | zero =>
      intro i hk hf  ls hl
      refine lv_iload hx hb d_C_looksAlike_21 (lv_at hl 0 rfl) ?_
      refine lv_aload_n hx hb d_C_looksAlike_23 rfl (lv_at hl 1 rfl) ?_
      refine va_get (D := D) (ci := 0) (v := .int (nI B)) (C := R_C) (T := T_C) (N := 6) hx hb (us_C G hW) (fun _ h => h) hown hK hP 0 rfl rfl 1 (by decide) (fl_C_31 G hW) (u_same (args := ([.ref h, .long x, .long y] : List Value).toArray) (G.1.at 178 rfl rfl _ hW)) rfl d_C_looksAlike_24 ?_
      refine lv_icmp_ge (tgt := 71) hx hb d_C_looksAlike_27 (by decide) (fun c_27 => ?_) (fun c_27 => absurd (nI_le (by omega) (by omega)) c_27)
      refine lv_iconst (v := (nI 1)) hx hb d_C_looksAlike_71 (by decide) ?_
      exact mx_zret hx hb hr hlk d_C_looksAlike_72 (Nat.le_of_ble_eq_true rfl) (Nat.le_of_ble_eq_true rfl) hS.2.2 (rfl) (⟨by rw [show i = B by omega] at hf; rw [hf]; rfl, hP⟩)
    | succ k ih_21 =>
      intro i hk hf  ls hl
      refine lv_iload hx hb d_C_looksAlike_21 (lv_at hl 0 rfl) ?_
      refine lv_aload_n hx hb d_C_looksAlike_23 rfl (lv_at hl 1 rfl) ?_
      refine va_get (D := D) (ci := 0) (v := .int (nI B)) (C := R_C) (T := T_C) (N := 6) hx hb (us_C G hW) (fun _ h => h) hown hK hP 0 rfl rfl 1 (by decide) (fl_C_31 G hW) (u_same (args := ([.ref h, .long x, .long y] : List Value).toArray) (G.1.at 178 rfl rfl _ hW)) rfl d_C_looksAlike_24 ?_
      refine lv_icmp_ge (tgt := 71) hx hb d_C_looksAlike_27 (by decide) (fun c_27 => absurd c_27 (nI_ge (by omega) (by omega))) (fun c_27 => ?_)
      refine lv_aload_n hx hb d_C_looksAlike_30 rfl (lv_at hl 1 rfl) ?_
      refine lv_aload_n hx hb d_C_looksAlike_31 rfl (lv_at hl 1 rfl) ?_
      refine va_get (D := D) (ci := 0) (v := .ref h2) (C := R_C) (T := T_C) (N := 6) hx hb (us_C G hW) (fun _ h => h) hown hK hP 0 rfl rfl 4 (by decide) (fl_C_15 G hW) (fun _ h9 => h9) rfl d_C_looksAlike_32 ?_
      refine lv_aload_n hx hb d_C_looksAlike_35 rfl (lv_at hl 1 rfl) ?_
      refine va_get (D := D) (ci := 0) (v := .ref h2) (C := R_C) (T := T_C) (N := 6) hx hb (us_C G hW) (fun _ h => h) hown hK hP 0 rfl rfl 4 (by decide) (fl_C_15 G hW) (fun _ h9 => h9) rfl d_C_looksAlike_36 ?_
      refine lv_iload hx hb d_C_looksAlike_39 (lv_at hl 0 rfl) ?_
      refine ia_ld hx hb hK hP 2 (j := i) rfl (by omega) (by decide) d_C_looksAlike_41 ?_
      refine tp_i (y := (nI ((fpr A x pl B) i))) rfl ?_
      refine mx_callR (r := .int (nI (cnt (fpr A x pl B) ((fpr A x pl B) i) B))) (c_C_timesIn_2 G h h1 h2 h3 A B hd cs (fpr A x pl B) (fpr A y pb B) ((fpr A x pl B) i) hP hB (fun j hj => fpr_in hA hj) (fpr_in hA (by omega))) hW (iv_C_looksAlike_42 G hx hb hown hW (va_recv hK hP (ci := 0) (q0 := 0) rfl rfl) [.ref h2, .int (nI ((fpr A x pl B) i))] [] rfl) hml hl.1 (by rw [hb]; exact d_C_looksAlike_42) (cd_C_timesIn G hW) ⟨Nat.le_of_ble_eq_true rfl, Nat.le_of_ble_eq_true rfl⟩ rfl rfl (Nat.le_of_ble_eq_true rfl) (Nat.le_of_ble_eq_true rfl) (Nat.le_of_ble_eq_true rfl) ?_
      refine lv_aload_n hx hb d_C_looksAlike_45 rfl (lv_at hl 1 rfl) ?_
      refine lv_aload_n hx hb d_C_looksAlike_46 rfl (lv_at hl 1 rfl) ?_
      refine va_get (D := D) (ci := 0) (v := .ref h3) (C := R_C) (T := T_C) (N := 6) hx hb (us_C G hW) (fun _ h => h) hown hK hP 0 rfl rfl 5 (by decide) (fl_C_18 G hW) (fun _ h9 => h9) rfl d_C_looksAlike_47 ?_
      refine lv_aload_n hx hb d_C_looksAlike_50 rfl (lv_at hl 1 rfl) ?_
      refine va_get (D := D) (ci := 0) (v := .ref h2) (C := R_C) (T := T_C) (N := 6) hx hb (us_C G hW) (fun _ h => h) hown hK hP 0 rfl rfl 4 (by decide) (fl_C_15 G hW) (fun _ h9 => h9) rfl d_C_looksAlike_51 ?_
      refine lv_iload hx hb d_C_looksAlike_54 (lv_at hl 0 rfl) ?_
      refine ia_ld hx hb hK hP 2 (j := i) rfl (by omega) (by decide) d_C_looksAlike_56 ?_
      refine tp_i (y := (nI ((fpr A x pl B) i))) rfl ?_
      refine mx_callR (r := .int (nI (cnt (fpr A y pb B) ((fpr A x pl B) i) B))) (c_C_timesIn_3 G h h1 h2 h3 A B hd cs (fpr A x pl B) (fpr A y pb B) ((fpr A x pl B) i) hP hB (fun j hj => fpr_in hA hj) (fpr_in hA (by omega))) hW (iv_C_looksAlike_57 G hx hb hown hW (va_recv hK hP (ci := 0) (q0 := 0) rfl rfl) [.ref h3, .int (nI ((fpr A x pl B) i))] [.int (nI (cnt (fpr A x pl B) ((fpr A x pl B) i) B))] rfl) hml hl.1 (by rw [hb]; exact d_C_looksAlike_57) (cd_C_timesIn G hW) ⟨Nat.le_of_ble_eq_true rfl, Nat.le_of_ble_eq_true rfl⟩ rfl rfl (Nat.le_of_ble_eq_true rfl) (Nat.le_of_ble_eq_true rfl) (Nat.le_of_ble_eq_true rfl) ?_
      refine lv_icmp_eq (tgt := 65) hx hb d_C_looksAlike_60 (by decide) (fun c_60 => ?_) (fun c_60 => ?_)
      · refine lv_iinc (v := (nI (i + 1))) (lv' := [(5, .int (nI (i + 1))), (0, .ref h), (1, .long x), (3, .long y)]) hx hb d_C_looksAlike_65 hl (k := 0) rfl (nI_1 _) (by decide) rfl (fun ls hl => ?_)
        refine lv_goto (tgt := 21) hx hb d_C_looksAlike_68 (by decide) ?_
        exact ih_21 (i + 1) (by omega) (allN_s hf (decide_eq_true ((nI_eq (by have := cnt_le (fpr A x pl B) ((fpr A x pl B) i) B; omega) (by have := cnt_le (fpr A y pb B) ((fpr A x pl B) i) B; omega)).mp c_60))) ls (lv_sub hl [0, 1, 2, 3] rfl)
      · refine lv_iconst (v := (nI 0)) hx hb d_C_looksAlike_63 (by decide) ?_
        exact mx_zret hx hb hr hlk d_C_looksAlike_64 (Nat.le_of_ble_eq_true rfl) (Nat.le_of_ble_eq_true rfl) hS.2.2 (rfl) (⟨by rw [allN_f (i := i) (by omega) (decide_eq_false (fun h9 => c_60 (by rw [h9])))]; rfl, hP⟩)
  exact loop_21 (B) (0) (by omega) (rfl) ls (lv_sub hl [0, 1, 2, 3] rfl)

set_option maxHeartbeats 4000000 in
set_option maxRecDepth 100000 in
theorem c_C_filledCells {l : Launch} {s0 : State} {D : va_G} {cI cF cJ : ClassId} (G : Gx l s0 D cI cF cJ) (h h1 h2 h3 A B : Nat) (hd : Int32) (cs pl pb : Nat → Nat) {H0 : Heap} (hP : va_P D vcl [(h, .inr (0, [.int (nI A), .int (nI B), .int hd, .ref h1, .ref h2, .ref h3])), (h1, aN cI 1024 cs), (h2, aN cI 6 pl), (h3, aN cI 6 pb)] H0) (hA : A ≤ 10) (hc1 : ∀ j, j < 1024 → cs j ≤ 15) : Mx l s0 y_C_filledCells (.code y_C_filledCells b_C_filledCells 3 (some .int)) { frames := 1, cells := 0, slots := 0, locals := 20 } [.ref h] H0 (fun _ => False) (Rd H0 (.int (nI (posN cs (2 ^ A))))) := by
  refine Mx.ofW (own := "FewBits$Counters") rfl rfl ?_
  rintro p e s m below meth c ⟨hx, hb, hml, hr, hown, hW, hlk⟩ hnm het hH
  have hK := G.k hW
  have h10 := p2_le hA
  have hl := lv_entry ([.ref h]) (n := 3) (Nat.le_of_ble_eq_true rfl)
  rw [lg_entry_eq]
  generalize (lg_sl ([.ref h]) ++ List.replicate (3 - (lg_sl ([.ref h])).length) Slot.unset).toArray = ls at hl ⊢
  have hl : lv_has ls 3 [(0, .ref h)] := hl
  refine lv_iconst (v := (nI 0)) hx hb d_C_filledCells_0 (by decide) ?_
  refine lv_istore_n (lv' := [(1, .int (nI 0)), (0, .ref h)]) hx hb d_C_filledCells_1 rfl hl (by decide) rfl (fun ls hl => ?_)
  refine lv_iconst (v := (nI 0)) hx hb d_C_filledCells_2 (by decide) ?_
  refine lv_istore_n (lv' := [(2, .int (nI 0)), (1, .int (nI 0)), (0, .ref h)]) hx hb d_C_filledCells_3 rfl hl (by decide) rfl (fun ls hl => ?_)
  have loop_4 : ∀ (k : Nat) (i : Nat) (t : Nat), (i + k = 2 ^ A) → (t = posN cs i) → ∀ (ls : Array Slot), lv_has ls 3 [(2, .int (nI i)), (1, .int (nI t)), (0, .ref h)] → W p l e { frames := 1, cells := 0, slots := 0, locals := 20 } s m ([.ref h] : List Value).toArray below meth c H0 [] 0 0 (MQx below (Rd H0 (.int (nI (posN cs (2 ^ A))))) s 0 0 (fun _ => False)) (F0 m 4 ls []) := by
    intro k
    induction k with
    | zero =>
      intro i t hk ht  ls hl
      refine lv_iload_n hx hb d_C_filledCells_4 rfl (lv_at hl 0 rfl) ?_
      refine lv_aload_n hx hb d_C_filledCells_5 rfl (lv_at hl 2 rfl) ?_
      refine mx_callR (r := .int (nI (2 ^ A))) (c_P_power_C G h h1 h2 h3 A B hd cs pl pb hP hA) hW (iv_C_filledCells_6 G hx hb hown hW (va_recv hK hP (ci := 0) (q0 := 0) rfl rfl) [] [.int (nI i)] rfl) hml hl.1 (by rw [hb]; exact d_C_filledCells_6) (cd_P_power G hW) ⟨Nat.le_of_ble_eq_true rfl, Nat.le_of_ble_eq_true rfl⟩ rfl rfl (Nat.le_of_ble_eq_true rfl) (Nat.le_of_ble_eq_true rfl) (Nat.le_of_ble_eq_true rfl) ?_
      refine lv_icmp_ge (tgt := 30) hx hb d_C_filledCells_9 (by decide) (fun c_9 => ?_) (fun c_9 => absurd (nI_le (by omega) (by omega)) c_9)
      refine lv_iload_n hx hb d_C_filledCells_30 rfl (lv_at hl 1 rfl) ?_
      exact mx_iret hx hb hr hlk d_C_filledCells_31 (Nat.le_of_ble_eq_true rfl) (Nat.le_of_ble_eq_true rfl) (fun _ h => nomatch h) (⟨by rw [ht, show i = 2 ^ A by omega], rfl⟩)
    | succ k ih_4 =>
      intro i t hk ht  ls hl
      refine lv_iload_n hx hb d_C_filledCells_4 rfl (lv_at hl 0 rfl) ?_
      refine lv_aload_n hx hb d_C_filledCells_5 rfl (lv_at hl 2 rfl) ?_
      refine mx_callR (r := .int (nI (2 ^ A))) (c_P_power_C G h h1 h2 h3 A B hd cs pl pb hP hA) hW (iv_C_filledCells_6 G hx hb hown hW (va_recv hK hP (ci := 0) (q0 := 0) rfl rfl) [] [.int (nI i)] rfl) hml hl.1 (by rw [hb]; exact d_C_filledCells_6) (cd_P_power G hW) ⟨Nat.le_of_ble_eq_true rfl, Nat.le_of_ble_eq_true rfl⟩ rfl rfl (Nat.le_of_ble_eq_true rfl) (Nat.le_of_ble_eq_true rfl) (Nat.le_of_ble_eq_true rfl) ?_
      refine lv_icmp_ge (tgt := 30) hx hb d_C_filledCells_9 (by decide) (fun c_9 => absurd c_9 (nI_ge (by omega) (by omega))) (fun c_9 => ?_)
      refine lv_aload_n hx hb d_C_filledCells_12 rfl (lv_at hl 2 rfl) ?_
      refine va_get (D := D) (ci := 0) (v := .ref h1) (C := R_C) (T := T_C) (N := 6) hx hb (us_C G hW) (fun _ h => h) hown hK hP 0 rfl rfl 3 (by decide) (fl_C_11 G hW) (fun _ h9 => h9) rfl d_C_filledCells_13 ?_
      refine lv_iload_n hx hb d_C_filledCells_16 rfl (lv_at hl 0 rfl) ?_
      refine ia_ld hx hb hK hP 1 (j := i) rfl (by omega) (by decide) d_C_filledCells_17 ?_
      refine tp_i (y := (nI (cs i))) rfl ?_
      refine lv_if_le (tgt := 24) hx hb d_C_filledCells_18 (by decide) (fun c_18 => ?_) (fun c_18 => ?_)
      · refine lv_iinc (v := (nI (i + 1))) (lv' := [(2, .int (nI (i + 1))), (1, .int (nI t)), (0, .ref h)]) hx hb d_C_filledCells_24 hl (k := 0) rfl (nI_1 _) (by decide) rfl (fun ls hl => ?_)
        refine lv_goto (tgt := 4) hx hb d_C_filledCells_27 (by decide) ?_
        exact ih_4 (i + 1) (t) (by omega) (by rw [ht, posN_f (fun h9 => nI_nle h9 (by have := hc1 i (by omega); omega) c_18)]) ls (lv_sub hl [0, 1, 2] rfl)
      · refine lv_iinc (v := (nI (t + 1))) (lv' := [(1, .int (nI (t + 1))), (2, .int (nI i)), (0, .ref h)]) hx hb d_C_filledCells_21 hl (k := 1) rfl (nI_1 _) (by decide) rfl (fun ls hl => ?_)
        refine lv_iinc (v := (nI (i + 1))) (lv' := [(2, .int (nI (i + 1))), (1, .int (nI (t + 1))), (0, .ref h)]) hx hb d_C_filledCells_24 hl (k := 1) rfl (nI_1 _) (by decide) rfl (fun ls hl => ?_)
        refine lv_goto (tgt := 4) hx hb d_C_filledCells_27 (by decide) ?_
        exact ih_4 (i + 1) (t + 1) (by omega) (by rw [ht, posN_t (Nat.pos_of_ne_zero (fun h9 => c_18 (by rw [h9]; decide)))]) ls (lv_sub hl [0, 1, 2] rfl)
  exact loop_4 (2 ^ A) (0) (0) (by omega) (rfl) ls (lv_sub hl [0, 1, 2] rfl)

set_option maxHeartbeats 4000000 in
set_option maxRecDepth 100000 in
theorem c_C_strain {l : Launch} {s0 : State} {D : va_G} {cI cF cJ : ClassId} (G : Gx l s0 D cI cF cJ) (h h1 h2 h3 A B : Nat) (hd : Int32) (cs pl pb : Nat → Nat) {H0 : Heap} (hP : va_P D vcl [(h, .inr (0, [.int (nI A), .int (nI B), .int hd, .ref h1, .ref h2, .ref h3])), (h1, aN cI 1024 cs), (h2, aN cI 6 pl), (h3, aN cI 6 pb)] H0) (hA : A ≤ 10) (hc1 : ∀ j, j < 1024 → cs j ≤ 15) : Mx l s0 y_C_strain (.code y_C_strain b_C_strain 3 (some .int)) { frames := 1, cells := 0, slots := 0, locals := 20 } [.ref h] H0 (fun _ => False) (Rd H0 (.int (nI (maxN cs (2 ^ A))))) := by
  refine Mx.ofW (own := "FewBits$Counters") rfl rfl ?_
  rintro p e s m below meth c ⟨hx, hb, hml, hr, hown, hW, hlk⟩ hnm het hH
  have hK := G.k hW
  have h10 := p2_le hA
  have hl := lv_entry ([.ref h]) (n := 3) (Nat.le_of_ble_eq_true rfl)
  rw [lg_entry_eq]
  generalize (lg_sl ([.ref h]) ++ List.replicate (3 - (lg_sl ([.ref h])).length) Slot.unset).toArray = ls at hl ⊢
  have hl : lv_has ls 3 [(0, .ref h)] := hl
  refine lv_iconst (v := (nI 0)) hx hb d_C_strain_0 (by decide) ?_
  refine lv_istore_n (lv' := [(1, .int (nI 0)), (0, .ref h)]) hx hb d_C_strain_1 rfl hl (by decide) rfl (fun ls hl => ?_)
  refine lv_iconst (v := (nI 0)) hx hb d_C_strain_2 (by decide) ?_
  refine lv_istore_n (lv' := [(2, .int (nI 0)), (1, .int (nI 0)), (0, .ref h)]) hx hb d_C_strain_3 rfl hl (by decide) rfl (fun ls hl => ?_)
  have loop_4 : ∀ (k : Nat) (i : Nat) (t : Nat), (i + k = 2 ^ A) → (t = maxN cs i) → ∀ (ls : Array Slot), lv_has ls 3 [(2, .int (nI i)), (1, .int (nI t)), (0, .ref h)] → W p l e { frames := 1, cells := 0, slots := 0, locals := 20 } s m ([.ref h] : List Value).toArray below meth c H0 [] 0 0 (MQx below (Rd H0 (.int (nI (maxN cs (2 ^ A))))) s 0 0 (fun _ => False)) (F0 m 4 ls []) := by
    intro k
    induction k with
    | zero =>
      intro i t hk ht  ls hl
      refine lv_iload_n hx hb d_C_strain_4 rfl (lv_at hl 0 rfl) ?_
      refine lv_aload_n hx hb d_C_strain_5 rfl (lv_at hl 2 rfl) ?_
      refine mx_callR (r := .int (nI (2 ^ A))) (c_P_power_C G h h1 h2 h3 A B hd cs pl pb hP hA) hW (iv_C_strain_6 G hx hb hown hW (va_recv hK hP (ci := 0) (q0 := 0) rfl rfl) [] [.int (nI i)] rfl) hml hl.1 (by rw [hb]; exact d_C_strain_6) (cd_P_power G hW) ⟨Nat.le_of_ble_eq_true rfl, Nat.le_of_ble_eq_true rfl⟩ rfl rfl (Nat.le_of_ble_eq_true rfl) (Nat.le_of_ble_eq_true rfl) (Nat.le_of_ble_eq_true rfl) ?_
      refine lv_icmp_ge (tgt := 29) hx hb d_C_strain_9 (by decide) (fun c_9 => ?_) (fun c_9 => absurd (nI_le (by omega) (by omega)) c_9)
      refine lv_iload_n hx hb d_C_strain_29 rfl (lv_at hl 1 rfl) ?_
      exact mx_iret hx hb hr hlk d_C_strain_30 (Nat.le_of_ble_eq_true rfl) (Nat.le_of_ble_eq_true rfl) (fun _ h => nomatch h) (⟨by rw [ht, show i = 2 ^ A by omega], rfl⟩)
    | succ k ih_4 =>
      intro i t hk ht  ls hl
      refine lv_iload_n hx hb d_C_strain_4 rfl (lv_at hl 0 rfl) ?_
      refine lv_aload_n hx hb d_C_strain_5 rfl (lv_at hl 2 rfl) ?_
      refine mx_callR (r := .int (nI (2 ^ A))) (c_P_power_C G h h1 h2 h3 A B hd cs pl pb hP hA) hW (iv_C_strain_6 G hx hb hown hW (va_recv hK hP (ci := 0) (q0 := 0) rfl rfl) [] [.int (nI i)] rfl) hml hl.1 (by rw [hb]; exact d_C_strain_6) (cd_P_power G hW) ⟨Nat.le_of_ble_eq_true rfl, Nat.le_of_ble_eq_true rfl⟩ rfl rfl (Nat.le_of_ble_eq_true rfl) (Nat.le_of_ble_eq_true rfl) (Nat.le_of_ble_eq_true rfl) ?_
      refine lv_icmp_ge (tgt := 29) hx hb d_C_strain_9 (by decide) (fun c_9 => absurd c_9 (nI_ge (by omega) (by omega))) (fun c_9 => ?_)
      refine lv_iload_n hx hb d_C_strain_12 rfl (lv_at hl 1 rfl) ?_
      refine lv_aload_n hx hb d_C_strain_13 rfl (lv_at hl 2 rfl) ?_
      refine va_get (D := D) (ci := 0) (v := .ref h1) (C := R_C) (T := T_C) (N := 6) hx hb (us_C G hW) (fun _ h => h) hown hK hP 0 rfl rfl 3 (by decide) (fl_C_11 G hW) (fun _ h9 => h9) rfl d_C_strain_14 ?_
      refine lv_iload_n hx hb d_C_strain_17 rfl (lv_at hl 0 rfl) ?_
      refine ia_ld hx hb hK hP 1 (j := i) rfl (by omega) (by decide) d_C_strain_18 ?_
      refine tp_i (y := (nI (cs i))) rfl ?_
      refine va_mmax hx hb (hml.trans hl.1.symm) hown (G.1.at 547 rfl rfl _ hW) (G.1.at 548 rfl rfl _ hW) (G.1.at 17 rfl rfl _ hW) (G.1.at 549 rfl rfl _ hW) (Nat.le_of_ble_eq_true rfl) (Nat.le_of_ble_eq_true rfl) (Nat.le_of_ble_eq_true rfl) (Nat.le_of_ble_eq_true rfl) d_C_strain_19 ?_
      refine tp_i (y := (nI (maxN cs (i + 1)))) (by subst ht; exact if_nI (by have := maxN_lt (c := cs) (M := 16) (by decide) (n := i) (fun j hj => by have := hc1 j (by omega); omega); omega) (by have := hc1 i (by omega); omega)) ?_
      refine lv_istore_n (lv' := [(1, .int (nI (maxN cs (i + 1)))), (2, .int (nI i)), (0, .ref h)]) hx hb d_C_strain_22 rfl hl (by decide) rfl (fun ls hl => ?_)
      refine lv_iinc (v := (nI (i + 1))) (lv' := [(2, .int (nI (i + 1))), (1, .int (nI (maxN cs (i + 1)))), (0, .ref h)]) hx hb d_C_strain_23 hl (k := 1) rfl (nI_1 _) (by decide) rfl (fun ls hl => ?_)
      refine lv_goto (tgt := 4) hx hb d_C_strain_26 (by decide) ?_
      exact ih_4 (i + 1) (maxN cs (i + 1)) (by omega) (rfl) ls (lv_sub hl [0, 1, 2] rfl)
  exact loop_4 (2 ^ A) (0) (0) (by omega) (rfl) ls (lv_sub hl [0, 1, 2] rfl)

set_option maxHeartbeats 4000000 in
set_option maxRecDepth 100000 in
theorem c_C_look {l : Launch} {s0 : State} {D : va_G} {cI cF cJ : ClassId} (G : Gx l s0 D cI cF cJ) (h h1 h2 h3 A B : Nat) (hd : Int32) (cs pl pb : Nat → Nat) (j : Nat) {H0 : Heap} (hP : va_P D vcl [(h, .inr (0, [.int (nI A), .int (nI B), .int hd, .ref h1, .ref h2, .ref h3])), (h1, aN cI 1024 cs), (h2, aN cI 6 pl), (h3, aN cI 6 pb)] H0) (hj : j < 1024) : Mx l s0 y_C_look (.code y_C_look b_C_look 2 (some .int)) { frames := 0, cells := 0, slots := 0, locals := 0 } [.ref h, .int (nI j)] H0 (fun _ => False) (Rd H0 (.int (nI (cs j)))) := by
  refine Mx.ofW (own := "FewBits$Counters") rfl rfl ?_
  rintro p e s m below meth c ⟨hx, hb, hml, hr, hown, hW, hlk⟩ hnm het hH
  have hK := G.k hW
  have hl := lv_entry ([.ref h, .int (nI j)]) (n := 2) (Nat.le_of_ble_eq_true rfl)
  rw [lg_entry_eq]
  generalize (lg_sl ([.ref h, .int (nI j)]) ++ List.replicate (2 - (lg_sl ([.ref h, .int (nI j)])).length) Slot.unset).toArray = ls at hl ⊢
  have hl : lv_has ls 2 [(0, .ref h), (1, .int (nI j))] := hl
  refine lv_aload_n hx hb d_C_look_0 rfl (lv_at hl 0 rfl) ?_
  refine va_get (D := D) (ci := 0) (v := .ref h1) (C := R_C) (T := T_C) (N := 6) hx hb (us_C G hW) (fun _ h => h) hown hK hP 0 rfl rfl 3 (by decide) (fl_C_11 G hW) (fun _ h9 => h9) rfl d_C_look_1 ?_
  refine lv_iload_n hx hb d_C_look_4 rfl (lv_at hl 1 rfl) ?_
  refine ia_ld hx hb hK hP 1 (j := j) rfl (hj) (by decide) d_C_look_5 ?_
  refine tp_i (y := (nI (cs j))) rfl ?_
  exact mx_iret hx hb hr hlk d_C_look_6 (Nat.le_of_ble_eq_true rfl) (Nat.le_of_ble_eq_true rfl) (fun _ h => nomatch h) (⟨rfl, rfl⟩)
end
section
theorem wb_tb (n : Nat) : (lN n).toBitVec = BitVec.ofNat 64 n := rfl
theorem wb_inj {a b : Int64} (h : a.toBitVec = b.toBitVec) : a = b := Int64.toBitVec_inj.mp h
theorem wb_tn {n : Nat} (h : n < 2 ^ 64) : (lN n).toBitVec.toNat = n := by rw [wb_tb, BitVec.toNat_ofNat, Nat.mod_eq_of_lt h]
theorem wb_of (x : Int64) : ∃ n, n < 2 ^ 64 ∧ x = lN n := ⟨x.toBitVec.toNat, x.toBitVec.isLt, wb_inj (by rw [wb_tb]; simp)⟩
theorem wb_of32 (x : Int32) : ∃ n, n < 2 ^ 32 ∧ x = nI n := ⟨x.toBitVec.toNat, x.toBitVec.isLt, Int32.toBitVec_inj.mp (by show _ = BitVec.ofNat 32 _; simp)⟩
theorem wb_c : ∀ k, k < 64 → ((nI k).toInt64 &&& 63) = lN k := by decide +kernel
theorem wb_cu : ∀ k, k < 64 → ((nI k).toInt64.toUInt64 &&& Int64.toUInt64 63) = UInt64.ofNat k := by decide +kernel
theorem wb_sm : ∀ k, k < 64 → (BitVec.ofNat 64 k).smod 64 = BitVec.ofNat 64 k := by decide +kernel
theorem wb_pw {a b : Nat} (h : a ≤ b) : 2 ^ b = 2 ^ a * 2 ^ (b - a) := by rw [← Nat.pow_add]; congr 1; omega
theorem wb_lt2 {a b : Nat} (h : a < b) : 2 ^ a < 2 ^ b := Nat.pow_lt_pow_right (by decide) h
theorem wb_mod (n : Nat) : lN n = lN (n % 2 ^ 64) := wb_inj (by rw [wb_tb, wb_tb]; apply BitVec.eq_of_toNat_eq; rw [BitVec.toNat_ofNat, BitVec.toNat_ofNat, Nat.mod_mod])
theorem wb_shr {n k : Nat} (hn : n < 2 ^ 64) (hk : k < 64) : ((lN n).toUInt64 >>> ((nI k).toInt64.toUInt64 &&& Int64.toUInt64 63)).toInt64 = lN (n / 2 ^ k) := by
  rw [wb_cu k hk]
  apply wb_inj
  apply BitVec.eq_of_toNat_eq
  show ((lN n).toUInt64 >>> UInt64.ofNat k).toNat = (BitVec.ofNat 64 _).toNat
  have h1 : (UInt64.ofNat k).toNat = k := by
    show (BitVec.ofNat 64 k).toNat = k
    rw [BitVec.toNat_ofNat, Nat.mod_eq_of_lt (by omega)]
  have h2 : (lN n).toUInt64.toNat = n := wb_tn hn
  rw [UInt64.toNat_shiftRight, h1, h2, Nat.mod_eq_of_lt hk, Nat.shiftRight_eq_div_pow, BitVec.toNat_ofNat, Nat.mod_eq_of_lt (Nat.lt_of_le_of_lt (Nat.div_le_self _ _) hn)]
theorem wb_shl (n : Nat) {k : Nat} (hk : k < 64) : lN n <<< ((nI k).toInt64 &&& 63) = lN (n * 2 ^ k) := by
  rw [wb_c k hk]
  apply wb_inj
  rw [Int64.toBitVec_shiftLeft, wb_tb, wb_tb, wb_tb, wb_sm k hk]
  apply BitVec.eq_of_toNat_eq
  rw [BitVec.shiftLeft_eq', BitVec.toNat_shiftLeft, BitVec.toNat_ofNat, BitVec.toNat_ofNat, BitVec.toNat_ofNat, Nat.mod_eq_of_lt (show k < 2 ^ 64 by omega), Nat.shiftLeft_eq, Nat.mul_mod, Nat.mod_mod, ← Nat.mul_mod]
theorem wb_and {a b : Nat} (ha : a < 2 ^ 64) (hb : b < 2 ^ 64) : lN a &&& lN b = lN (a &&& b) := by
  apply wb_inj
  rw [Int64.toBitVec_and, wb_tb, wb_tb, wb_tb]
  apply BitVec.eq_of_toNat_eq
  rw [BitVec.toNat_and, BitVec.toNat_ofNat, BitVec.toNat_ofNat, BitVec.toNat_ofNat, Nat.mod_eq_of_lt ha, Nat.mod_eq_of_lt hb, Nat.mod_eq_of_lt (Nat.and_lt_two_pow _ hb)]
theorem wb_or {a b : Nat} (ha : a < 2 ^ 64) (hb : b < 2 ^ 64) : lN a ||| lN b = lN (a ||| b) := by
  apply wb_inj
  rw [Int64.toBitVec_or, wb_tb, wb_tb, wb_tb]
  apply BitVec.eq_of_toNat_eq
  rw [BitVec.toNat_or, BitVec.toNat_ofNat, BitVec.toNat_ofNat, BitVec.toNat_ofNat, Nat.mod_eq_of_lt ha, Nat.mod_eq_of_lt hb, Nat.mod_eq_of_lt (Nat.or_lt_two_pow ha hb)]
theorem wb_mask {n k : Nat} (hn : n < 2 ^ 64) (hk : k < 64) : lN n &&& lN (2 ^ k - 1) = lN (n % 2 ^ k) := by
  rw [wb_and hn (by have := wb_lt2 hk; omega), Nat.and_two_pow_sub_one_eq_mod]
theorem wb_a1 {n : Nat} (hn : n < 2 ^ 64) : lN n &&& 1 = lN (n % 2) := wb_mask (k := 1) hn (by decide)
theorem wb_bit {n k : Nat} (hn : n < 2 ^ 64) (hk : k < 64) : ((lN n).toUInt64 >>> ((nI k).toInt64.toUInt64 &&& Int64.toUInt64 63)).toInt64 &&& 1 = lN (n / 2 ^ k % 2) := by
  rw [wb_shr hn hk, wb_a1 (Nat.lt_of_le_of_lt (Nat.div_le_self _ _) hn)]
theorem nx_xor (a b : Nat) : nI a ^^^ nI b = nI (a ^^^ b) := by
  apply Int32.toBitVec_inj.1
  show BitVec.ofNat 32 a ^^^ BitVec.ofNat 32 b = BitVec.ofNat 32 (a ^^^ b)
  apply BitVec.eq_of_getLsbD_eq
  intro i hi
  simp [hi]
theorem lN_self (z : Int64) : z = lN z.toBitVec.toNat := wb_inj (by rw [wb_tb]; simp)
theorem lshr_N (z : Int64) {k : Nat} (hk : k < 64) : lshr z (nI k) = lN (z.toBitVec.toNat / 2 ^ k) := by
  have h := wb_shr (n := z.toBitVec.toNat) z.toBitVec.isLt hk
  rw [← lN_self] at h
  exact h
/-- an item's fingerprint, its first bucket; a fingerprint's other bucket -/
def fpN (B : Nat) (x : Int64) : Nat := if mxN x (nI 0).toInt64 / 2 ^ (64 - B) = 0 then 1 else mxN x (nI 0).toInt64 / 2 ^ (64 - B)
def fbN (A : Nat) (x : Int64) : Nat := mxN x (nI 1).toInt64 % 2 ^ A
def obN (A k q : Nat) : Nat := k ^^^ (mxN (nI q).toInt64 (nI 2).toInt64 % 2 ^ A)
theorem hi_lt (x s : Int64) {B : Nat} (hB : B ≤ 64) : mxN x s / 2 ^ (64 - B) < 2 ^ B := by
  have h := mxN_lt x s
  rw [wb_pw (show 64 - B ≤ 64 by omega)] at h
  rw [Nat.div_lt_iff_lt_mul (Nat.two_pow_pos _)]
  rw [show 64 - (64 - B) = B by omega] at h
  rw [Nat.mul_comm]
  exact h
theorem fpN_lt {B : Nat} (h4 : 4 ≤ B) (hB : B ≤ 16) (x : Int64) : fpN B x < 65536 := by
  unfold fpN
  have h1 := hi_lt x (nI 0).toInt64 (show B ≤ 64 by omega)
  have h2 := p2_le hB
  split
  · decide
  · omega
theorem fpN_pos (B : Nat) (x : Int64) : 0 < fpN B x := by
  unfold fpN
  split
  · decide
  · rename_i e; exact Nat.pos_of_ne_zero e
theorem fbN_lt (A : Nat) (x : Int64) : fbN A x < 2 ^ A := Nat.mod_lt _ (Nat.two_pow_pos A)
theorem obN_lt {A k : Nat} (hk : k < 2 ^ A) (q : Nat) : obN A k q < 2 ^ A := Nat.xor_lt_two_pow hk (Nat.mod_lt _ (Nat.two_pow_pos A))
/-- the first of n places from b on that holds v -/
def fnd (f : Nat → Nat) (v : Nat) : Nat → Nat → Option Nat
  | _, 0 => none
  | b, n + 1 => if f b = v then some b else fnd f v (b + 1) n
theorem fnd_t {f : Nat → Nat} {v b n : Nat} (h : f b = v) : fnd f v b (n + 1) = some b := by simp [fnd, h]
theorem fnd_f {f : Nat → Nat} {v b n : Nat} (h : ¬ f b = v) : fnd f v b (n + 1) = fnd f v (b + 1) n := by simp [fnd, h]
theorem fnd_in {f : Nat → Nat} {v b n j : Nat} (h : fnd f v b n = some j) : b ≤ j ∧ j < b + n ∧ f j = v := by
  induction n generalizing b with
  | zero => cases h
  | succ n ih =>
    unfold fnd at h
    split at h
    · rename_i e; cases h; exact ⟨Nat.le_refl _, by omega, e⟩
    · obtain ⟨h1, h2, h3⟩ := ih h
      exact ⟨by omega, by omega, h3⟩
def oI (o : Option Nat) : Int32 := match o with
  | some j => nI j
  | none => -1
theorem oI_some {o : Option Nat} (h : ¬ oI o = -1) : ∃ j, o = some j := by
  cases o with
  | none => exact absurd rfl h
  | some j => exact ⟨j, rfl⟩
theorem oI_none {o : Option Nat} (hs : ∀ j, o = some j → j < 2 ^ 31) (h : oI o = -1) : o = none := by
  cases o with
  | none => rfl
  | some j =>
    have h1 : (nI j).toInt = (-1 : Int32).toInt := congrArg Int32.toInt h
    rw [nI_toInt (hs j rfl)] at h1
    have h2 : ((-1 : Int32).toInt) = -1 := by decide
    omega
/-- pushing: n turns left, k done; the slots then (none: full), and how many were pushed -/
def psh (A : Nat) : Nat → Nat → Nat → Nat → (Nat → Nat) → Option (Nat → Nat) × Nat
  | 0, k, _, _, _ => (none, k)
  | n + 1, k, at_, hand, sl =>
    match fnd (va_up sl (4 * at_ + k % 4) hand) 0 (4 * obN A at_ (sl (4 * at_ + k % 4))) 4 with
    | some j => (some (va_up (va_up sl (4 * at_ + k % 4) hand) j (sl (4 * at_ + k % 4))), k + 1)
    | none => psh A n (k + 1) (obN A at_ (sl (4 * at_ + k % 4))) (sl (4 * at_ + k % 4)) (va_up sl (4 * at_ + k % 4) hand)
theorem psh_s {A n k at_ hand j : Nat} {sl : Nat → Nat} (h : fnd (va_up sl (4 * at_ + k % 4) hand) 0 (4 * obN A at_ (sl (4 * at_ + k % 4))) 4 = some j) :
    psh A (n + 1) k at_ hand sl = (some (va_up (va_up sl (4 * at_ + k % 4) hand) j (sl (4 * at_ + k % 4))), k + 1) := by
  simp only [psh, h]
theorem psh_n {A n k at_ hand : Nat} {sl : Nat → Nat} (h : fnd (va_up sl (4 * at_ + k % 4) hand) 0 (4 * obN A at_ (sl (4 * at_ + k % 4))) 4 = none) :
    psh A (n + 1) k at_ hand sl = psh A n (k + 1) (obN A at_ (sl (4 * at_ + k % 4))) (sl (4 * at_ + k % 4)) (va_up sl (4 * at_ + k % 4) hand) := by
  simp only [psh, h]
/-- pushing back along a path -/
def bck (pt : Nat → Nat) : Nat → Nat → (Nat → Nat) → Nat → Nat
  | 0, _, sl => sl
  | i + 1, hand, sl => bck pt i (sl (pt i)) (va_up sl (pt i) hand)
theorem va_up_back (f : Nat → Nat) (k v : Nat) : va_up (va_up f k v) k (f k) = f := by
  funext j
  by_cases h : j = k
  · subst h; simp [va_up]
  · simp [va_up, h]
theorem bck_congr {pt pt' : Nat → Nat} {i hand : Nat} {sl : Nat → Nat} (h : ∀ j, j < i → pt j = pt' j) : bck pt i hand sl = bck pt' i hand sl := by
  induction i generalizing hand sl with
  | zero => rfl
  | succ i ih => unfold bck; rw [h i (by omega)]; exact ih (fun j hj => h j (by omega))
theorem bck_step {pt : Nat → Nat} {i j hand : Nat} {sl : Nat → Nat} : bck (va_up pt i j) (i + 1) (sl j) (va_up sl j hand) = bck pt i hand sl := by
  show bck (va_up pt i j) i ((va_up sl j hand) ((va_up pt i j) i)) (va_up (va_up sl j hand) ((va_up pt i j) i) (sl j)) = _
  rw [va_up_self, va_up_self, va_up_back]
  exact bck_congr (fun q hq => va_up_ne _ _ (by omega))
/-- adding to buckets -/
def putB (A B : Nat) (x : Int64) (sl : Nat → Nat) : Option (Nat → Nat) × Nat :=
  match fnd sl 0 (4 * fbN A x) 4 with
  | some j => (some (va_up sl j (fpN B x)), 0)
  | none =>
    match fnd sl 0 (4 * obN A (fbN A x) (fpN B x)) 4 with
    | some j => (some (va_up sl j (fpN B x)), 0)
    | none => psh A 64 0 (obN A (fbN A x) (fpN B x)) (fpN B x) sl
/-- the slot of an item -/
def slotB (A B : Nat) (x : Int64) (sl : Nat → Nat) : Option Nat :=
  match fnd sl (fpN B x) (4 * fbN A x) 4 with
  | some j => some j
  | none => fnd sl (fpN B x) (4 * obN A (fbN A x) (fpN B x)) 4
theorem slotB_1 {A B j : Nat} {x : Int64} {sl : Nat → Nat} (h : fnd sl (fpN B x) (4 * fbN A x) 4 = some j) : slotB A B x sl = some j := by simp only [slotB, h]
theorem slotB_2 {A B : Nat} {x : Int64} {sl : Nat → Nat} (h : fnd sl (fpN B x) (4 * fbN A x) 4 = none) : slotB A B x sl = fnd sl (fpN B x) (4 * obN A (fbN A x) (fpN B x)) 4 := by simp only [slotB, h]
theorem slotB_in {A B j : Nat} {x : Int64} {sl : Nat → Nat} (hA : A ≤ 8) (h : slotB A B x sl = some j) : j < 1024 ∧ sl j = fpN B x := by
  have hp := p2_le hA
  have h1 := fbN_lt A x
  have h2 := obN_lt h1 (fpN B x)
  cases e : fnd sl (fpN B x) (4 * fbN A x) 4 with
  | some i =>
    rw [slotB_1 e] at h
    cases h
    have := fnd_in e
    exact ⟨by omega, this.2.2⟩
  | none =>
    rw [slotB_2 e] at h
    have := fnd_in h
    exact ⟨by omega, this.2.2⟩
def sameB (A B : Nat) (x y : Int64) : Bool := decide (fpN B x = fpN B y) && (decide (fbN A x = fbN A y) || decide (obN A (fbN A x) (fpN B x) = fbN A y))
/-- a bucket's first free slot taken; an item's slot freed -/
def pfB (sl : Nat → Nat) (bk q : Nat) : Nat → Nat := match fnd sl 0 (4 * bk) 4 with
  | some j => va_up sl j q
  | none => sl
theorem pfB_s {sl : Nat → Nat} {bk q j : Nat} (h : fnd sl 0 (4 * bk) 4 = some j) : pfB sl bk q = va_up sl j q := by simp only [pfB, h]
theorem pfB_n {sl : Nat → Nat} {bk q : Nat} (h : fnd sl 0 (4 * bk) 4 = none) : pfB sl bk q = sl := by simp only [pfB, h]
def tkB (A B : Nat) (x : Int64) (sl : Nat → Nat) : Nat → Nat := match slotB A B x sl with
  | some j => va_up sl j 0
  | none => sl
theorem tkB_s {A B j : Nat} {x : Int64} {sl : Nat → Nat} (h : slotB A B x sl = some j) : tkB A B x sl = va_up sl j 0 := by simp only [tkB, h]
theorem tkB_n {A B : Nat} {x : Int64} {sl : Nat → Nat} (h : slotB A B x sl = none) : tkB A B x sl = sl := by simp only [tkB, h]
theorem up_lt {f : Nat → Nat} {n M k v : Nat} (h : ∀ j, j < n → f j < M) (hv : v < M) : ∀ j, j < n → va_up f k v j < M := by
  intro j hj
  unfold va_up
  split
  · exact hv
  · exact h j hj
theorem bI_t {b : Bool} (h : ¬ bI b = 0) : b = true := by cases b with
  | true => rfl
  | false => exact absurd rfl h
theorem bI_f {b : Bool} (h : bI b = 0) : b = false := bI_ne0.mp h
theorem sm_t {o : Option Nat} (h : o.isSome = true) : ∃ j, o = some j := Option.isSome_iff_exists.mp h
theorem sm_f {o : Option Nat} (h : o.isSome = false) : o = none := by cases o with
  | none => rfl
  | some j => cases h
theorem putB_1 {A B j : Nat} {x : Int64} {sl : Nat → Nat} (h : fnd sl 0 (4 * fbN A x) 4 = some j) : putB A B x sl = (some (va_up sl j (fpN B x)), 0) := by simp only [putB, h]
theorem putB_2 {A B j : Nat} {x : Int64} {sl : Nat → Nat} (h : fnd sl 0 (4 * fbN A x) 4 = none) (h2 : fnd sl 0 (4 * obN A (fbN A x) (fpN B x)) 4 = some j) : putB A B x sl = (some (va_up sl j (fpN B x)), 0) := by simp only [putB, h, h2]
theorem putB_3 {A B : Nat} {x : Int64} {sl : Nat → Nat} (h : fnd sl 0 (4 * fbN A x) 4 = none) (h2 : fnd sl 0 (4 * obN A (fbN A x) (fpN B x)) 4 = none) : putB A B x sl = psh A 64 0 (obN A (fbN A x) (fpN B x)) (fpN B x) sl := by simp only [putB, h, h2]
theorem up_lt2 {f : Nat → Nat} {n M v : Nat} (h : ∀ j, j < n → f j < M) (hv : v < M) : ∀ j, j < n + 1 → va_up f n v j < M := by
  intro j hj
  unfold va_up
  split
  · exact hv
  · exact h j (by omega)
end
section
set_option maxHeartbeats 4000000 in
set_option maxRecDepth 100000 in
theorem c_P_power_B {l : Launch} {s0 : State} {D : va_G} {cI cF cJ : ClassId} (G : Gx l s0 D cI cF cJ) (h h1 h2 A B : Nat) (hd pu : Int32) (sl pt : Nat → Nat) {H0 : Heap} (hP : va_P D vcl [(h, .inr (1, [.int (nI A), .int (nI B), .int hd, .ref h1, .ref h2, .int pu])), (h1, aN cI 1024 sl), (h2, aN cI 64 pt)] H0) (hA : A ≤ 8) : Mx l s0 y_P_power (.code y_P_power b_P_power 1 (some .int)) { frames := 0, cells := 0, slots := 0, locals := 0 } [.ref h] H0 (fun _ => False) (Rd H0 (.int (nI (2 ^ A)))) := by
  refine Mx.ofW (own := "FewBits$Filter") rfl rfl ?_
  rintro p e s m below meth c ⟨hx, hb, hml, hr, hown, hW, hlk⟩ hnm het hH
  have hK := G.k hW
  have hl := lv_entry ([.ref h]) (n := 1) (Nat.le_of_ble_eq_true rfl)
  rw [lg_entry_eq]
  generalize (lg_sl ([.ref h]) ++ List.replicate (1 - (lg_sl ([.ref h])).length) Slot.unset).toArray = ls at hl ⊢
  have hl : lv_has ls 1 [(0, .ref h)] := hl
  refine lv_iconst (v := (nI 1)) hx hb d_P_power_0 (by decide) ?_
  refine lv_aload_n hx hb d_P_power_1 rfl (lv_at hl 0 rfl) ?_
  refine va_get (D := D) (ci := 1) (v := .int (nI A)) (C := R_B) (T := T_B) (N := 6) hx hb (us_B G hW) (fun _ h => h) hown hK hP 0 rfl rfl 0 (by decide) (fl_P_7 G hW) (fun _ h9 => h9) rfl d_P_power_2 ?_
  refine lv_ishl hx hb d_P_power_5 ?_
  refine tp_i (y := (nI (2 ^ A))) (pw_shl A (by omega)) ?_
  exact mx_iret hx hb hr hlk d_P_power_6 (Nat.le_of_ble_eq_true rfl) (Nat.le_of_ble_eq_true rfl) (fun _ h => nomatch h) (⟨rfl, rfl⟩)

set_option maxHeartbeats 4000000 in
set_option maxRecDepth 100000 in
theorem c_P_lowestBits_B {l : Launch} {s0 : State} {D : va_G} {cI cF cJ : ClassId} (G : Gx l s0 D cI cF cJ) (h h1 h2 A B : Nat) (hd pu : Int32) (sl pt : Nat → Nat) (z : Int64) {H0 : Heap} (hP : va_P D vcl [(h, .inr (1, [.int (nI A), .int (nI B), .int hd, .ref h1, .ref h2, .int pu])), (h1, aN cI 1024 sl), (h2, aN cI 64 pt)] H0) (hA : A ≤ 8) : Mx l s0 y_P_lowestBits (.code y_P_lowestBits b_P_lowestBits 3 (some .int)) { frames := 1, cells := 0, slots := 0, locals := 20 } [.ref h, .long z] H0 (fun _ => False) (Rd H0 (.int (nI (z.toBitVec.toNat % 2 ^ A)))) := by
  refine Mx.ofW (own := "FewBits$Filter") rfl rfl ?_
  rintro p e s m below meth c ⟨hx, hb, hml, hr, hown, hW, hlk⟩ hnm het hH
  have hK := G.k hW
  have hl := lv_entry ([.ref h, .long z]) (n := 3) (Nat.le_of_ble_eq_true rfl)
  rw [lg_entry_eq]
  generalize (lg_sl ([.ref h, .long z]) ++ List.replicate (3 - (lg_sl ([.ref h, .long z])).length) Slot.unset).toArray = ls at hl ⊢
  have hl : lv_has ls 3 [(0, .ref h), (1, .long z)] := hl
  refine lv_lload_n hx hb d_P_lowestBits_0 rfl (lv_at hl 1 rfl) ?_
  refine lv_l2i hx hb d_P_lowestBits_1 rfl ?_
  refine lv_aload_n hx hb d_P_lowestBits_2 rfl (lv_at hl 0 rfl) ?_
  refine mx_callR (r := .int (nI (2 ^ A))) (c_P_power_B G h h1 h2 A B hd pu sl pt hP hA) hW (iv_P_lowestBits_3_B G hx hb hown hW (va_recv hK hP (ci := 1) (q0 := 0) rfl rfl) [] [.int (Int64.toInt32 z)] rfl) hml hl.1 (by rw [hb]; exact d_P_lowestBits_3) (cd_P_power G hW) ⟨Nat.le_of_ble_eq_true rfl, Nat.le_of_ble_eq_true rfl⟩ rfl rfl (Nat.le_of_ble_eq_true rfl) (Nat.le_of_ble_eq_true rfl) (Nat.le_of_ble_eq_true rfl) ?_
  refine lv_iconst (v := (nI 1)) hx hb d_P_lowestBits_6 (by decide) ?_
  refine lv_isub hx hb d_P_lowestBits_7 ?_
  refine lv_iand hx hb d_P_lowestBits_8 ?_
  refine tp_i (y := (nI (z.toBitVec.toNat % 2 ^ A))) (low_bv z A (by omega)) ?_
  exact mx_iret hx hb hr hlk d_P_lowestBits_9 (Nat.le_of_ble_eq_true rfl) (Nat.le_of_ble_eq_true rfl) (fun _ h => nomatch h) (⟨rfl, rfl⟩)

set_option maxHeartbeats 4000000 in
set_option maxRecDepth 100000 in
theorem c_P_filledCells_B {l : Launch} {s0 : State} {D : va_G} {cI cF cJ : ClassId} (G : Gx l s0 D cI cF cJ) (h h1 h2 A B : Nat) (hd pu : Int32) (sl pt : Nat → Nat) {H0 : Heap} (hP : va_P D vcl [(h, .inr (1, [.int (nI A), .int (nI B), .int hd, .ref h1, .ref h2, .int pu])), (h1, aN cI 1024 sl), (h2, aN cI 64 pt)] H0) : Mx l s0 y_P_filledCells (.code y_P_filledCells b_P_filledCells 1 (some .int)) { frames := 0, cells := 0, slots := 0, locals := 0 } [.ref h] H0 (fun _ => False) (Rd H0 (.int hd)) := by
  refine Mx.ofW (own := "FewBits$Filter") rfl rfl ?_
  rintro p e s m below meth c ⟨hx, hb, hml, hr, hown, hW, hlk⟩ hnm het hH
  have hK := G.k hW
  have hl := lv_entry ([.ref h]) (n := 1) (Nat.le_of_ble_eq_true rfl)
  rw [lg_entry_eq]
  generalize (lg_sl ([.ref h]) ++ List.replicate (1 - (lg_sl ([.ref h])).length) Slot.unset).toArray = ls at hl ⊢
  have hl : lv_has ls 1 [(0, .ref h)] := hl
  refine lv_aload_n hx hb d_P_filledCells_0 rfl (lv_at hl 0 rfl) ?_
  refine va_get (D := D) (ci := 1) (v := .int hd) (C := R_B) (T := T_B) (N := 6) hx hb (us_B G hW) (fun _ h => h) hown hK hP 0 rfl rfl 2 (by decide) (fl_P_16 G hW) (fun _ h9 => h9) rfl d_P_filledCells_1 ?_
  exact mx_iret hx hb hr hlk d_P_filledCells_4 (Nat.le_of_ble_eq_true rfl) (Nat.le_of_ble_eq_true rfl) (fun _ h => nomatch h) (⟨rfl, rfl⟩)

set_option maxHeartbeats 4000000 in
set_option maxRecDepth 100000 in
theorem c_B_kind {l : Launch} {s0 : State} {D : va_G} {cI cF cJ : ClassId} (G : Gx l s0 D cI cF cJ) (h h1 h2 A B : Nat) (hd pu : Int32) (sl pt : Nat → Nat) {H0 : Heap}  : Mx l s0 y_B_kind (.code y_B_kind b_B_kind 1 (some .int)) { frames := 0, cells := 0, slots := 0, locals := 0 } [.ref h] H0 (fun _ => False) (Rd H0 (.int (nI 2))) := by
  refine Mx.ofW (own := "FewBits$Buckets") rfl rfl ?_
  rintro p e s m below meth c ⟨hx, hb, hml, hr, hown, hW, hlk⟩ hnm het hH
  have hK := G.k hW
  have hl := lv_entry ([.ref h]) (n := 1) (Nat.le_of_ble_eq_true rfl)
  rw [lg_entry_eq]
  generalize (lg_sl ([.ref h]) ++ List.replicate (1 - (lg_sl ([.ref h])).length) Slot.unset).toArray = ls at hl ⊢
  have hl : lv_has ls 1 [(0, .ref h)] := hl
  refine lv_iconst (v := (nI 2)) hx hb d_B_kind_0 (by decide) ?_
  exact mx_iret hx hb hr hlk d_B_kind_1 (Nat.le_of_ble_eq_true rfl) (Nat.le_of_ble_eq_true rfl) (fun _ h => nomatch h) (⟨rfl, rfl⟩)

set_option maxHeartbeats 4000000 in
set_option maxRecDepth 100000 in
theorem c_B_cells {l : Launch} {s0 : State} {D : va_G} {cI cF cJ : ClassId} (G : Gx l s0 D cI cF cJ) (h h1 h2 A B : Nat) (hd pu : Int32) (sl pt : Nat → Nat) {H0 : Heap} (hP : va_P D vcl [(h, .inr (1, [.int (nI A), .int (nI B), .int hd, .ref h1, .ref h2, .int pu])), (h1, aN cI 1024 sl), (h2, aN cI 64 pt)] H0) (hA : A ≤ 8) : Mx l s0 y_B_cells (.code y_B_cells b_B_cells 1 (some .int)) { frames := 1, cells := 0, slots := 0, locals := 20 } [.ref h] H0 (fun _ => False) (Rd H0 (.int (nI (4 * 2 ^ A)))) := by
  refine Mx.ofW (own := "FewBits$Buckets") rfl rfl ?_
  rintro p e s m below meth c ⟨hx, hb, hml, hr, hown, hW, hlk⟩ hnm het hH
  have hK := G.k hW
  have hl := lv_entry ([.ref h]) (n := 1) (Nat.le_of_ble_eq_true rfl)
  rw [lg_entry_eq]
  generalize (lg_sl ([.ref h]) ++ List.replicate (1 - (lg_sl ([.ref h])).length) Slot.unset).toArray = ls at hl ⊢
  have hl : lv_has ls 1 [(0, .ref h)] := hl
  refine lv_iconst (v := (nI 4)) hx hb d_B_cells_0 (by decide) ?_
  refine lv_aload_n hx hb d_B_cells_1 rfl (lv_at hl 0 rfl) ?_
  refine mx_callR (r := .int (nI (2 ^ A))) (c_P_power_B G h h1 h2 A B hd pu sl pt hP hA) hW (iv_B_cells_2 G hx hb hown hW (va_recv hK hP (ci := 1) (q0 := 0) rfl rfl) [] [.int (nI 4)] rfl) hml hl.1 (by rw [hb]; exact d_B_cells_2) (cd_P_power G hW) ⟨Nat.le_of_ble_eq_true rfl, Nat.le_of_ble_eq_true rfl⟩ rfl rfl (Nat.le_of_ble_eq_true rfl) (Nat.le_of_ble_eq_true rfl) (Nat.le_of_ble_eq_true rfl) ?_
  refine lv_imul hx hb d_B_cells_5 ?_
  refine tp_i (y := (nI (4 * 2 ^ A))) (pk_mul _ _) ?_
  exact mx_iret hx hb hr hlk d_B_cells_6 (Nat.le_of_ble_eq_true rfl) (Nat.le_of_ble_eq_true rfl) (fun _ h => nomatch h) (⟨rfl, rfl⟩)

set_option maxHeartbeats 4000000 in
set_option maxRecDepth 100000 in
theorem c_B_strain {l : Launch} {s0 : State} {D : va_G} {cI cF cJ : ClassId} (G : Gx l s0 D cI cF cJ) (h h1 h2 A B : Nat) (hd pu : Int32) (sl pt : Nat → Nat) {H0 : Heap} (hP : va_P D vcl [(h, .inr (1, [.int (nI A), .int (nI B), .int hd, .ref h1, .ref h2, .int pu])), (h1, aN cI 1024 sl), (h2, aN cI 64 pt)] H0) : Mx l s0 y_B_strain (.code y_B_strain b_B_strain 1 (some .int)) { frames := 0, cells := 0, slots := 0, locals := 0 } [.ref h] H0 (fun _ => False) (Rd H0 (.int pu)) := by
  refine Mx.ofW (own := "FewBits$Buckets") rfl rfl ?_
  rintro p e s m below meth c ⟨hx, hb, hml, hr, hown, hW, hlk⟩ hnm het hH
  have hK := G.k hW
  have hl := lv_entry ([.ref h]) (n := 1) (Nat.le_of_ble_eq_true rfl)
  rw [lg_entry_eq]
  generalize (lg_sl ([.ref h]) ++ List.replicate (1 - (lg_sl ([.ref h])).length) Slot.unset).toArray = ls at hl ⊢
  have hl : lv_has ls 1 [(0, .ref h)] := hl
  refine lv_aload_n hx hb d_B_strain_0 rfl (lv_at hl 0 rfl) ?_
  refine va_get (D := D) (ci := 1) (v := .int pu) (C := R_B) (T := T_B) (N := 6) hx hb (us_B G hW) (fun _ h => h) hown hK hP 0 rfl rfl 5 (by decide) (fl_B_28 G hW) (fun _ h9 => h9) rfl d_B_strain_1 ?_
  exact mx_iret hx hb hr hlk d_B_strain_4 (Nat.le_of_ble_eq_true rfl) (Nat.le_of_ble_eq_true rfl) (fun _ h => nomatch h) (⟨rfl, rfl⟩)

set_option maxHeartbeats 4000000 in
set_option maxRecDepth 100000 in
theorem c_B_look {l : Launch} {s0 : State} {D : va_G} {cI cF cJ : ClassId} (G : Gx l s0 D cI cF cJ) (h h1 h2 A B : Nat) (hd pu : Int32) (sl pt : Nat → Nat) (j : Nat) {H0 : Heap} (hP : va_P D vcl [(h, .inr (1, [.int (nI A), .int (nI B), .int hd, .ref h1, .ref h2, .int pu])), (h1, aN cI 1024 sl), (h2, aN cI 64 pt)] H0) (hj : j < 1024) : Mx l s0 y_B_look (.code y_B_look b_B_look 2 (some .int)) { frames := 0, cells := 0, slots := 0, locals := 0 } [.ref h, .int (nI j)] H0 (fun _ => False) (Rd H0 (.int (nI (sl j)))) := by
  refine Mx.ofW (own := "FewBits$Buckets") rfl rfl ?_
  rintro p e s m below meth c ⟨hx, hb, hml, hr, hown, hW, hlk⟩ hnm het hH
  have hK := G.k hW
  have hl := lv_entry ([.ref h, .int (nI j)]) (n := 2) (Nat.le_of_ble_eq_true rfl)
  rw [lg_entry_eq]
  generalize (lg_sl ([.ref h, .int (nI j)]) ++ List.replicate (2 - (lg_sl ([.ref h, .int (nI j)])).length) Slot.unset).toArray = ls at hl ⊢
  have hl : lv_has ls 2 [(0, .ref h), (1, .int (nI j))] := hl
  refine lv_aload_n hx hb d_B_look_0 rfl (lv_at hl 0 rfl) ?_
  refine va_get (D := D) (ci := 1) (v := .ref h1) (C := R_B) (T := T_B) (N := 6) hx hb (us_B G hW) (fun _ h => h) hown hK hP 0 rfl rfl 3 (by decide) (fl_B_11 G hW) (fun _ h9 => h9) rfl d_B_look_1 ?_
  refine lv_iload_n hx hb d_B_look_4 rfl (lv_at hl 1 rfl) ?_
  refine ia_ld hx hb hK hP 1 (j := j) rfl (hj) (by decide) d_B_look_5 ?_
  refine tp_i (y := (nI (sl j))) rfl ?_
  exact mx_iret hx hb hr hlk d_B_look_6 (Nat.le_of_ble_eq_true rfl) (Nat.le_of_ble_eq_true rfl) (fun _ h => nomatch h) (⟨rfl, rfl⟩)

set_option maxHeartbeats 4000000 in
set_option maxRecDepth 100000 in
theorem c_B_fingerprint {l : Launch} {s0 : State} {D : va_G} {cI cF cJ : ClassId} (G : Gx l s0 D cI cF cJ) (h h1 h2 A B : Nat) (hd pu : Int32) (sl pt : Nat → Nat) (x : Int64) {H0 : Heap} (hP : va_P D vcl [(h, .inr (1, [.int (nI A), .int (nI B), .int hd, .ref h1, .ref h2, .int pu])), (h1, aN cI 1024 sl), (h2, aN cI 64 pt)] H0) (hA : A ≤ 8) (hB4 : 4 ≤ B) (hB : B ≤ 16) : Mx l s0 y_B_fingerprint (.code y_B_fingerprint b_B_fingerprint 4 (some .int)) { frames := 1, cells := 0, slots := 0, locals := 24 } [.ref h, .long x] H0 (fun _ => False) (Rd H0 (.int (nI (fpN B x)))) := by
  refine Mx.ofW (own := "FewBits$Buckets") rfl rfl ?_
  rintro p e s m below meth c ⟨hx, hb, hml, hr, hown, hW, hlk⟩ hnm het hH
  have hK := G.k hW
  have hl := lv_entry ([.ref h, .long x]) (n := 4) (Nat.le_of_ble_eq_true rfl)
  rw [lg_entry_eq]
  generalize (lg_sl ([.ref h, .long x]) ++ List.replicate (4 - (lg_sl ([.ref h, .long x])).length) Slot.unset).toArray = ls at hl ⊢
  have hl : lv_has ls 4 [(0, .ref h), (1, .long x)] := hl
  refine lv_lload_n hx hb d_B_fingerprint_0 rfl (lv_at hl 1 rfl) ?_
  refine lv_iconst (v := (nI 0)) hx hb d_B_fingerprint_1 (by decide) ?_
  refine mx_callR (r := .long (mx x (nI 0).toInt64)) (c_F_mixed G x (nI 0)) hW (iv_B_fingerprint_2 G hx hb hown hW [.long x, .int (nI 0)] [] rfl) hml hl.1 (by rw [hb]; exact d_B_fingerprint_2) (cd_F_mixed G hW) ⟨Nat.le_of_ble_eq_true rfl, Nat.le_of_ble_eq_true rfl⟩ rfl rfl (Nat.le_of_ble_eq_true rfl) (Nat.le_of_ble_eq_true rfl) (Nat.le_of_ble_eq_true rfl) ?_
  refine lv_bipush (v := (nI 64)) hx hb d_B_fingerprint_5 (by decide) ?_
  refine lv_aload_n hx hb d_B_fingerprint_7 rfl (lv_at hl 0 rfl) ?_
  refine va_get (D := D) (ci := 1) (v := .int (nI B)) (C := R_B) (T := T_B) (N := 6) hx hb (us_B G hW) (fun _ h => h) hown hK hP 0 rfl rfl 1 (by decide) (fl_B_57 G hW) (u_same (args := ([.ref h, .long x] : List Value).toArray) (G.1.at 181 rfl rfl _ hW)) rfl d_B_fingerprint_8 ?_
  refine lv_isub hx hb d_B_fingerprint_11 ?_
  refine tp_i (y := (nI (64 - B))) (pk_sub (by omega)) ?_
  refine lv_lushr hx hb d_B_fingerprint_12 rfl ?_
  refine tp_l (y := (lN (mxN x (nI 0).toInt64 / 2 ^ (64 - B)))) (lshr_N _ (by omega)) ?_
  refine lv_l2i hx hb d_B_fingerprint_13 rfl ?_
  refine tp_i (y := (nI (mxN x (nI 0).toInt64 / 2 ^ (64 - B)))) (lN_i _) ?_
  refine lv_istore_n (lv' := [(3, .int (nI (mxN x (nI 0).toInt64 / 2 ^ (64 - B)))), (0, .ref h), (1, .long x)]) hx hb d_B_fingerprint_14 rfl hl (by decide) rfl (fun ls hl => ?_)
  refine lv_iload_n hx hb d_B_fingerprint_15 rfl (lv_at hl 0 rfl) ?_
  refine lv_if_ne (tgt := 23) hx hb d_B_fingerprint_16 (by decide) (fun c_16 => ?_) (fun c_16 => ?_)
  · refine lv_iload_n hx hb d_B_fingerprint_23 rfl (lv_at hl 0 rfl) ?_
    exact mx_iret hx hb hr hlk d_B_fingerprint_24 (Nat.le_of_ble_eq_true rfl) (Nat.le_of_ble_eq_true rfl) (fun _ h => nomatch h) (⟨by unfold fpN; rw [if_neg (fun h9 => c_16 (by rw [h9]; rfl))], rfl⟩)
  · refine lv_iconst (v := (nI 1)) hx hb d_B_fingerprint_19 (by decide) ?_
    refine lv_goto (tgt := 24) hx hb d_B_fingerprint_20 (by decide) ?_
    exact mx_iret hx hb hr hlk d_B_fingerprint_24 (Nat.le_of_ble_eq_true rfl) (Nat.le_of_ble_eq_true rfl) (fun _ h => nomatch h) (⟨by unfold fpN; rw [if_pos ((nI_eq (b := 0) (by have h1 := hi_lt x (nI 0).toInt64 (show B ≤ 64 by omega); have h2 := p2_le hB; exact Nat.lt_trans h1 (by omega)) (by decide)).mp c_16)], rfl⟩)

set_option maxHeartbeats 4000000 in
set_option maxRecDepth 100000 in
theorem c_B_firstBucket {l : Launch} {s0 : State} {D : va_G} {cI cF cJ : ClassId} (G : Gx l s0 D cI cF cJ) (h h1 h2 A B : Nat) (hd pu : Int32) (sl pt : Nat → Nat) (x : Int64) {H0 : Heap} (hP : va_P D vcl [(h, .inr (1, [.int (nI A), .int (nI B), .int hd, .ref h1, .ref h2, .int pu])), (h1, aN cI 1024 sl), (h2, aN cI 64 pt)] H0) (hA : A ≤ 8) : Mx l s0 y_B_firstBucket (.code y_B_firstBucket b_B_firstBucket 3 (some .int)) { frames := 2, cells := 0, slots := 0, locals := 42 } [.ref h, .long x] H0 (fun _ => False) (Rd H0 (.int (nI (fbN A x)))) := by
  refine Mx.ofW (own := "FewBits$Buckets") rfl rfl ?_
  rintro p e s m below meth c ⟨hx, hb, hml, hr, hown, hW, hlk⟩ hnm het hH
  have hK := G.k hW
  have hl := lv_entry ([.ref h, .long x]) (n := 3) (Nat.le_of_ble_eq_true rfl)
  rw [lg_entry_eq]
  generalize (lg_sl ([.ref h, .long x]) ++ List.replicate (3 - (lg_sl ([.ref h, .long x])).length) Slot.unset).toArray = ls at hl ⊢
  have hl : lv_has ls 3 [(0, .ref h), (1, .long x)] := hl
  refine lv_aload_n hx hb d_B_firstBucket_0 rfl (lv_at hl 0 rfl) ?_
  refine lv_lload_n hx hb d_B_firstBucket_1 rfl (lv_at hl 1 rfl) ?_
  refine lv_iconst (v := (nI 1)) hx hb d_B_firstBucket_2 (by decide) ?_
  refine mx_callR (r := .long (mx x (nI 1).toInt64)) (c_F_mixed G x (nI 1)) hW (iv_B_firstBucket_3 G hx hb hown hW [.long x, .int (nI 1)] [.ref h] rfl) hml hl.1 (by rw [hb]; exact d_B_firstBucket_3) (cd_F_mixed G hW) ⟨Nat.le_of_ble_eq_true rfl, Nat.le_of_ble_eq_true rfl⟩ rfl rfl (Nat.le_of_ble_eq_true rfl) (Nat.le_of_ble_eq_true rfl) (Nat.le_of_ble_eq_true rfl) ?_
  refine mx_callR (r := .int (nI (fbN A x))) (c_P_lowestBits_B G h h1 h2 A B hd pu sl pt (mx x (nI 1).toInt64) hP hA) hW (iv_B_firstBucket_6 G hx hb hown hW (va_recv hK hP (ci := 1) (q0 := 0) rfl rfl) [.long (mx x (nI 1).toInt64)] [] rfl) hml hl.1 (by rw [hb]; exact d_B_firstBucket_6) (cd_P_lowestBits G hW) ⟨Nat.le_of_ble_eq_true rfl, Nat.le_of_ble_eq_true rfl⟩ rfl rfl (Nat.le_of_ble_eq_true rfl) (Nat.le_of_ble_eq_true rfl) (Nat.le_of_ble_eq_true rfl) ?_
  exact mx_iret hx hb hr hlk d_B_firstBucket_9 (Nat.le_of_ble_eq_true rfl) (Nat.le_of_ble_eq_true rfl) (fun _ h => nomatch h) (⟨rfl, rfl⟩)

set_option maxHeartbeats 4000000 in
set_option maxRecDepth 100000 in
theorem c_B_otherBucket {l : Launch} {s0 : State} {D : va_G} {cI cF cJ : ClassId} (G : Gx l s0 D cI cF cJ) (h h1 h2 A B : Nat) (hd pu : Int32) (sl pt : Nat → Nat) (bk q : Nat) {H0 : Heap} (hP : va_P D vcl [(h, .inr (1, [.int (nI A), .int (nI B), .int hd, .ref h1, .ref h2, .int pu])), (h1, aN cI 1024 sl), (h2, aN cI 64 pt)] H0) (hA : A ≤ 8) : Mx l s0 y_B_otherBucket (.code y_B_otherBucket b_B_otherBucket 3 (some .int)) { frames := 2, cells := 0, slots := 0, locals := 42 } [.ref h, .int (nI bk), .int (nI q)] H0 (fun _ => False) (Rd H0 (.int (nI (obN A bk q)))) := by
  refine Mx.ofW (own := "FewBits$Buckets") rfl rfl ?_
  rintro p e s m below meth c ⟨hx, hb, hml, hr, hown, hW, hlk⟩ hnm het hH
  have hK := G.k hW
  have hl := lv_entry ([.ref h, .int (nI bk), .int (nI q)]) (n := 3) (Nat.le_of_ble_eq_true rfl)
  rw [lg_entry_eq]
  generalize (lg_sl ([.ref h, .int (nI bk), .int (nI q)]) ++ List.replicate (3 - (lg_sl ([.ref h, .int (nI bk), .int (nI q)])).length) Slot.unset).toArray = ls at hl ⊢
  have hl : lv_has ls 3 [(0, .ref h), (1, .int (nI bk)), (2, .int (nI q))] := hl
  refine lv_iload_n hx hb d_B_otherBucket_0 rfl (lv_at hl 1 rfl) ?_
  refine lv_aload_n hx hb d_B_otherBucket_1 rfl (lv_at hl 0 rfl) ?_
  refine lv_iload_n hx hb d_B_otherBucket_2 rfl (lv_at hl 2 rfl) ?_
  refine lv_i2l hx hb d_B_otherBucket_3 rfl ?_
  refine lv_iconst (v := (nI 2)) hx hb d_B_otherBucket_4 (by decide) ?_
  refine mx_callR (r := .long (mx (nI q).toInt64 (nI 2).toInt64)) (c_F_mixed G (nI q).toInt64 (nI 2)) hW (iv_B_otherBucket_5 G hx hb hown hW [.long (Int32.toInt64 (nI q)), .int (nI 2)] [.ref h, .int (nI bk)] rfl) hml hl.1 (by rw [hb]; exact d_B_otherBucket_5) (cd_F_mixed G hW) ⟨Nat.le_of_ble_eq_true rfl, Nat.le_of_ble_eq_true rfl⟩ rfl rfl (Nat.le_of_ble_eq_true rfl) (Nat.le_of_ble_eq_true rfl) (Nat.le_of_ble_eq_true rfl) ?_
  refine mx_callR (r := .int (nI (mxN (nI q).toInt64 (nI 2).toInt64 % 2 ^ A))) (c_P_lowestBits_B G h h1 h2 A B hd pu sl pt (mx (nI q).toInt64 (nI 2).toInt64) hP hA) hW (iv_B_otherBucket_8 G hx hb hown hW (va_recv hK hP (ci := 1) (q0 := 0) rfl rfl) [.long (mx (nI q).toInt64 (nI 2).toInt64)] [.int (nI bk)] rfl) hml hl.1 (by rw [hb]; exact d_B_otherBucket_8) (cd_P_lowestBits G hW) ⟨Nat.le_of_ble_eq_true rfl, Nat.le_of_ble_eq_true rfl⟩ rfl rfl (Nat.le_of_ble_eq_true rfl) (Nat.le_of_ble_eq_true rfl) (Nat.le_of_ble_eq_true rfl) ?_
  refine lv_ixor hx hb d_B_otherBucket_11 ?_
  refine tp_i (y := (nI (obN A bk q))) (nx_xor _ _) ?_
  exact mx_iret hx hb hr hlk d_B_otherBucket_12 (Nat.le_of_ble_eq_true rfl) (Nat.le_of_ble_eq_true rfl) (fun _ h => nomatch h) (⟨rfl, rfl⟩)

set_option maxHeartbeats 4000000 in
set_option maxRecDepth 100000 in
theorem c_B_slotWith {l : Launch} {s0 : State} {D : va_G} {cI cF cJ : ClassId} (G : Gx l s0 D cI cF cJ) (h h1 h2 A B : Nat) (hd pu : Int32) (sl pt : Nat → Nat) (bk v : Nat) {H0 : Heap} (hP : va_P D vcl [(h, .inr (1, [.int (nI A), .int (nI B), .int hd, .ref h1, .ref h2, .int pu])), (h1, aN cI 1024 sl), (h2, aN cI 64 pt)] H0) (hA : A ≤ 8) (hs : ∀ j, j < 1024 → sl j < 65536) (hbk : bk < 2 ^ A) (hv : v < 65536) : Mx l s0 y_B_slotWith (.code y_B_slotWith b_B_slotWith 5 (some .int)) { frames := 0, cells := 0, slots := 0, locals := 0 } [.ref h, .int (nI bk), .int (nI v)] H0 (fun _ => False) (Rd H0 (.int (oI (fnd sl v (4 * bk) 4)))) := by
  refine Mx.ofW (own := "FewBits$Buckets") rfl rfl ?_
  rintro p e s m below meth c ⟨hx, hb, hml, hr, hown, hW, hlk⟩ hnm het hH
  have hK := G.k hW
  have h8 := p2_le hA
  have hl := lv_entry ([.ref h, .int (nI bk), .int (nI v)]) (n := 5) (Nat.le_of_ble_eq_true rfl)
  rw [lg_entry_eq]
  generalize (lg_sl ([.ref h, .int (nI bk), .int (nI v)]) ++ List.replicate (5 - (lg_sl ([.ref h, .int (nI bk), .int (nI v)])).length) Slot.unset).toArray = ls at hl ⊢
  have hl : lv_has ls 5 [(0, .ref h), (1, .int (nI bk)), (2, .int (nI v))] := hl
  refine lv_iload_n hx hb d_B_slotWith_0 rfl (lv_at hl 1 rfl) ?_
  refine lv_iconst (v := (nI 4)) hx hb d_B_slotWith_1 (by decide) ?_
  refine lv_imul hx hb d_B_slotWith_2 ?_
  refine tp_i (y := (nI (4 * bk))) (by rw [pk_mul, Nat.mul_comm]) ?_
  refine lv_istore_n (lv' := [(3, .int (nI (4 * bk))), (0, .ref h), (1, .int (nI bk)), (2, .int (nI v))]) hx hb d_B_slotWith_3 rfl hl (by decide) rfl (fun ls hl => ?_)
  refine lv_iload_n hx hb d_B_slotWith_4 rfl (lv_at hl 0 rfl) ?_
  refine lv_istore (lv' := [(4, .int (nI (4 * bk))), (3, .int (nI (4 * bk))), (0, .ref h), (1, .int (nI bk)), (2, .int (nI v))]) hx hb d_B_slotWith_5 hl (by decide) rfl (fun ls hl => ?_)
  have loop_7 : ∀ (k : Nat) (i : Nat), (i + k = 4 * bk + 4) → (fnd sl v (4 * bk) 4 = fnd sl v i k) → ∀ (ls : Array Slot), lv_has ls 5 [(4, .int (nI i)), (3, .int (nI (4 * bk))), (0, .ref h), (1, .int (nI bk)), (2, .int (nI v))] → W p l e { frames := 0, cells := 0, slots := 0, locals := 0 } s m ([.ref h, .int (nI bk), .int (nI v)] : List Value).toArray below meth c H0 [] 0 0 (MQx below (Rd H0 (.int (oI (fnd sl v (4 * bk) 4)))) s 0 0 (fun _ => False)) (F0 m 7 ls []) := by
    intro k
    induction k with
    | zero =>
      intro i hk hf  ls hl
      refine lv_iload hx hb d_B_slotWith_7 (lv_at hl 0 rfl) ?_
      refine lv_iload_n hx hb d_B_slotWith_9 rfl (lv_at hl 1 rfl) ?_
      refine lv_iconst (v := (nI 4)) hx hb d_B_slotWith_10 (by decide) ?_
      refine lv_iadd hx hb d_B_slotWith_11 ?_
      refine tp_i (y := (nI (4 * bk + 4))) (nI_add _ _) ?_
      refine lv_icmp_ge (tgt := 35) hx hb d_B_slotWith_12 (by decide) (fun c_12 => ?_) (fun c_12 => absurd (nI_le (by omega) (by omega)) c_12)
      refine lv_iconst (v := (-1)) hx hb d_B_slotWith_35 (by decide) ?_
      exact mx_iret hx hb hr hlk d_B_slotWith_36 (Nat.le_of_ble_eq_true rfl) (Nat.le_of_ble_eq_true rfl) (fun _ h => nomatch h) (⟨by rw [hf]; rfl, rfl⟩)
    | succ k ih_7 =>
      intro i hk hf  ls hl
      refine lv_iload hx hb d_B_slotWith_7 (lv_at hl 0 rfl) ?_
      refine lv_iload_n hx hb d_B_slotWith_9 rfl (lv_at hl 1 rfl) ?_
      refine lv_iconst (v := (nI 4)) hx hb d_B_slotWith_10 (by decide) ?_
      refine lv_iadd hx hb d_B_slotWith_11 ?_
      refine tp_i (y := (nI (4 * bk + 4))) (nI_add _ _) ?_
      refine lv_icmp_ge (tgt := 35) hx hb d_B_slotWith_12 (by decide) (fun c_12 => absurd c_12 (nI_ge (by omega) (by omega))) (fun c_12 => ?_)
      refine lv_aload_n hx hb d_B_slotWith_15 rfl (lv_at hl 2 rfl) ?_
      refine va_get (D := D) (ci := 1) (v := .ref h1) (C := R_B) (T := T_B) (N := 6) hx hb (us_B G hW) (fun _ h => h) hown hK hP 0 rfl rfl 3 (by decide) (fl_B_11 G hW) (fun _ h9 => h9) rfl d_B_slotWith_16 ?_
      refine lv_iload hx hb d_B_slotWith_19 (lv_at hl 0 rfl) ?_
      refine ia_ld hx hb hK hP 1 (j := i) rfl (by omega) (by decide) d_B_slotWith_21 ?_
      refine tp_i (y := (nI (sl i))) rfl ?_
      refine lv_iload_n hx hb d_B_slotWith_22 rfl (lv_at hl 4 rfl) ?_
      refine lv_icmp_ne (tgt := 29) hx hb d_B_slotWith_23 (by decide) (fun c_23 => ?_) (fun c_23 => ?_)
      · refine lv_iinc (v := (nI (i + 1))) (lv' := [(4, .int (nI (i + 1))), (3, .int (nI (4 * bk))), (0, .ref h), (1, .int (nI bk)), (2, .int (nI v))]) hx hb d_B_slotWith_29 hl (k := 0) rfl (nI_1 _) (by decide) rfl (fun ls hl => ?_)
        refine lv_goto (tgt := 7) hx hb d_B_slotWith_32 (by decide) ?_
        exact ih_7 (i + 1) (by omega) (by rw [hf, fnd_f (fun h9 => c_23 (by rw [h9]))]) ls (lv_sub hl [0, 1, 2, 3, 4] rfl)
      · refine lv_iload hx hb d_B_slotWith_26 (lv_at hl 0 rfl) ?_
        exact mx_iret hx hb hr hlk d_B_slotWith_28 (Nat.le_of_ble_eq_true rfl) (Nat.le_of_ble_eq_true rfl) (fun _ h => nomatch h) (⟨by rw [hf, fnd_t ((nI_eq (by have := hs i (by omega); omega) (by omega)).mp c_23)]; rfl, rfl⟩)
  exact loop_7 (4) (4 * bk) (by omega) (rfl) ls (lv_sub hl [0, 1, 2, 3, 4] rfl)

set_option maxHeartbeats 4000000 in
set_option maxRecDepth 100000 in
theorem c_B_putFree {l : Launch} {s0 : State} {D : va_G} {cI cF cJ : ClassId} (G : Gx l s0 D cI cF cJ) (h h1 h2 A B : Nat) (hd pu : Int32) (sl pt : Nat → Nat) (bk q : Nat) {H0 : Heap} {A0 : Nat → Prop} (hP : va_P D vcl [(h, .inr (1, [.int (nI A), .int (nI B), .int hd, .ref h1, .ref h2, .int pu])), (h1, aN cI 1024 sl), (h2, aN cI 64 pt)] H0) (hD : va_D A0 [(h, .inr (1, [.int (nI A), .int (nI B), .int hd, .ref h1, .ref h2, .int pu])), (h1, aN cI 1024 sl), (h2, aN cI 64 pt)]) (hA : A ≤ 8) (hs : ∀ j, j < 1024 → sl j < 65536) (hbk : bk < 2 ^ A) : Mx l s0 y_B_putFree (.code y_B_putFree b_B_putFree 4 (some .boolean)) { frames := 1, cells := 0, slots := 0, locals := 24 } [.ref h, .int (nI bk), .int (nI q)] H0 (Aa [h, h1, h2] H0.size) (Rw (.int (bI (fnd sl 0 (4 * bk) 4).isSome)) (fun H1 => va_P D vcl [(h, .inr (1, [.int (nI A), .int (nI B), .int hd, .ref h1, .ref h2, .int pu])), (h1, aN cI 1024 (pfB sl bk q)), (h2, aN cI 64 pt)] H1)) := by
  refine Mx.ofW (own := "FewBits$Buckets") rfl rfl ?_
  rintro p e s m below meth c ⟨hx, hb, hml, hr, hown, hW, hlk⟩ hnm het hH
  have hK := G.k hW
  have hD := hD.aa (sz := H0.size)
  have hD : va_D (Aa [h, h1, h2] H0.size) [(h, .inr (1, [.int (nI A), .int (nI B), .int hd, .ref h1, .ref h2, .int pu])), (h1, aN cI 1024 sl), (h2, aN cI 64 pt)] := hD
  have hS : va_S (Aa [h, h1, h2] H0.size) H0 H0 [] := va_S.rf
  have h8 := p2_le hA
  have hl := lv_entry ([.ref h, .int (nI bk), .int (nI q)]) (n := 4) (Nat.le_of_ble_eq_true rfl)
  rw [lg_entry_eq]
  generalize (lg_sl ([.ref h, .int (nI bk), .int (nI q)]) ++ List.replicate (4 - (lg_sl ([.ref h, .int (nI bk), .int (nI q)])).length) Slot.unset).toArray = ls at hl ⊢
  have hl : lv_has ls 4 [(0, .ref h), (1, .int (nI bk)), (2, .int (nI q))] := hl
  refine lv_aload_n hx hb d_B_putFree_0 rfl (lv_at hl 0 rfl) ?_
  refine lv_iload_n hx hb d_B_putFree_1 rfl (lv_at hl 1 rfl) ?_
  refine lv_iconst (v := (nI 0)) hx hb d_B_putFree_2 (by decide) ?_
  refine mx_callR (r := .int (oI (fnd sl 0 (4 * bk) 4))) (c_B_slotWith G h h1 h2 A B hd pu sl pt bk 0 hP hA hs hbk (by decide)) hW (iv_B_putFree_3 G hx hb hown hW (va_recv hK hP (ci := 1) (q0 := 0) rfl rfl) [.int (nI bk), .int (nI 0)] [] rfl) hml hl.1 (by rw [hb]; exact d_B_putFree_3) (cd_B_slotWith G hW) ⟨Nat.le_of_ble_eq_true rfl, Nat.le_of_ble_eq_true rfl⟩ rfl rfl (Nat.le_of_ble_eq_true rfl) (Nat.le_of_ble_eq_true rfl) (Nat.le_of_ble_eq_true rfl) ?_
  refine lv_istore_n (lv' := [(3, .int (oI (fnd sl 0 (4 * bk) 4))), (0, .ref h), (1, .int (nI bk)), (2, .int (nI q))]) hx hb d_B_putFree_6 rfl hl (by decide) rfl (fun ls hl => ?_)
  refine lv_iload_n hx hb d_B_putFree_7 rfl (lv_at hl 0 rfl) ?_
  refine lv_iconst (v := (-1)) hx hb d_B_putFree_8 (by decide) ?_
  refine lv_icmp_ne (tgt := 14) hx hb d_B_putFree_9 (by decide) (fun c_9 => ?_) (fun c_9 => ?_)
  · obtain ⟨j, hj⟩ := oI_some c_9
    have hj2 := fnd_in hj
    rw [hj] at hl
    have hl : lv_has ls 4 [(3, .int (nI j)), (0, .ref h), (1, .int (nI bk)), (2, .int (nI q))] := hl
    refine lv_aload_n hx hb d_B_putFree_14 rfl (lv_at hl 1 rfl) ?_
    refine va_get (D := D) (ci := 1) (v := .ref h1) (C := R_B) (T := T_B) (N := 6) hx hb (us_B G hW) (fun _ h => h) hown hK hP 0 rfl rfl 3 (by decide) (fl_B_11 G hW) (fun _ h9 => h9) rfl d_B_putFree_15 ?_
    refine lv_iload_n hx hb d_B_putFree_18 rfl (lv_at hl 0 rfl) ?_
    refine lv_iload_n hx hb d_B_putFree_19 rfl (lv_at hl 3 rfl) ?_
    refine ia_stN hx hb hK hP hD hS 1 (j := j) (x := q) (f := sl) rfl (by omega) (by decide) d_B_putFree_20 (fun H locs hP hD hS => ?_)
    have hP : va_P D vcl [(h, .inr (1, [.int (nI A), .int (nI B), .int hd, .ref h1, .ref h2, .int pu])), (h1, aN cI 1024 (va_up sl j q)), (h2, aN cI 64 pt)] H := hP
    have hD : va_D (Aa [h, h1, h2] H0.size) [(h, .inr (1, [.int (nI A), .int (nI B), .int hd, .ref h1, .ref h2, .int pu])), (h1, aN cI 1024 (va_up sl j q)), (h2, aN cI 64 pt)] := hD
    refine lv_iconst (v := (nI 1)) hx hb d_B_putFree_21 (by decide) ?_
    exact mx_zret hx hb hr hlk d_B_putFree_22 (Nat.le_of_ble_eq_true rfl) (Nat.le_of_ble_eq_true rfl) hS.2.2 (rfl) (⟨by rw [hj]; rfl, by rw [pfB_s hj]; exact hP⟩)
  · refine lv_iconst (v := (nI 0)) hx hb d_B_putFree_12 (by decide) ?_
    exact mx_zret hx hb hr hlk d_B_putFree_13 (Nat.le_of_ble_eq_true rfl) (Nat.le_of_ble_eq_true rfl) (fun _ h => nomatch h) (rfl) (⟨by rw [(oI_none (fun j hj => by have := fnd_in hj; omega) c_9)]; rfl, by rw [pfB_n (oI_none (fun j hj => by have := fnd_in hj; omega) c_9)]; exact hP⟩)

set_option maxHeartbeats 4000000 in
set_option maxRecDepth 100000 in
theorem c_B_exchange {l : Launch} {s0 : State} {D : va_G} {cI cF cJ : ClassId} (G : Gx l s0 D cI cF cJ) (h h1 h2 A B : Nat) (hd pu : Int32) (sl pt : Nat → Nat) (j q : Nat) {H0 : Heap} {A0 : Nat → Prop} (hP : va_P D vcl [(h, .inr (1, [.int (nI A), .int (nI B), .int hd, .ref h1, .ref h2, .int pu])), (h1, aN cI 1024 sl), (h2, aN cI 64 pt)] H0) (hD : va_D A0 [(h, .inr (1, [.int (nI A), .int (nI B), .int hd, .ref h1, .ref h2, .int pu])), (h1, aN cI 1024 sl), (h2, aN cI 64 pt)]) (hj : j < 1024) : Mx l s0 y_B_exchange (.code y_B_exchange b_B_exchange 4 (some .int)) { frames := 0, cells := 0, slots := 0, locals := 0 } [.ref h, .int (nI j), .int (nI q)] H0 (Aa [h, h1, h2] H0.size) (Rw (.int (nI (sl j))) (fun H1 => va_P D vcl [(h, .inr (1, [.int (nI A), .int (nI B), .int hd, .ref h1, .ref h2, .int pu])), (h1, aN cI 1024 (va_up sl j q)), (h2, aN cI 64 pt)] H1)) := by
  refine Mx.ofW (own := "FewBits$Buckets") rfl rfl ?_
  rintro p e s m below meth c ⟨hx, hb, hml, hr, hown, hW, hlk⟩ hnm het hH
  have hK := G.k hW
  have hD := hD.aa (sz := H0.size)
  have hD : va_D (Aa [h, h1, h2] H0.size) [(h, .inr (1, [.int (nI A), .int (nI B), .int hd, .ref h1, .ref h2, .int pu])), (h1, aN cI 1024 sl), (h2, aN cI 64 pt)] := hD
  have hS : va_S (Aa [h, h1, h2] H0.size) H0 H0 [] := va_S.rf
  have hl := lv_entry ([.ref h, .int (nI j), .int (nI q)]) (n := 4) (Nat.le_of_ble_eq_true rfl)
  rw [lg_entry_eq]
  generalize (lg_sl ([.ref h, .int (nI j), .int (nI q)]) ++ List.replicate (4 - (lg_sl ([.ref h, .int (nI j), .int (nI q)])).length) Slot.unset).toArray = ls at hl ⊢
  have hl : lv_has ls 4 [(0, .ref h), (1, .int (nI j)), (2, .int (nI q))] := hl
  refine lv_aload_n hx hb d_B_exchange_0 rfl (lv_at hl 0 rfl) ?_
  refine va_get (D := D) (ci := 1) (v := .ref h1) (C := R_B) (T := T_B) (N := 6) hx hb (us_B G hW) (fun _ h => h) hown hK hP 0 rfl rfl 3 (by decide) (fl_B_11 G hW) (fun _ h9 => h9) rfl d_B_exchange_1 ?_
  refine lv_iload_n hx hb d_B_exchange_4 rfl (lv_at hl 1 rfl) ?_
  refine ia_ld hx hb hK hP 1 (j := j) rfl (hj) (by decide) d_B_exchange_5 ?_
  refine tp_i (y := (nI (sl j))) rfl ?_
  refine lv_istore_n (lv' := [(3, .int (nI (sl j))), (0, .ref h), (1, .int (nI j)), (2, .int (nI q))]) hx hb d_B_exchange_6 rfl hl (by decide) rfl (fun ls hl => ?_)
  refine lv_aload_n hx hb d_B_exchange_7 rfl (lv_at hl 1 rfl) ?_
  refine va_get (D := D) (ci := 1) (v := .ref h1) (C := R_B) (T := T_B) (N := 6) hx hb (us_B G hW) (fun _ h => h) hown hK hP 0 rfl rfl 3 (by decide) (fl_B_11 G hW) (fun _ h9 => h9) rfl d_B_exchange_8 ?_
  refine lv_iload_n hx hb d_B_exchange_11 rfl (lv_at hl 2 rfl) ?_
  refine lv_iload_n hx hb d_B_exchange_12 rfl (lv_at hl 3 rfl) ?_
  refine ia_stN hx hb hK hP hD hS 1 (j := j) (x := q) (f := sl) rfl (hj) (by decide) d_B_exchange_13 (fun H locs hP hD hS => ?_)
  have hP : va_P D vcl [(h, .inr (1, [.int (nI A), .int (nI B), .int hd, .ref h1, .ref h2, .int pu])), (h1, aN cI 1024 (va_up sl j q)), (h2, aN cI 64 pt)] H := hP
  have hD : va_D (Aa [h, h1, h2] H0.size) [(h, .inr (1, [.int (nI A), .int (nI B), .int hd, .ref h1, .ref h2, .int pu])), (h1, aN cI 1024 (va_up sl j q)), (h2, aN cI 64 pt)] := hD
  refine lv_iload_n hx hb d_B_exchange_14 rfl (lv_at hl 0 rfl) ?_
  exact mx_iret hx hb hr hlk d_B_exchange_15 (Nat.le_of_ble_eq_true rfl) (Nat.le_of_ble_eq_true rfl) hS.2.2 (⟨rfl, hP⟩)

set_option maxHeartbeats 4000000 in
set_option maxRecDepth 100000 in
theorem c_B_pushBack {l : Launch} {s0 : State} {D : va_G} {cI cF cJ : ClassId} (G : Gx l s0 D cI cF cJ) (h h1 h2 A B : Nat) (hd pu : Int32) (sl pt : Nat → Nat) (q : Nat) {H0 : Heap} {A0 : Nat → Prop} (hP : va_P D vcl [(h, .inr (1, [.int (nI A), .int (nI B), .int hd, .ref h1, .ref h2, .int pu])), (h1, aN cI 1024 sl), (h2, aN cI 64 pt)] H0) (hD : va_D A0 [(h, .inr (1, [.int (nI A), .int (nI B), .int hd, .ref h1, .ref h2, .int pu])), (h1, aN cI 1024 sl), (h2, aN cI 64 pt)]) (hpt : ∀ i, i < 64 → pt i < 1024) : Mx l s0 y_B_pushBack (.code y_B_pushBack b_B_pushBack 4 none) { frames := 1, cells := 0, slots := 0, locals := 23 } [.ref h, .int (nI q)] H0 (Aa [h, h1, h2] H0.size) (Rn (fun H1 => va_P D vcl [(h, .inr (1, [.int (nI A), .int (nI B), .int hd, .ref h1, .ref h2, .int pu])), (h1, aN cI 1024 (bck pt 64 q sl)), (h2, aN cI 64 pt)] H1)) := by
  refine Mx.ofW (own := "FewBits$Buckets") rfl rfl ?_
  rintro p e s m below meth c ⟨hx, hb, hml, hr, hown, hW, hlk⟩ hnm het hH
  have hK := G.k hW
  have hD := hD.aa (sz := H0.size)
  have hD : va_D (Aa [h, h1, h2] H0.size) [(h, .inr (1, [.int (nI A), .int (nI B), .int hd, .ref h1, .ref h2, .int pu])), (h1, aN cI 1024 sl), (h2, aN cI 64 pt)] := hD
  have hS : va_S (Aa [h, h1, h2] H0.size) H0 H0 [] := va_S.rf
  have hl := lv_entry ([.ref h, .int (nI q)]) (n := 4) (Nat.le_of_ble_eq_true rfl)
  rw [lg_entry_eq]
  generalize (lg_sl ([.ref h, .int (nI q)]) ++ List.replicate (4 - (lg_sl ([.ref h, .int (nI q)])).length) Slot.unset).toArray = ls at hl ⊢
  have hl : lv_has ls 4 [(0, .ref h), (1, .int (nI q))] := hl
  refine lv_iload_n hx hb d_B_pushBack_0 rfl (lv_at hl 1 rfl) ?_
  refine lv_istore_n (lv' := [(2, .int (nI q)), (0, .ref h), (1, .int (nI q))]) hx hb d_B_pushBack_1 rfl hl (by decide) rfl (fun ls hl => ?_)
  refine lv_bipush (v := (nI 64 - nI 1)) hx hb d_B_pushBack_2 (by decide) ?_
  refine lv_istore_n (lv' := [(3, .int (nI 64 - nI 1)), (2, .int (nI q)), (0, .ref h), (1, .int (nI q))]) hx hb d_B_pushBack_4 rfl hl (by decide) rfl (fun ls hl => ?_)
  have loop_5 : ∀ (k : Nat) (g : Nat) (f : Nat → Nat), (k ≤ 64) → (bck pt 64 q sl = bck pt k g f) → ∀ (H : Heap) (locs : List Loc), va_P D vcl [(h, .inr (1, [.int (nI A), .int (nI B), .int hd, .ref h1, .ref h2, .int pu])), (h1, aN cI 1024 f), (h2, aN cI 64 pt)] H → va_D (Aa [h, h1, h2] H0.size) [(h, .inr (1, [.int (nI A), .int (nI B), .int hd, .ref h1, .ref h2, .int pu])), (h1, aN cI 1024 f), (h2, aN cI 64 pt)] → va_S (Aa [h, h1, h2] H0.size) H0 H locs → ∀ (ls : Array Slot), lv_has ls 4 [(3, .int (nI k - nI 1)), (2, .int (nI g)), (0, .ref h), (1, .int (nI q))] → W p l e { frames := 1, cells := 0, slots := 0, locals := 23 } s m ([.ref h, .int (nI q)] : List Value).toArray below meth c H locs 0 0 (MQx below (Rn (fun H1 => va_P D vcl [(h, .inr (1, [.int (nI A), .int (nI B), .int hd, .ref h1, .ref h2, .int pu])), (h1, aN cI 1024 (bck pt 64 q sl)), (h2, aN cI 64 pt)] H1)) s 0 0 (Aa [h, h1, h2] H0.size)) (F0 m 5 ls []) := by
    intro k
    induction k with
    | zero =>
      intro g f hk hf H locs hP hD hS ls hl
      refine lv_iload_n hx hb d_B_pushBack_5 rfl (lv_at hl 0 rfl) ?_
      refine lv_if_lt (tgt := 27) hx hb d_B_pushBack_6 (by decide) (fun c_6 => ?_) (fun c_6 => absurd (by decide) c_6)
      exact mx_vret hx hb hr hlk d_B_pushBack_27 (Nat.le_of_ble_eq_true rfl) (Nat.le_of_ble_eq_true rfl) hS.2.2 (⟨rfl, by rw [hf]; exact hP⟩)
    | succ k ih_5 =>
      intro g f hk hf H locs hP hD hS ls hl
      rw [show nI (k + 1) - nI 1 = nI k from pk_sub (by omega)] at hl
      have hl : lv_has ls 4 [(3, .int (nI k)), (2, .int (nI g)), (0, .ref h), (1, .int (nI q))] := hl
      refine lv_iload_n hx hb d_B_pushBack_5 rfl (lv_at hl 0 rfl) ?_
      refine lv_if_lt (tgt := 27) hx hb d_B_pushBack_6 (by decide) (fun c_6 => absurd c_6 (nI_pos (by omega))) (fun c_6 => ?_)
      refine lv_aload_n hx hb d_B_pushBack_9 rfl (lv_at hl 2 rfl) ?_
      refine lv_aload_n hx hb d_B_pushBack_10 rfl (lv_at hl 2 rfl) ?_
      refine va_get (D := D) (ci := 1) (v := .ref h2) (C := R_B) (T := T_B) (N := 6) hx hb (us_B G hW) (fun _ h => h) hown hK hP 0 rfl rfl 4 (by decide) (fl_B_15 G hW) (fun _ h9 => h9) rfl d_B_pushBack_11 ?_
      refine lv_iload_n hx hb d_B_pushBack_14 rfl (lv_at hl 0 rfl) ?_
      refine ia_ld hx hb hK hP 2 (j := k) rfl (by omega) (by decide) d_B_pushBack_15 ?_
      refine tp_i (y := (nI (pt k))) rfl ?_
      refine lv_iload_n hx hb d_B_pushBack_16 rfl (lv_at hl 1 rfl) ?_
      refine mx_callW (r := .int (nI (f (pt k)))) (c_B_exchange G h h1 h2 A B hd pu f pt (pt k) g hP hD (hpt k (by omega))) hW (iv_B_pushBack_17 G hx hb hown hW (va_recv hK hP (ci := 1) (q0 := 0) rfl rfl) [.int (nI (pt k)), .int (nI g)] [] rfl) hml hl.1 (by rw [hb]; exact d_B_pushBack_17) (cd_B_exchange G hW) ⟨Nat.le_of_ble_eq_true rfl, Nat.le_of_ble_eq_true rfl⟩ (Nat.le_of_ble_eq_true rfl) (Nat.le_of_ble_eq_true rfl) (Nat.le_of_ble_eq_true rfl) hS (Aa.mono (fun _ h => h) hS.1) (fun H locs hP _ _ hS => ?_)
      have hP : va_P D vcl [(h, .inr (1, [.int (nI A), .int (nI B), .int hd, .ref h1, .ref h2, .int pu])), (h1, aN cI 1024 (va_up f (pt k) g)), (h2, aN cI 64 pt)] H := hP
      have hD : va_D (Aa [h, h1, h2] H0.size) [(h, .inr (1, [.int (nI A), .int (nI B), .int hd, .ref h1, .ref h2, .int pu])), (h1, aN cI 1024 (va_up f (pt k) g)), (h2, aN cI 64 pt)] := va_D.same2 [h, h1, h2] hD rfl rfl
      refine lv_istore_n (lv' := [(2, .int (nI (f (pt k)))), (3, .int (nI k)), (0, .ref h), (1, .int (nI q))]) hx hb d_B_pushBack_20 rfl hl (by decide) rfl (fun ls hl => ?_)
      refine lv_iinc (v := (nI k - nI 1)) (lv' := [(3, .int (nI k - nI 1)), (2, .int (nI (f (pt k)))), (0, .ref h), (1, .int (nI q))]) hx hb d_B_pushBack_21 hl (k := 1) rfl (by rw [Int32.sub_eq_add_neg]; rfl) (by decide) rfl (fun ls hl => ?_)
      refine lv_goto (tgt := 5) hx hb d_B_pushBack_24 (by decide) ?_
      exact ih_5 (f (pt k)) (va_up f (pt k) g) (by omega) (hf) H locs hP hD hS ls (lv_sub hl [0, 1, 2, 3] rfl)
  exact loop_5 (64) (q) (sl) (by decide) (rfl) H0 [] hP hD hS ls (lv_sub hl [0, 1, 2, 3] rfl)

set_option maxHeartbeats 4000000 in
set_option maxRecDepth 100000 in
theorem c_B_pushInto {l : Launch} {s0 : State} {D : va_G} {cI cF cJ : ClassId} (G : Gx l s0 D cI cF cJ) (h h1 h2 A B : Nat) (hd pu : Int32) (sl pt : Nat → Nat) (bk q : Nat) {H0 : Heap} {A0 : Nat → Prop} (hP : va_P D vcl [(h, .inr (1, [.int (nI A), .int (nI B), .int hd, .ref h1, .ref h2, .int pu])), (h1, aN cI 1024 sl), (h2, aN cI 64 pt)] H0) (hD : va_D A0 [(h, .inr (1, [.int (nI A), .int (nI B), .int hd, .ref h1, .ref h2, .int pu])), (h1, aN cI 1024 sl), (h2, aN cI 64 pt)]) (hA : A ≤ 8) (hs : ∀ j, j < 1024 → sl j < 65536) (hbk : bk < 2 ^ A) (hq : q < 65536) : Mx l s0 y_B_pushInto (.code y_B_pushInto b_B_pushInto 6 (some .boolean)) { frames := 3, cells := 0, slots := 0, locals := 64 } [.ref h, .int (nI bk), .int (nI q)] H0 (Aa [h, h1, h2] H0.size) (Rw (.int (bI (psh A 64 0 bk q sl).1.isSome)) (fun H1 => ∃ pt1, va_P D vcl [(h, .inr (1, [.int (nI A), .int (nI B), .int hd, .ref h1, .ref h2, .int (pu + nI (psh A 64 0 bk q sl).2)])), (h1, aN cI 1024 ((psh A 64 0 bk q sl).1.getD sl)), (h2, aN cI 64 pt1)] H1)) := by
  refine Mx.ofW (own := "FewBits$Buckets") rfl rfl ?_
  rintro p e s m below meth c ⟨hx, hb, hml, hr, hown, hW, hlk⟩ hnm het hH
  have hK := G.k hW
  have hD := hD.aa (sz := H0.size)
  have hD : va_D (Aa [h, h1, h2] H0.size) [(h, .inr (1, [.int (nI A), .int (nI B), .int hd, .ref h1, .ref h2, .int pu])), (h1, aN cI 1024 sl), (h2, aN cI 64 pt)] := hD
  have hS : va_S (Aa [h, h1, h2] H0.size) H0 H0 [] := va_S.rf
  have h8 := p2_le hA
  have hpu : pu + nI 0 = pu := by rw [nI_0, Int32.add_zero]
  have hl := lv_entry ([.ref h, .int (nI bk), .int (nI q)]) (n := 6) (Nat.le_of_ble_eq_true rfl)
  rw [lg_entry_eq]
  generalize (lg_sl ([.ref h, .int (nI bk), .int (nI q)]) ++ List.replicate (6 - (lg_sl ([.ref h, .int (nI bk), .int (nI q)])).length) Slot.unset).toArray = ls at hl ⊢
  have hl : lv_has ls 6 [(0, .ref h), (1, .int (nI bk)), (2, .int (nI q))] := hl
  refine lv_iload_n hx hb d_B_pushInto_0 rfl (lv_at hl 1 rfl) ?_
  refine lv_istore_n (lv' := [(3, .int (nI bk)), (0, .ref h), (1, .int (nI bk)), (2, .int (nI q))]) hx hb d_B_pushInto_1 rfl hl (by decide) rfl (fun ls hl => ?_)
  refine lv_iload_n hx hb d_B_pushInto_2 rfl (lv_at hl 3 rfl) ?_
  refine lv_istore (lv' := [(4, .int (nI q)), (3, .int (nI bk)), (0, .ref h), (1, .int (nI bk)), (2, .int (nI q))]) hx hb d_B_pushInto_3 hl (by decide) rfl (fun ls hl => ?_)
  refine lv_iconst (v := (nI 0)) hx hb d_B_pushInto_5 (by decide) ?_
  refine lv_istore (lv' := [(5, .int (nI 0)), (4, .int (nI q)), (3, .int (nI bk)), (0, .ref h), (1, .int (nI bk)), (2, .int (nI q))]) hx hb d_B_pushInto_6 hl (by decide) rfl (fun ls hl => ?_)
  have loop_8 : ∀ (k : Nat) (i : Nat) (av : Nat) (g : Nat) (f : Nat → Nat) (r : Nat → Nat), (i + k = 64) → (av < 2 ^ A) → (g < 65536) → (∀ j, j < 1024 → f j < 65536) → (∀ j, j < i → r j < 1024) → ((psh A 64 0 bk q sl) = psh A k i av g f) → (bck r i g f = sl) → ∀ (H : Heap) (locs : List Loc), va_P D vcl [(h, .inr (1, [.int (nI A), .int (nI B), .int hd, .ref h1, .ref h2, .int (pu + nI i)])), (h1, aN cI 1024 f), (h2, aN cI 64 r)] H → va_D (Aa [h, h1, h2] H0.size) [(h, .inr (1, [.int (nI A), .int (nI B), .int hd, .ref h1, .ref h2, .int (pu + nI i)])), (h1, aN cI 1024 f), (h2, aN cI 64 r)] → va_S (Aa [h, h1, h2] H0.size) H0 H locs → ∀ (ls : Array Slot), lv_has ls 6 [(5, .int (nI i)), (4, .int (nI g)), (3, .int (nI av)), (0, .ref h), (1, .int (nI bk)), (2, .int (nI q))] → W p l e { frames := 3, cells := 0, slots := 0, locals := 64 } s m ([.ref h, .int (nI bk), .int (nI q)] : List Value).toArray below meth c H locs 0 0 (MQx below (Rw (.int (bI (psh A 64 0 bk q sl).1.isSome)) (fun H1 => ∃ pt1, va_P D vcl [(h, .inr (1, [.int (nI A), .int (nI B), .int hd, .ref h1, .ref h2, .int (pu + nI (psh A 64 0 bk q sl).2)])), (h1, aN cI 1024 ((psh A 64 0 bk q sl).1.getD sl)), (h2, aN cI 64 pt1)] H1)) s 0 0 (Aa [h, h1, h2] H0.size)) (F0 m 8 ls []) := by
    intro k
    induction k with
    | zero =>
      intro i av g f r hk hav hg hfs hrs hps hbk2 H locs hP hD hS ls hl
      refine lv_iload hx hb d_B_pushInto_8 (lv_at hl 0 rfl) ?_
      refine lv_bipush (v := (nI 64)) hx hb d_B_pushInto_10 (by decide) ?_
      refine lv_icmp_ge (tgt := 81) hx hb d_B_pushInto_12 (by decide) (fun c_12 => ?_) (fun c_12 => absurd (nI_le (by omega) (by omega)) c_12)
      obtain rfl : i = 64 := by omega
      refine lv_aload_n hx hb d_B_pushInto_81 rfl (lv_at hl 3 rfl) ?_
      refine lv_iload hx hb d_B_pushInto_82 (lv_at hl 1 rfl) ?_
      refine mx_callN (c_B_pushBack G h h1 h2 A B hd (pu + nI 64) f r g hP hD hrs) hW (iv_B_pushInto_84 G hx hb hown hW (va_recv hK hP (ci := 1) (q0 := 0) rfl rfl) [.int (nI g)] [] rfl) hml hl.1 (by rw [hb]; exact d_B_pushInto_84) (cd_B_pushBack G hW) ⟨Nat.le_of_ble_eq_true rfl, Nat.le_of_ble_eq_true rfl⟩ (Nat.le_of_ble_eq_true rfl) (Nat.le_of_ble_eq_true rfl) (Nat.le_of_ble_eq_true rfl) hS (Aa.mono (fun _ h => h) hS.1) (fun H locs hP _ _ hS => ?_)
      have hP : va_P D vcl [(h, .inr (1, [.int (nI A), .int (nI B), .int hd, .ref h1, .ref h2, .int (pu + nI 64)])), (h1, aN cI 1024 (bck r 64 g f)), (h2, aN cI 64 r)] H := hP
      have hD : va_D (Aa [h, h1, h2] H0.size) [(h, .inr (1, [.int (nI A), .int (nI B), .int hd, .ref h1, .ref h2, .int (pu + nI 64)])), (h1, aN cI 1024 (bck r 64 g f)), (h2, aN cI 64 r)] := va_D.same2 [h, h1, h2] hD rfl rfl
      refine lv_iconst (v := (nI 0)) hx hb d_B_pushInto_87 (by decide) ?_
      exact mx_zret hx hb hr hlk d_B_pushInto_88 (Nat.le_of_ble_eq_true rfl) (Nat.le_of_ble_eq_true rfl) hS.2.2 (rfl) (⟨by rw [hps]; rfl, r, by rw [hps]; rw [hbk2] at hP; exact hP⟩)
    | succ k ih_8 =>
      intro i av g f r hk hav hg hfs hrs hps hbk2 H locs hP hD hS ls hl
      refine lv_iload hx hb d_B_pushInto_8 (lv_at hl 0 rfl) ?_
      refine lv_bipush (v := (nI 64)) hx hb d_B_pushInto_10 (by decide) ?_
      refine lv_icmp_ge (tgt := 81) hx hb d_B_pushInto_12 (by decide) (fun c_12 => absurd c_12 (nI_ge (by omega) (by omega))) (fun c_12 => ?_)
      refine lv_aload_n hx hb d_B_pushInto_15 rfl (lv_at hl 3 rfl) ?_
      refine va_get (D := D) (ci := 1) (v := .ref h2) (C := R_B) (T := T_B) (N := 6) hx hb (us_B G hW) (fun _ h => h) hown hK hP 0 rfl rfl 4 (by decide) (fl_B_15 G hW) (fun _ h9 => h9) rfl d_B_pushInto_16 ?_
      refine lv_iload hx hb d_B_pushInto_19 (lv_at hl 0 rfl) ?_
      refine lv_iload_n hx hb d_B_pushInto_21 rfl (lv_at hl 2 rfl) ?_
      refine lv_iconst (v := (nI 4)) hx hb d_B_pushInto_22 (by decide) ?_
      refine lv_imul hx hb d_B_pushInto_23 ?_
      refine tp_i (y := (nI (4 * av))) (by rw [pk_mul, Nat.mul_comm]) ?_
      refine lv_iload hx hb d_B_pushInto_24 (lv_at hl 0 rfl) ?_
      refine lv_iconst (v := (nI 4)) hx hb d_B_pushInto_26 (by decide) ?_
      refine lv_irem hx hb d_B_pushInto_27 (by decide) ?_
      refine tp_i (y := (nI (i % 4))) (pk_rem (by omega) (by decide) (by decide)) ?_
      refine lv_iadd hx hb d_B_pushInto_28 ?_
      refine tp_i (y := (nI (4 * av + i % 4))) (nI_add _ _) ?_
      refine ia_stN hx hb hK hP hD hS 2 (j := i) (x := (4 * av + i % 4)) (f := r) rfl (by omega) (by decide) d_B_pushInto_29 (fun H locs hP hD hS => ?_)
      have hP : va_P D vcl [(h, .inr (1, [.int (nI A), .int (nI B), .int hd, .ref h1, .ref h2, .int (pu + nI i)])), (h1, aN cI 1024 f), (h2, aN cI 64 (va_up r i (4 * av + i % 4)))] H := hP
      have hD : va_D (Aa [h, h1, h2] H0.size) [(h, .inr (1, [.int (nI A), .int (nI B), .int hd, .ref h1, .ref h2, .int (pu + nI i)])), (h1, aN cI 1024 f), (h2, aN cI 64 (va_up r i (4 * av + i % 4)))] := hD
      refine lv_aload_n hx hb d_B_pushInto_30 rfl (lv_at hl 3 rfl) ?_
      refine lv_aload_n hx hb d_B_pushInto_31 rfl (lv_at hl 3 rfl) ?_
      refine va_get (D := D) (ci := 1) (v := .ref h2) (C := R_B) (T := T_B) (N := 6) hx hb (us_B G hW) (fun _ h => h) hown hK hP 0 rfl rfl 4 (by decide) (fl_B_15 G hW) (fun _ h9 => h9) rfl d_B_pushInto_32 ?_
      refine lv_iload hx hb d_B_pushInto_35 (lv_at hl 0 rfl) ?_
      refine ia_ld hx hb hK hP 2 (j := i) rfl (by omega) (by decide) d_B_pushInto_37 ?_
      refine tp_i (y := (nI ((va_up r i (4 * av + i % 4)) i))) rfl ?_
      refine tp_i (y := (nI (4 * av + i % 4))) (by rw [va_up_self]) ?_
      refine lv_iload hx hb d_B_pushInto_38 (lv_at hl 1 rfl) ?_
      refine mx_callW (r := .int (nI (f (4 * av + i % 4)))) (c_B_exchange G h h1 h2 A B hd (pu + nI i) f (va_up r i (4 * av + i % 4)) (4 * av + i % 4) g hP hD (by omega)) hW (iv_B_pushInto_40 G hx hb hown hW (va_recv hK hP (ci := 1) (q0 := 0) rfl rfl) [.int (nI (4 * av + i % 4)), .int (nI g)] [] rfl) hml hl.1 (by rw [hb]; exact d_B_pushInto_40) (cd_B_exchange G hW) ⟨Nat.le_of_ble_eq_true rfl, Nat.le_of_ble_eq_true rfl⟩ (Nat.le_of_ble_eq_true rfl) (Nat.le_of_ble_eq_true rfl) (Nat.le_of_ble_eq_true rfl) hS (Aa.mono (fun _ h => h) hS.1) (fun H locs hP _ _ hS => ?_)
      have hP : va_P D vcl [(h, .inr (1, [.int (nI A), .int (nI B), .int hd, .ref h1, .ref h2, .int (pu + nI i)])), (h1, aN cI 1024 (va_up f (4 * av + i % 4) g)), (h2, aN cI 64 (va_up r i (4 * av + i % 4)))] H := hP
      have hD : va_D (Aa [h, h1, h2] H0.size) [(h, .inr (1, [.int (nI A), .int (nI B), .int hd, .ref h1, .ref h2, .int (pu + nI i)])), (h1, aN cI 1024 (va_up f (4 * av + i % 4) g)), (h2, aN cI 64 (va_up r i (4 * av + i % 4)))] := va_D.same2 [h, h1, h2] hD rfl rfl
      refine lv_istore (lv' := [(4, .int (nI (f (4 * av + i % 4)))), (5, .int (nI i)), (3, .int (nI av)), (0, .ref h), (1, .int (nI bk)), (2, .int (nI q))]) hx hb d_B_pushInto_43 hl (by decide) rfl (fun ls hl => ?_)
      refine lv_aload_n hx hb d_B_pushInto_45 rfl (lv_at hl 3 rfl) ?_
      refine lv_dup hx hb d_B_pushInto_46 rfl ?_
      refine va_get (D := D) (ci := 1) (v := .int (pu + nI i)) (C := R_B) (T := T_B) (N := 6) hx hb (us_B G hW) (fun _ h => h) hown hK hP 0 rfl rfl 5 (by decide) (fl_B_28 G hW) (fun _ h9 => h9) rfl d_B_pushInto_47 ?_
      refine lv_iconst (v := (nI 1)) hx hb d_B_pushInto_50 (by decide) ?_
      refine lv_iadd hx hb d_B_pushInto_51 ?_
      refine tp_i (y := (pu + nI (i + 1))) (by rw [Int32.add_assoc, nI_add]) ?_
      refine va_put (D := D) (ci := 1) (v := .int (pu + nI (i + 1))) (ty := .int) (C := R_B) (T := T_B) (N := 6) hx hb (us_B G hW) (fun _ h => h) t_B to_B nm_B hown hK hP hD hS 0 rfl rfl 5 (by decide) (fl_B_28 G hW) (fun _ h9 => h9) rfl (by decide +kernel) rfl rfl (Nat.le_of_ble_eq_true rfl) d_B_pushInto_52 (fun H locs hP hD hS => ?_)
      have hP : va_P D vcl [(h, .inr (1, [.int (nI A), .int (nI B), .int hd, .ref h1, .ref h2, .int (pu + nI (i + 1))])), (h1, aN cI 1024 (va_up f (4 * av + i % 4) g)), (h2, aN cI 64 (va_up r i (4 * av + i % 4)))] H := hP
      have hD : va_D (Aa [h, h1, h2] H0.size) [(h, .inr (1, [.int (nI A), .int (nI B), .int hd, .ref h1, .ref h2, .int (pu + nI (i + 1))])), (h1, aN cI 1024 (va_up f (4 * av + i % 4) g)), (h2, aN cI 64 (va_up r i (4 * av + i % 4)))] := hD
      refine lv_aload_n hx hb d_B_pushInto_55 rfl (lv_at hl 3 rfl) ?_
      refine lv_iload_n hx hb d_B_pushInto_56 rfl (lv_at hl 2 rfl) ?_
      refine lv_iload hx hb d_B_pushInto_57 (lv_at hl 0 rfl) ?_
      refine mx_callR (r := .int (nI (obN A av (f (4 * av + i % 4))))) (c_B_otherBucket G h h1 h2 A B hd (pu + nI (i + 1)) (va_up f (4 * av + i % 4) g) (va_up r i (4 * av + i % 4)) av (f (4 * av + i % 4)) hP hA) hW (iv_B_pushInto_59 G hx hb hown hW (va_recv hK hP (ci := 1) (q0 := 0) rfl rfl) [.int (nI av), .int (nI (f (4 * av + i % 4)))] [] rfl) hml hl.1 (by rw [hb]; exact d_B_pushInto_59) (cd_B_otherBucket G hW) ⟨Nat.le_of_ble_eq_true rfl, Nat.le_of_ble_eq_true rfl⟩ rfl rfl (Nat.le_of_ble_eq_true rfl) (Nat.le_of_ble_eq_true rfl) (Nat.le_of_ble_eq_true rfl) ?_
      refine lv_istore_n (lv' := [(3, .int (nI (obN A av (f (4 * av + i % 4))))), (4, .int (nI (f (4 * av + i % 4)))), (5, .int (nI i)), (0, .ref h), (1, .int (nI bk)), (2, .int (nI q))]) hx hb d_B_pushInto_62 rfl hl (by decide) rfl (fun ls hl => ?_)
      refine lv_aload_n hx hb d_B_pushInto_63 rfl (lv_at hl 3 rfl) ?_
      refine lv_iload_n hx hb d_B_pushInto_64 rfl (lv_at hl 0 rfl) ?_
      refine lv_iload hx hb d_B_pushInto_65 (lv_at hl 1 rfl) ?_
      refine mx_callW (r := .int (bI (fnd (va_up f (4 * av + i % 4) g) 0 (4 * (obN A av (f (4 * av + i % 4)))) 4).isSome)) (c_B_putFree G h h1 h2 A B hd (pu + nI (i + 1)) (va_up f (4 * av + i % 4) g) (va_up r i (4 * av + i % 4)) (obN A av (f (4 * av + i % 4))) (f (4 * av + i % 4)) hP hD hA (up_lt hfs hg) (obN_lt hav _)) hW (iv_B_pushInto_67 G hx hb hown hW (va_recv hK hP (ci := 1) (q0 := 0) rfl rfl) [.int (nI (obN A av (f (4 * av + i % 4)))), .int (nI (f (4 * av + i % 4)))] [] rfl) hml hl.1 (by rw [hb]; exact d_B_pushInto_67) (cd_B_putFree G hW) ⟨Nat.le_of_ble_eq_true rfl, Nat.le_of_ble_eq_true rfl⟩ (Nat.le_of_ble_eq_true rfl) (Nat.le_of_ble_eq_true rfl) (Nat.le_of_ble_eq_true rfl) hS (Aa.mono (fun _ h => h) hS.1) (fun H locs hP _ _ hS => ?_)
      have hP : va_P D vcl [(h, .inr (1, [.int (nI A), .int (nI B), .int hd, .ref h1, .ref h2, .int (pu + nI (i + 1))])), (h1, aN cI 1024 (pfB (va_up f (4 * av + i % 4) g) (obN A av (f (4 * av + i % 4))) (f (4 * av + i % 4)))), (h2, aN cI 64 (va_up r i (4 * av + i % 4)))] H := hP
      have hD : va_D (Aa [h, h1, h2] H0.size) [(h, .inr (1, [.int (nI A), .int (nI B), .int hd, .ref h1, .ref h2, .int (pu + nI (i + 1))])), (h1, aN cI 1024 (pfB (va_up f (4 * av + i % 4) g) (obN A av (f (4 * av + i % 4))) (f (4 * av + i % 4)))), (h2, aN cI 64 (va_up r i (4 * av + i % 4)))] := va_D.same2 [h, h1, h2] hD rfl rfl
      refine lv_if_eq (tgt := 75) hx hb d_B_pushInto_70 (by decide) (fun c_70 => ?_) (fun c_70 => ?_)
      · have hn := sm_f (bI_f c_70)
        rw [pfB_n hn] at hP hD
        have hP : va_P D vcl [(h, .inr (1, [.int (nI A), .int (nI B), .int hd, .ref h1, .ref h2, .int (pu + nI (i + 1))])), (h1, aN cI 1024 (va_up f (4 * av + i % 4) g)), (h2, aN cI 64 (va_up r i (4 * av + i % 4)))] H := hP
        have hD : va_D (Aa [h, h1, h2] H0.size) [(h, .inr (1, [.int (nI A), .int (nI B), .int hd, .ref h1, .ref h2, .int (pu + nI (i + 1))])), (h1, aN cI 1024 (va_up f (4 * av + i % 4) g)), (h2, aN cI 64 (va_up r i (4 * av + i % 4)))] := hD
        refine lv_iinc (v := (nI (i + 1))) (lv' := [(5, .int (nI (i + 1))), (3, .int (nI (obN A av (f (4 * av + i % 4))))), (4, .int (nI (f (4 * av + i % 4)))), (0, .ref h), (1, .int (nI bk)), (2, .int (nI q))]) hx hb d_B_pushInto_75 hl (k := 2) rfl (nI_1 _) (by decide) rfl (fun ls hl => ?_)
        refine lv_goto (tgt := 8) hx hb d_B_pushInto_78 (by decide) ?_
        exact ih_8 (i + 1) ((obN A av (f (4 * av + i % 4)))) (f (4 * av + i % 4)) ((va_up f (4 * av + i % 4) g)) ((va_up r i (4 * av + i % 4))) (by omega) (obN_lt hav _) (hfs _ (by omega)) (up_lt hfs hg) (up_lt2 hrs (by omega)) (by rw [hps, psh_n hn]) (by rw [bck_step]; exact hbk2) H locs hP hD hS ls (lv_sub hl [0, 2, 1, 3, 4, 5] rfl)
      · obtain ⟨j, hj⟩ := sm_t (bI_t c_70)
        refine lv_iconst (v := (nI 1)) hx hb d_B_pushInto_73 (by decide) ?_
        exact mx_zret hx hb hr hlk d_B_pushInto_74 (Nat.le_of_ble_eq_true rfl) (Nat.le_of_ble_eq_true rfl) hS.2.2 (rfl) (⟨by rw [hps, psh_s hj]; rfl, _, by rw [hps, psh_s hj]; rw [pfB_s hj] at hP; exact hP⟩)
  rw [← hpu] at hP hD
  exact loop_8 (64) (0) (bk) (q) (sl) (pt) (by omega) (hbk) (hq) (hs) (fun j hj => absurd hj (by omega)) (rfl) (rfl) H0 [] hP hD hS ls (lv_sub hl [0, 1, 2, 3, 4, 5] rfl)

set_option maxHeartbeats 4000000 in
set_option maxRecDepth 100000 in
theorem c_B_put {l : Launch} {s0 : State} {D : va_G} {cI cF cJ : ClassId} (G : Gx l s0 D cI cF cJ) (h h1 h2 A B : Nat) (hd pu : Int32) (sl pt : Nat → Nat) (x : Int64) {H0 : Heap} {A0 : Nat → Prop} (hP : va_P D vcl [(h, .inr (1, [.int (nI A), .int (nI B), .int hd, .ref h1, .ref h2, .int pu])), (h1, aN cI 1024 sl), (h2, aN cI 64 pt)] H0) (hD : va_D A0 [(h, .inr (1, [.int (nI A), .int (nI B), .int hd, .ref h1, .ref h2, .int pu])), (h1, aN cI 1024 sl), (h2, aN cI 64 pt)]) (hA : A ≤ 8) (hB4 : 4 ≤ B) (hB : B ≤ 16) (hs : ∀ j, j < 1024 → sl j < 65536) : Mx l s0 y_B_put (.code y_B_put b_B_put 6 (some .boolean)) { frames := 4, cells := 0, slots := 0, locals := 89 } [.ref h, .long x] H0 (Aa [h, h1, h2] H0.size) (Rw (.int (bI (putB A B x sl).1.isSome)) (fun H1 => ∃ pt1, va_P D vcl [(h, .inr (1, [.int (nI A), .int (nI B), .int hd, .ref h1, .ref h2, .int (pu + nI (putB A B x sl).2)])), (h1, aN cI 1024 ((putB A B x sl).1.getD sl)), (h2, aN cI 64 pt1)] H1)) := by
  refine Mx.ofW (own := "FewBits$Buckets") rfl rfl ?_
  rintro p e s m below meth c ⟨hx, hb, hml, hr, hown, hW, hlk⟩ hnm het hH
  have hK := G.k hW
  have hD := hD.aa (sz := H0.size)
  have hD : va_D (Aa [h, h1, h2] H0.size) [(h, .inr (1, [.int (nI A), .int (nI B), .int hd, .ref h1, .ref h2, .int pu])), (h1, aN cI 1024 sl), (h2, aN cI 64 pt)] := hD
  have hS : va_S (Aa [h, h1, h2] H0.size) H0 H0 [] := va_S.rf
  have h8 := p2_le hA
  have hpu : pu + nI 0 = pu := by rw [nI_0, Int32.add_zero]
  have hl := lv_entry ([.ref h, .long x]) (n := 6) (Nat.le_of_ble_eq_true rfl)
  rw [lg_entry_eq]
  generalize (lg_sl ([.ref h, .long x]) ++ List.replicate (6 - (lg_sl ([.ref h, .long x])).length) Slot.unset).toArray = ls at hl ⊢
  have hl : lv_has ls 6 [(0, .ref h), (1, .long x)] := hl
  refine lv_aload_n hx hb d_B_put_0 rfl (lv_at hl 0 rfl) ?_
  refine lv_lload_n hx hb d_B_put_1 rfl (lv_at hl 1 rfl) ?_
  refine mx_callR (r := .int (nI (fpN B x))) (c_B_fingerprint G h h1 h2 A B hd pu sl pt x hP hA hB4 hB) hW (iv_B_put_2 G hx hb hown hW (va_recv hK hP (ci := 1) (q0 := 0) rfl rfl) [.long x] [] rfl) hml hl.1 (by rw [hb]; exact d_B_put_2) (cd_B_fingerprint G hW) ⟨Nat.le_of_ble_eq_true rfl, Nat.le_of_ble_eq_true rfl⟩ rfl rfl (Nat.le_of_ble_eq_true rfl) (Nat.le_of_ble_eq_true rfl) (Nat.le_of_ble_eq_true rfl) ?_
  refine lv_istore_n (lv' := [(3, .int (nI (fpN B x))), (0, .ref h), (1, .long x)]) hx hb d_B_put_5 rfl hl (by decide) rfl (fun ls hl => ?_)
  refine lv_aload_n hx hb d_B_put_6 rfl (lv_at hl 1 rfl) ?_
  refine lv_lload_n hx hb d_B_put_7 rfl (lv_at hl 2 rfl) ?_
  refine mx_callR (r := .int (nI (fbN A x))) (c_B_firstBucket G h h1 h2 A B hd pu sl pt x hP hA) hW (iv_B_put_8 G hx hb hown hW (va_recv hK hP (ci := 1) (q0 := 0) rfl rfl) [.long x] [] rfl) hml hl.1 (by rw [hb]; exact d_B_put_8) (cd_B_firstBucket G hW) ⟨Nat.le_of_ble_eq_true rfl, Nat.le_of_ble_eq_true rfl⟩ rfl rfl (Nat.le_of_ble_eq_true rfl) (Nat.le_of_ble_eq_true rfl) (Nat.le_of_ble_eq_true rfl) ?_
  refine lv_istore (lv' := [(4, .int (nI (fbN A x))), (3, .int (nI (fpN B x))), (0, .ref h), (1, .long x)]) hx hb d_B_put_11 hl (by decide) rfl (fun ls hl => ?_)
  refine lv_aload_n hx hb d_B_put_13 rfl (lv_at hl 2 rfl) ?_
  refine lv_iload hx hb d_B_put_14 (lv_at hl 0 rfl) ?_
  refine lv_iload_n hx hb d_B_put_16 rfl (lv_at hl 1 rfl) ?_
  refine mx_callR (r := .int (nI (obN A (fbN A x) (fpN B x)))) (c_B_otherBucket G h h1 h2 A B hd pu sl pt (fbN A x) (fpN B x) hP hA) hW (iv_B_put_17 G hx hb hown hW (va_recv hK hP (ci := 1) (q0 := 0) rfl rfl) [.int (nI (fbN A x)), .int (nI (fpN B x))] [] rfl) hml hl.1 (by rw [hb]; exact d_B_put_17) (cd_B_otherBucket G hW) ⟨Nat.le_of_ble_eq_true rfl, Nat.le_of_ble_eq_true rfl⟩ rfl rfl (Nat.le_of_ble_eq_true rfl) (Nat.le_of_ble_eq_true rfl) (Nat.le_of_ble_eq_true rfl) ?_
  refine lv_istore (lv' := [(5, .int (nI (obN A (fbN A x) (fpN B x)))), (4, .int (nI (fbN A x))), (3, .int (nI (fpN B x))), (0, .ref h), (1, .long x)]) hx hb d_B_put_20 hl (by decide) rfl (fun ls hl => ?_)
  refine lv_aload_n hx hb d_B_put_22 rfl (lv_at hl 3 rfl) ?_
  refine lv_iload hx hb d_B_put_23 (lv_at hl 1 rfl) ?_
  refine lv_iload_n hx hb d_B_put_25 rfl (lv_at hl 2 rfl) ?_
  refine mx_callW (r := .int (bI (fnd sl 0 (4 * (fbN A x)) 4).isSome)) (c_B_putFree G h h1 h2 A B hd pu sl pt (fbN A x) (fpN B x) hP hD hA hs (fbN_lt A x)) hW (iv_B_put_26 G hx hb hown hW (va_recv hK hP (ci := 1) (q0 := 0) rfl rfl) [.int (nI (fbN A x)), .int (nI (fpN B x))] [] rfl) hml hl.1 (by rw [hb]; exact d_B_put_26) (cd_B_putFree G hW) ⟨Nat.le_of_ble_eq_true rfl, Nat.le_of_ble_eq_true rfl⟩ (Nat.le_of_ble_eq_true rfl) (Nat.le_of_ble_eq_true rfl) (Nat.le_of_ble_eq_true rfl) hS (Aa.mono (fun _ h => h) hS.1) (fun H locs hP _ _ hS => ?_)
  have hP : va_P D vcl [(h, .inr (1, [.int (nI A), .int (nI B), .int hd, .ref h1, .ref h2, .int pu])), (h1, aN cI 1024 (pfB sl (fbN A x) (fpN B x))), (h2, aN cI 64 pt)] H := hP
  have hD : va_D (Aa [h, h1, h2] H0.size) [(h, .inr (1, [.int (nI A), .int (nI B), .int hd, .ref h1, .ref h2, .int pu])), (h1, aN cI 1024 (pfB sl (fbN A x) (fpN B x))), (h2, aN cI 64 pt)] := va_D.same2 [h, h1, h2] hD rfl rfl
  refine lv_if_ne (tgt := 52) hx hb d_B_put_29 (by decide) (fun c_29 => ?_) (fun c_29 => ?_)
  · refine lv_iconst (v := (nI 1)) hx hb d_B_put_52 (by decide) ?_
    refine lv_goto (tgt := 57) hx hb d_B_put_53 (by decide) ?_
    exact mx_zret hx hb hr hlk d_B_put_57 (Nat.le_of_ble_eq_true rfl) (Nat.le_of_ble_eq_true rfl) hS.2.2 (rfl) (by obtain ⟨j, hj⟩ := sm_t (bI_t c_29); exact ⟨by rw [putB_1 hj]; rfl, pt, by rw [putB_1 hj]; rw [pfB_s hj] at hP; show va_P D vcl [(h, .inr (1, [.int (nI A), .int (nI B), .int hd, .ref h1, .ref h2, .int (pu + nI 0)])), (h1, aN cI 1024 (va_up sl j (fpN B x))), (h2, aN cI 64 pt)] H; rw [hpu]; exact hP⟩)
  · have hn := sm_f (bI_f c_29)
    rw [pfB_n hn] at hP hD
    have hP : va_P D vcl [(h, .inr (1, [.int (nI A), .int (nI B), .int hd, .ref h1, .ref h2, .int pu])), (h1, aN cI 1024 sl), (h2, aN cI 64 pt)] H := hP
    have hD : va_D (Aa [h, h1, h2] H0.size) [(h, .inr (1, [.int (nI A), .int (nI B), .int hd, .ref h1, .ref h2, .int pu])), (h1, aN cI 1024 sl), (h2, aN cI 64 pt)] := hD
    refine lv_aload_n hx hb d_B_put_32 rfl (lv_at hl 3 rfl) ?_
    refine lv_iload hx hb d_B_put_33 (lv_at hl 0 rfl) ?_
    refine lv_iload_n hx hb d_B_put_35 rfl (lv_at hl 2 rfl) ?_
    refine mx_callW (r := .int (bI (fnd sl 0 (4 * (obN A (fbN A x) (fpN B x))) 4).isSome)) (c_B_putFree G h h1 h2 A B hd pu sl pt (obN A (fbN A x) (fpN B x)) (fpN B x) hP hD hA hs (obN_lt (fbN_lt A x) _)) hW (iv_B_put_36 G hx hb hown hW (va_recv hK hP (ci := 1) (q0 := 0) rfl rfl) [.int (nI (obN A (fbN A x) (fpN B x))), .int (nI (fpN B x))] [] rfl) hml hl.1 (by rw [hb]; exact d_B_put_36) (cd_B_putFree G hW) ⟨Nat.le_of_ble_eq_true rfl, Nat.le_of_ble_eq_true rfl⟩ (Nat.le_of_ble_eq_true rfl) (Nat.le_of_ble_eq_true rfl) (Nat.le_of_ble_eq_true rfl) hS (Aa.mono (fun _ h => h) hS.1) (fun H locs hP _ _ hS => ?_)
    have hP : va_P D vcl [(h, .inr (1, [.int (nI A), .int (nI B), .int hd, .ref h1, .ref h2, .int pu])), (h1, aN cI 1024 (pfB sl (obN A (fbN A x) (fpN B x)) (fpN B x))), (h2, aN cI 64 pt)] H := hP
    have hD : va_D (Aa [h, h1, h2] H0.size) [(h, .inr (1, [.int (nI A), .int (nI B), .int hd, .ref h1, .ref h2, .int pu])), (h1, aN cI 1024 (pfB sl (obN A (fbN A x) (fpN B x)) (fpN B x))), (h2, aN cI 64 pt)] := va_D.same2 [h, h1, h2] hD rfl rfl
    refine lv_if_ne (tgt := 52) hx hb d_B_put_39 (by decide) (fun c_39 => ?_) (fun c_39 => ?_)
    · refine lv_iconst (v := (nI 1)) hx hb d_B_put_52 (by decide) ?_
      refine lv_goto (tgt := 57) hx hb d_B_put_53 (by decide) ?_
      exact mx_zret hx hb hr hlk d_B_put_57 (Nat.le_of_ble_eq_true rfl) (Nat.le_of_ble_eq_true rfl) hS.2.2 (rfl) (by obtain ⟨j, hj⟩ := sm_t (bI_t c_39); exact ⟨by rw [putB_2 hn hj]; rfl, pt, by rw [putB_2 hn hj]; rw [pfB_s hj] at hP; show va_P D vcl [(h, .inr (1, [.int (nI A), .int (nI B), .int hd, .ref h1, .ref h2, .int (pu + nI 0)])), (h1, aN cI 1024 (va_up sl j (fpN B x))), (h2, aN cI 64 pt)] H; rw [hpu]; exact hP⟩)
    · have hn2 := sm_f (bI_f c_39)
      rw [pfB_n hn2] at hP hD
      have hP : va_P D vcl [(h, .inr (1, [.int (nI A), .int (nI B), .int hd, .ref h1, .ref h2, .int pu])), (h1, aN cI 1024 sl), (h2, aN cI 64 pt)] H := hP
      have hD : va_D (Aa [h, h1, h2] H0.size) [(h, .inr (1, [.int (nI A), .int (nI B), .int hd, .ref h1, .ref h2, .int pu])), (h1, aN cI 1024 sl), (h2, aN cI 64 pt)] := hD
      refine lv_aload_n hx hb d_B_put_42 rfl (lv_at hl 3 rfl) ?_
      refine lv_iload hx hb d_B_put_43 (lv_at hl 0 rfl) ?_
      refine lv_iload_n hx hb d_B_put_45 rfl (lv_at hl 2 rfl) ?_
      refine mx_callW (r := .int (bI (psh A 64 0 (obN A (fbN A x) (fpN B x)) (fpN B x) sl).1.isSome)) (c_B_pushInto G h h1 h2 A B hd pu sl pt (obN A (fbN A x) (fpN B x)) (fpN B x) hP hD hA hs (obN_lt (fbN_lt A x) _) (fpN_lt hB4 hB x)) hW (iv_B_put_46 G hx hb hown hW (va_recv hK hP (ci := 1) (q0 := 0) rfl rfl) [.int (nI (obN A (fbN A x) (fpN B x))), .int (nI (fpN B x))] [] rfl) hml hl.1 (by rw [hb]; exact d_B_put_46) (cd_B_pushInto G hW) ⟨Nat.le_of_ble_eq_true rfl, Nat.le_of_ble_eq_true rfl⟩ (Nat.le_of_ble_eq_true rfl) (Nat.le_of_ble_eq_true rfl) (Nat.le_of_ble_eq_true rfl) hS (Aa.mono (fun _ h => h) hS.1) (fun H locs hP _ _ hS => ?_)
      obtain ⟨pt1, hP⟩ := hP
      have hP : va_P D vcl [(h, .inr (1, [.int (nI A), .int (nI B), .int hd, .ref h1, .ref h2, .int (pu + nI (psh A 64 0 (obN A (fbN A x) (fpN B x)) (fpN B x) sl).2)])), (h1, aN cI 1024 ((psh A 64 0 (obN A (fbN A x) (fpN B x)) (fpN B x) sl).1.getD sl)), (h2, aN cI 64 pt1)] H := hP
      have hD : va_D (Aa [h, h1, h2] H0.size) [(h, .inr (1, [.int (nI A), .int (nI B), .int hd, .ref h1, .ref h2, .int (pu + nI (psh A 64 0 (obN A (fbN A x) (fpN B x)) (fpN B x) sl).2)])), (h1, aN cI 1024 ((psh A 64 0 (obN A (fbN A x) (fpN B x)) (fpN B x) sl).1.getD sl)), (h2, aN cI 64 pt1)] := va_D.same2 [h, h1, h2] hD rfl rfl
      refine lv_if_eq (tgt := 56) hx hb d_B_put_49 (by decide) (fun c_49 => ?_) (fun c_49 => ?_)
      · refine lv_iconst (v := (nI 0)) hx hb d_B_put_56 (by decide) ?_
        exact mx_zret hx hb hr hlk d_B_put_57 (Nat.le_of_ble_eq_true rfl) (Nat.le_of_ble_eq_true rfl) hS.2.2 (rfl) (⟨by rw [putB_3 hn hn2, bI_f c_49]; rfl, pt1, by rw [putB_3 hn hn2]; exact hP⟩)
      · refine lv_iconst (v := (nI 1)) hx hb d_B_put_52 (by decide) ?_
        refine lv_goto (tgt := 57) hx hb d_B_put_53 (by decide) ?_
        exact mx_zret hx hb hr hlk d_B_put_57 (Nat.le_of_ble_eq_true rfl) (Nat.le_of_ble_eq_true rfl) hS.2.2 (rfl) (⟨by rw [putB_3 hn hn2, bI_t c_49]; rfl, pt1, by rw [putB_3 hn hn2]; exact hP⟩)

set_option maxHeartbeats 4000000 in
set_option maxRecDepth 100000 in
theorem c_B_slotOf {l : Launch} {s0 : State} {D : va_G} {cI cF cJ : ClassId} (G : Gx l s0 D cI cF cJ) (h h1 h2 A B : Nat) (hd pu : Int32) (sl pt : Nat → Nat) (x : Int64) {H0 : Heap} (hP : va_P D vcl [(h, .inr (1, [.int (nI A), .int (nI B), .int hd, .ref h1, .ref h2, .int pu])), (h1, aN cI 1024 sl), (h2, aN cI 64 pt)] H0) (hA : A ≤ 8) (hB4 : 4 ≤ B) (hB : B ≤ 16) (hs : ∀ j, j < 1024 → sl j < 65536) : Mx l s0 y_B_slotOf (.code y_B_slotOf b_B_slotOf 6 (some .int)) { frames := 3, cells := 0, slots := 0, locals := 64 } [.ref h, .long x] H0 (fun _ => False) (Rd H0 (.int (oI (slotB A B x sl)))) := by
  refine Mx.ofW (own := "FewBits$Buckets") rfl rfl ?_
  rintro p e s m below meth c ⟨hx, hb, hml, hr, hown, hW, hlk⟩ hnm het hH
  have hK := G.k hW
  have h8 := p2_le hA
  have h91 := fbN_lt A x
  have hl := lv_entry ([.ref h, .long x]) (n := 6) (Nat.le_of_ble_eq_true rfl)
  rw [lg_entry_eq]
  generalize (lg_sl ([.ref h, .long x]) ++ List.replicate (6 - (lg_sl ([.ref h, .long x])).length) Slot.unset).toArray = ls at hl ⊢
  have hl : lv_has ls 6 [(0, .ref h), (1, .long x)] := hl
  refine lv_aload_n hx hb d_B_slotOf_0 rfl (lv_at hl 0 rfl) ?_
  refine lv_lload_n hx hb d_B_slotOf_1 rfl (lv_at hl 1 rfl) ?_
  refine mx_callR (r := .int (nI (fpN B x))) (c_B_fingerprint G h h1 h2 A B hd pu sl pt x hP hA hB4 hB) hW (iv_B_slotOf_2 G hx hb hown hW (va_recv hK hP (ci := 1) (q0 := 0) rfl rfl) [.long x] [] rfl) hml hl.1 (by rw [hb]; exact d_B_slotOf_2) (cd_B_fingerprint G hW) ⟨Nat.le_of_ble_eq_true rfl, Nat.le_of_ble_eq_true rfl⟩ rfl rfl (Nat.le_of_ble_eq_true rfl) (Nat.le_of_ble_eq_true rfl) (Nat.le_of_ble_eq_true rfl) ?_
  refine lv_istore_n (lv' := [(3, .int (nI (fpN B x))), (0, .ref h), (1, .long x)]) hx hb d_B_slotOf_5 rfl hl (by decide) rfl (fun ls hl => ?_)
  refine lv_aload_n hx hb d_B_slotOf_6 rfl (lv_at hl 1 rfl) ?_
  refine lv_lload_n hx hb d_B_slotOf_7 rfl (lv_at hl 2 rfl) ?_
  refine mx_callR (r := .int (nI (fbN A x))) (c_B_firstBucket G h h1 h2 A B hd pu sl pt x hP hA) hW (iv_B_slotOf_8 G hx hb hown hW (va_recv hK hP (ci := 1) (q0 := 0) rfl rfl) [.long x] [] rfl) hml hl.1 (by rw [hb]; exact d_B_slotOf_8) (cd_B_firstBucket G hW) ⟨Nat.le_of_ble_eq_true rfl, Nat.le_of_ble_eq_true rfl⟩ rfl rfl (Nat.le_of_ble_eq_true rfl) (Nat.le_of_ble_eq_true rfl) (Nat.le_of_ble_eq_true rfl) ?_
  refine lv_istore (lv' := [(4, .int (nI (fbN A x))), (3, .int (nI (fpN B x))), (0, .ref h), (1, .long x)]) hx hb d_B_slotOf_11 hl (by decide) rfl (fun ls hl => ?_)
  refine lv_aload_n hx hb d_B_slotOf_13 rfl (lv_at hl 2 rfl) ?_
  refine lv_iload hx hb d_B_slotOf_14 (lv_at hl 0 rfl) ?_
  refine lv_iload_n hx hb d_B_slotOf_16 rfl (lv_at hl 1 rfl) ?_
  refine mx_callR (r := .int (oI (fnd sl (fpN B x) (4 * (fbN A x)) 4))) (c_B_slotWith G h h1 h2 A B hd pu sl pt (fbN A x) (fpN B x) hP hA hs (fbN_lt A x) (fpN_lt hB4 hB x)) hW (iv_B_slotOf_17 G hx hb hown hW (va_recv hK hP (ci := 1) (q0 := 0) rfl rfl) [.int (nI (fbN A x)), .int (nI (fpN B x))] [] rfl) hml hl.1 (by rw [hb]; exact d_B_slotOf_17) (cd_B_slotWith G hW) ⟨Nat.le_of_ble_eq_true rfl, Nat.le_of_ble_eq_true rfl⟩ rfl rfl (Nat.le_of_ble_eq_true rfl) (Nat.le_of_ble_eq_true rfl) (Nat.le_of_ble_eq_true rfl) ?_
  refine lv_istore (lv' := [(5, .int (oI (fnd sl (fpN B x) (4 * (fbN A x)) 4))), (4, .int (nI (fbN A x))), (3, .int (nI (fpN B x))), (0, .ref h), (1, .long x)]) hx hb d_B_slotOf_20 hl (by decide) rfl (fun ls hl => ?_)
  refine lv_iload hx hb d_B_slotOf_22 (lv_at hl 0 rfl) ?_
  refine lv_iconst (v := (-1)) hx hb d_B_slotOf_24 (by decide) ?_
  refine lv_icmp_eq (tgt := 33) hx hb d_B_slotOf_25 (by decide) (fun c_25 => ?_) (fun c_25 => ?_)
  · refine lv_aload_n hx hb d_B_slotOf_33 rfl (lv_at hl 3 rfl) ?_
    refine lv_aload_n hx hb d_B_slotOf_34 rfl (lv_at hl 3 rfl) ?_
    refine lv_iload hx hb d_B_slotOf_35 (lv_at hl 1 rfl) ?_
    refine lv_iload_n hx hb d_B_slotOf_37 rfl (lv_at hl 2 rfl) ?_
    refine mx_callR (r := .int (nI (obN A (fbN A x) (fpN B x)))) (c_B_otherBucket G h h1 h2 A B hd pu sl pt (fbN A x) (fpN B x) hP hA) hW (iv_B_slotOf_38 G hx hb hown hW (va_recv hK hP (ci := 1) (q0 := 0) rfl rfl) [.int (nI (fbN A x)), .int (nI (fpN B x))] [.ref h] rfl) hml hl.1 (by rw [hb]; exact d_B_slotOf_38) (cd_B_otherBucket G hW) ⟨Nat.le_of_ble_eq_true rfl, Nat.le_of_ble_eq_true rfl⟩ rfl rfl (Nat.le_of_ble_eq_true rfl) (Nat.le_of_ble_eq_true rfl) (Nat.le_of_ble_eq_true rfl) ?_
    refine lv_iload_n hx hb d_B_slotOf_41 rfl (lv_at hl 2 rfl) ?_
    refine mx_callR (r := .int (oI (fnd sl (fpN B x) (4 * (obN A (fbN A x) (fpN B x))) 4))) (c_B_slotWith G h h1 h2 A B hd pu sl pt (obN A (fbN A x) (fpN B x)) (fpN B x) hP hA hs (obN_lt (fbN_lt A x) _) (fpN_lt hB4 hB x)) hW (iv_B_slotOf_42 G hx hb hown hW (va_recv hK hP (ci := 1) (q0 := 0) rfl rfl) [.int (nI (obN A (fbN A x) (fpN B x))), .int (nI (fpN B x))] [] rfl) hml hl.1 (by rw [hb]; exact d_B_slotOf_42) (cd_B_slotWith G hW) ⟨Nat.le_of_ble_eq_true rfl, Nat.le_of_ble_eq_true rfl⟩ rfl rfl (Nat.le_of_ble_eq_true rfl) (Nat.le_of_ble_eq_true rfl) (Nat.le_of_ble_eq_true rfl) ?_
    exact mx_iret hx hb hr hlk d_B_slotOf_45 (Nat.le_of_ble_eq_true rfl) (Nat.le_of_ble_eq_true rfl) (fun _ h => nomatch h) (⟨by rw [slotB_2 (oI_none (fun j hj => by have := fnd_in hj; omega) c_25)], rfl⟩)
  · refine lv_iload hx hb d_B_slotOf_28 (lv_at hl 0 rfl) ?_
    refine lv_goto (tgt := 45) hx hb d_B_slotOf_30 (by decide) ?_
    exact mx_iret hx hb hr hlk d_B_slotOf_45 (Nat.le_of_ble_eq_true rfl) (Nat.le_of_ble_eq_true rfl) (fun _ h => nomatch h) (by obtain ⟨j, hj⟩ := oI_some c_25; exact ⟨by rw [slotB_1 hj, hj], rfl⟩)

set_option maxHeartbeats 4000000 in
set_option maxRecDepth 100000 in
theorem c_B_take {l : Launch} {s0 : State} {D : va_G} {cI cF cJ : ClassId} (G : Gx l s0 D cI cF cJ) (h h1 h2 A B : Nat) (hd pu : Int32) (sl pt : Nat → Nat) (x : Int64) {H0 : Heap} {A0 : Nat → Prop} (hP : va_P D vcl [(h, .inr (1, [.int (nI A), .int (nI B), .int hd, .ref h1, .ref h2, .int pu])), (h1, aN cI 1024 sl), (h2, aN cI 64 pt)] H0) (hD : va_D A0 [(h, .inr (1, [.int (nI A), .int (nI B), .int hd, .ref h1, .ref h2, .int pu])), (h1, aN cI 1024 sl), (h2, aN cI 64 pt)]) (hA : A ≤ 8) (hB4 : 4 ≤ B) (hB : B ≤ 16) (hs : ∀ j, j < 1024 → sl j < 65536) : Mx l s0 y_B_take (.code y_B_take b_B_take 4 (some .boolean)) { frames := 4, cells := 0, slots := 0, locals := 89 } [.ref h, .long x] H0 (Aa [h, h1, h2] H0.size) (Rw (.int (bI (slotB A B x sl).isSome)) (fun H1 => va_P D vcl [(h, .inr (1, [.int (nI A), .int (nI B), .int hd, .ref h1, .ref h2, .int pu])), (h1, aN cI 1024 (tkB A B x sl)), (h2, aN cI 64 pt)] H1)) := by
  refine Mx.ofW (own := "FewBits$Buckets") rfl rfl ?_
  rintro p e s m below meth c ⟨hx, hb, hml, hr, hown, hW, hlk⟩ hnm het hH
  have hK := G.k hW
  have hD := hD.aa (sz := H0.size)
  have hD : va_D (Aa [h, h1, h2] H0.size) [(h, .inr (1, [.int (nI A), .int (nI B), .int hd, .ref h1, .ref h2, .int pu])), (h1, aN cI 1024 sl), (h2, aN cI 64 pt)] := hD
  have hS : va_S (Aa [h, h1, h2] H0.size) H0 H0 [] := va_S.rf
  have hl := lv_entry ([.ref h, .long x]) (n := 4) (Nat.le_of_ble_eq_true rfl)
  rw [lg_entry_eq]
  generalize (lg_sl ([.ref h, .long x]) ++ List.replicate (4 - (lg_sl ([.ref h, .long x])).length) Slot.unset).toArray = ls at hl ⊢
  have hl : lv_has ls 4 [(0, .ref h), (1, .long x)] := hl
  refine lv_aload_n hx hb d_B_take_0 rfl (lv_at hl 0 rfl) ?_
  refine lv_lload_n hx hb d_B_take_1 rfl (lv_at hl 1 rfl) ?_
  refine mx_callR (r := .int (oI (slotB A B x sl))) (c_B_slotOf G h h1 h2 A B hd pu sl pt x hP hA hB4 hB hs) hW (iv_B_take_2 G hx hb hown hW (va_recv hK hP (ci := 1) (q0 := 0) rfl rfl) [.long x] [] rfl) hml hl.1 (by rw [hb]; exact d_B_take_2) (cd_B_slotOf G hW) ⟨Nat.le_of_ble_eq_true rfl, Nat.le_of_ble_eq_true rfl⟩ rfl rfl (Nat.le_of_ble_eq_true rfl) (Nat.le_of_ble_eq_true rfl) (Nat.le_of_ble_eq_true rfl) ?_
  refine lv_istore_n (lv' := [(3, .int (oI (slotB A B x sl))), (0, .ref h), (1, .long x)]) hx hb d_B_take_5 rfl hl (by decide) rfl (fun ls hl => ?_)
  refine lv_iload_n hx hb d_B_take_6 rfl (lv_at hl 0 rfl) ?_
  refine lv_iconst (v := (-1)) hx hb d_B_take_7 (by decide) ?_
  refine lv_icmp_ne (tgt := 13) hx hb d_B_take_8 (by decide) (fun c_8 => ?_) (fun c_8 => ?_)
  · obtain ⟨j, hj⟩ := oI_some c_8
    have hj2 := slotB_in hA hj
    rw [hj] at hl
    have hl : lv_has ls 4 [(3, .int (nI j)), (0, .ref h), (1, .long x)] := hl
    refine lv_aload_n hx hb d_B_take_13 rfl (lv_at hl 1 rfl) ?_
    refine va_get (D := D) (ci := 1) (v := .ref h1) (C := R_B) (T := T_B) (N := 6) hx hb (us_B G hW) (fun _ h => h) hown hK hP 0 rfl rfl 3 (by decide) (fl_B_11 G hW) (fun _ h9 => h9) rfl d_B_take_14 ?_
    refine lv_iload_n hx hb d_B_take_17 rfl (lv_at hl 0 rfl) ?_
    refine lv_iconst (v := (nI 0)) hx hb d_B_take_18 (by decide) ?_
    refine ia_stN hx hb hK hP hD hS 1 (j := j) (x := 0) (f := sl) rfl (hj2.1) (by decide) d_B_take_19 (fun H locs hP hD hS => ?_)
    have hP : va_P D vcl [(h, .inr (1, [.int (nI A), .int (nI B), .int hd, .ref h1, .ref h2, .int pu])), (h1, aN cI 1024 (va_up sl j 0)), (h2, aN cI 64 pt)] H := hP
    have hD : va_D (Aa [h, h1, h2] H0.size) [(h, .inr (1, [.int (nI A), .int (nI B), .int hd, .ref h1, .ref h2, .int pu])), (h1, aN cI 1024 (va_up sl j 0)), (h2, aN cI 64 pt)] := hD
    refine lv_iconst (v := (nI 1)) hx hb d_B_take_20 (by decide) ?_
    exact mx_zret hx hb hr hlk d_B_take_21 (Nat.le_of_ble_eq_true rfl) (Nat.le_of_ble_eq_true rfl) hS.2.2 (rfl) (⟨by rw [hj]; rfl, by rw [tkB_s hj]; exact hP⟩)
  · refine lv_iconst (v := (nI 0)) hx hb d_B_take_11 (by decide) ?_
    exact mx_zret hx hb hr hlk d_B_take_12 (Nat.le_of_ble_eq_true rfl) (Nat.le_of_ble_eq_true rfl) (fun _ h => nomatch h) (rfl) (⟨by rw [(oI_none (fun j hj => by have := slotB_in hA hj; omega) c_8)]; rfl, by rw [tkB_n (oI_none (fun j hj => by have := slotB_in hA hj; omega) c_8)]; exact hP⟩)

set_option maxHeartbeats 4000000 in
set_option maxRecDepth 100000 in
theorem c_B_holds {l : Launch} {s0 : State} {D : va_G} {cI cF cJ : ClassId} (G : Gx l s0 D cI cF cJ) (h h1 h2 A B : Nat) (hd pu : Int32) (sl pt : Nat → Nat) (x : Int64) {H0 : Heap} (hP : va_P D vcl [(h, .inr (1, [.int (nI A), .int (nI B), .int hd, .ref h1, .ref h2, .int pu])), (h1, aN cI 1024 sl), (h2, aN cI 64 pt)] H0) (hA : A ≤ 8) (hB4 : 4 ≤ B) (hB : B ≤ 16) (hs : ∀ j, j < 1024 → sl j < 65536) : Mx l s0 y_B_holds (.code y_B_holds b_B_holds 3 (some .boolean)) { frames := 4, cells := 0, slots := 0, locals := 89 } [.ref h, .long x] H0 (fun _ => False) (Rd H0 (.int (bI (slotB A B x sl).isSome))) := by
  refine Mx.ofW (own := "FewBits$Buckets") rfl rfl ?_
  rintro p e s m below meth c ⟨hx, hb, hml, hr, hown, hW, hlk⟩ hnm het hH
  have hK := G.k hW
  have hl := lv_entry ([.ref h, .long x]) (n := 3) (Nat.le_of_ble_eq_true rfl)
  rw [lg_entry_eq]
  generalize (lg_sl ([.ref h, .long x]) ++ List.replicate (3 - (lg_sl ([.ref h, .long x])).length) Slot.unset).toArray = ls at hl ⊢
  have hl : lv_has ls 3 [(0, .ref h), (1, .long x)] := hl
  refine lv_aload_n hx hb d_B_holds_0 rfl (lv_at hl 0 rfl) ?_
  refine lv_lload_n hx hb d_B_holds_1 rfl (lv_at hl 1 rfl) ?_
  refine mx_callR (r := .int (oI (slotB A B x sl))) (c_B_slotOf G h h1 h2 A B hd pu sl pt x hP hA hB4 hB hs) hW (iv_B_holds_2 G hx hb hown hW (va_recv hK hP (ci := 1) (q0 := 0) rfl rfl) [.long x] [] rfl) hml hl.1 (by rw [hb]; exact d_B_holds_2) (cd_B_slotOf G hW) ⟨Nat.le_of_ble_eq_true rfl, Nat.le_of_ble_eq_true rfl⟩ rfl rfl (Nat.le_of_ble_eq_true rfl) (Nat.le_of_ble_eq_true rfl) (Nat.le_of_ble_eq_true rfl) ?_
  refine lv_iconst (v := (-1)) hx hb d_B_holds_5 (by decide) ?_
  refine lv_icmp_eq (tgt := 13) hx hb d_B_holds_6 (by decide) (fun c_6 => ?_) (fun c_6 => ?_)
  · refine lv_iconst (v := (nI 0)) hx hb d_B_holds_13 (by decide) ?_
    exact mx_zret hx hb hr hlk d_B_holds_14 (Nat.le_of_ble_eq_true rfl) (Nat.le_of_ble_eq_true rfl) (fun _ h => nomatch h) (rfl) (⟨by rw [(oI_none (fun j hj => by have := slotB_in hA hj; omega) c_6)]; rfl, rfl⟩)
  · refine lv_iconst (v := (nI 1)) hx hb d_B_holds_9 (by decide) ?_
    refine lv_goto (tgt := 14) hx hb d_B_holds_10 (by decide) ?_
    exact mx_zret hx hb hr hlk d_B_holds_14 (Nat.le_of_ble_eq_true rfl) (Nat.le_of_ble_eq_true rfl) (fun _ h => nomatch h) (rfl) (by obtain ⟨j, hj⟩ := oI_some c_6; exact ⟨by rw [hj]; rfl, rfl⟩)

set_option maxHeartbeats 4000000 in
set_option maxRecDepth 100000 in
theorem c_B_looksAlike {l : Launch} {s0 : State} {D : va_G} {cI cF cJ : ClassId} (G : Gx l s0 D cI cF cJ) (h h1 h2 A B : Nat) (hd pu : Int32) (sl pt : Nat → Nat) (x y : Int64) {H0 : Heap} (hP : va_P D vcl [(h, .inr (1, [.int (nI A), .int (nI B), .int hd, .ref h1, .ref h2, .int pu])), (h1, aN cI 1024 sl), (h2, aN cI 64 pt)] H0) (hA : A ≤ 8) (hB4 : 4 ≤ B) (hB : B ≤ 16) : Mx l s0 y_B_looksAlike (.code y_B_looksAlike b_B_looksAlike 8 (some .boolean)) { frames := 3, cells := 0, slots := 0, locals := 64 } [.ref h, .long x, .long y] H0 (fun _ => False) (Rd H0 (.int (bI (sameB A B x y)))) := by
  refine Mx.ofW (own := "FewBits$Buckets") rfl rfl ?_
  rintro p e s m below meth c ⟨hx, hb, hml, hr, hown, hW, hlk⟩ hnm het hH
  have hK := G.k hW
  have h8 := p2_le hA
  have hl := lv_entry ([.ref h, .long x, .long y]) (n := 8) (Nat.le_of_ble_eq_true rfl)
  rw [lg_entry_eq]
  generalize (lg_sl ([.ref h, .long x, .long y]) ++ List.replicate (8 - (lg_sl ([.ref h, .long x, .long y])).length) Slot.unset).toArray = ls at hl ⊢
  have hl : lv_has ls 8 [(0, .ref h), (1, .long x), (3, .long y)] := hl
  refine lv_aload_n hx hb d_B_looksAlike_0 rfl (lv_at hl 0 rfl) ?_
  refine lv_lload_n hx hb d_B_looksAlike_1 rfl (lv_at hl 1 rfl) ?_
  refine mx_callR (r := .int (nI (fpN B x))) (c_B_fingerprint G h h1 h2 A B hd pu sl pt x hP hA hB4 hB) hW (iv_B_looksAlike_2 G hx hb hown hW (va_recv hK hP (ci := 1) (q0 := 0) rfl rfl) [.long x] [] rfl) hml hl.1 (by rw [hb]; exact d_B_looksAlike_2) (cd_B_fingerprint G hW) ⟨Nat.le_of_ble_eq_true rfl, Nat.le_of_ble_eq_true rfl⟩ rfl rfl (Nat.le_of_ble_eq_true rfl) (Nat.le_of_ble_eq_true rfl) (Nat.le_of_ble_eq_true rfl) ?_
  refine lv_istore (lv' := [(5, .int (nI (fpN B x))), (0, .ref h), (1, .long x), (3, .long y)]) hx hb d_B_looksAlike_5 hl (by decide) rfl (fun ls hl => ?_)
  refine lv_iload hx hb d_B_looksAlike_7 (lv_at hl 0 rfl) ?_
  refine lv_aload_n hx hb d_B_looksAlike_9 rfl (lv_at hl 1 rfl) ?_
  refine lv_lload_n hx hb d_B_looksAlike_10 rfl (lv_at hl 3 rfl) ?_
  refine mx_callR (r := .int (nI (fpN B y))) (c_B_fingerprint G h h1 h2 A B hd pu sl pt y hP hA hB4 hB) hW (iv_B_looksAlike_11 G hx hb hown hW (va_recv hK hP (ci := 1) (q0 := 0) rfl rfl) [.long y] [.int (nI (fpN B x))] rfl) hml hl.1 (by rw [hb]; exact d_B_looksAlike_11) (cd_B_fingerprint G hW) ⟨Nat.le_of_ble_eq_true rfl, Nat.le_of_ble_eq_true rfl⟩ rfl rfl (Nat.le_of_ble_eq_true rfl) (Nat.le_of_ble_eq_true rfl) (Nat.le_of_ble_eq_true rfl) ?_
  refine lv_icmp_eq (tgt := 19) hx hb d_B_looksAlike_14 (by decide) (fun c_14 => ?_) (fun c_14 => ?_)
  · refine lv_aload_n hx hb d_B_looksAlike_19 rfl (lv_at hl 1 rfl) ?_
    refine lv_lload_n hx hb d_B_looksAlike_20 rfl (lv_at hl 2 rfl) ?_
    refine mx_callR (r := .int (nI (fbN A x))) (c_B_firstBucket G h h1 h2 A B hd pu sl pt x hP hA) hW (iv_B_looksAlike_21 G hx hb hown hW (va_recv hK hP (ci := 1) (q0 := 0) rfl rfl) [.long x] [] rfl) hml hl.1 (by rw [hb]; exact d_B_looksAlike_21) (cd_B_firstBucket G hW) ⟨Nat.le_of_ble_eq_true rfl, Nat.le_of_ble_eq_true rfl⟩ rfl rfl (Nat.le_of_ble_eq_true rfl) (Nat.le_of_ble_eq_true rfl) (Nat.le_of_ble_eq_true rfl) ?_
    refine lv_istore (lv' := [(6, .int (nI (fbN A x))), (5, .int (nI (fpN B x))), (0, .ref h), (1, .long x), (3, .long y)]) hx hb d_B_looksAlike_24 hl (by decide) rfl (fun ls hl => ?_)
    refine lv_aload_n hx hb d_B_looksAlike_26 rfl (lv_at hl 2 rfl) ?_
    refine lv_lload_n hx hb d_B_looksAlike_27 rfl (lv_at hl 4 rfl) ?_
    refine mx_callR (r := .int (nI (fbN A y))) (c_B_firstBucket G h h1 h2 A B hd pu sl pt y hP hA) hW (iv_B_looksAlike_28 G hx hb hown hW (va_recv hK hP (ci := 1) (q0 := 0) rfl rfl) [.long y] [] rfl) hml hl.1 (by rw [hb]; exact d_B_looksAlike_28) (cd_B_firstBucket G hW) ⟨Nat.le_of_ble_eq_true rfl, Nat.le_of_ble_eq_true rfl⟩ rfl rfl (Nat.le_of_ble_eq_true rfl) (Nat.le_of_ble_eq_true rfl) (Nat.le_of_ble_eq_true rfl) ?_
    refine lv_istore (lv' := [(7, .int (nI (fbN A y))), (6, .int (nI (fbN A x))), (5, .int (nI (fpN B x))), (0, .ref h), (1, .long x), (3, .long y)]) hx hb d_B_looksAlike_31 hl (by decide) rfl (fun ls hl => ?_)
    refine lv_iload hx hb d_B_looksAlike_33 (lv_at hl 1 rfl) ?_
    refine lv_iload hx hb d_B_looksAlike_35 (lv_at hl 0 rfl) ?_
    refine lv_icmp_eq (tgt := 53) hx hb d_B_looksAlike_37 (by decide) (fun c_37 => ?_) (fun c_37 => ?_)
    · refine lv_iconst (v := (nI 1)) hx hb d_B_looksAlike_53 (by decide) ?_
      refine lv_goto (tgt := 58) hx hb d_B_looksAlike_54 (by decide) ?_
      exact mx_zret hx hb hr hlk d_B_looksAlike_58 (Nat.le_of_ble_eq_true rfl) (Nat.le_of_ble_eq_true rfl) (fun _ h => nomatch h) (rfl) (⟨by rw [show sameB A B x y = true by unfold sameB; rw [decide_eq_true ((nI_eq (by have := fpN_lt hB4 hB x; omega) (by have := fpN_lt hB4 hB y; omega)).mp c_14), decide_eq_true ((nI_eq (by have := fbN_lt A x; omega) (by have := fbN_lt A y; omega)).mp c_37)]; rfl]; rfl, rfl⟩)
    · refine lv_aload_n hx hb d_B_looksAlike_40 rfl (lv_at hl 3 rfl) ?_
      refine lv_iload hx hb d_B_looksAlike_41 (lv_at hl 1 rfl) ?_
      refine lv_iload hx hb d_B_looksAlike_43 (lv_at hl 2 rfl) ?_
      refine mx_callR (r := .int (nI (obN A (fbN A x) (fpN B x)))) (c_B_otherBucket G h h1 h2 A B hd pu sl pt (fbN A x) (fpN B x) hP hA) hW (iv_B_looksAlike_45 G hx hb hown hW (va_recv hK hP (ci := 1) (q0 := 0) rfl rfl) [.int (nI (fbN A x)), .int (nI (fpN B x))] [] rfl) hml hl.1 (by rw [hb]; exact d_B_looksAlike_45) (cd_B_otherBucket G hW) ⟨Nat.le_of_ble_eq_true rfl, Nat.le_of_ble_eq_true rfl⟩ rfl rfl (Nat.le_of_ble_eq_true rfl) (Nat.le_of_ble_eq_true rfl) (Nat.le_of_ble_eq_true rfl) ?_
      refine lv_iload hx hb d_B_looksAlike_48 (lv_at hl 0 rfl) ?_
      refine lv_icmp_ne (tgt := 57) hx hb d_B_looksAlike_50 (by decide) (fun c_50 => ?_) (fun c_50 => ?_)
      · refine lv_iconst (v := (nI 0)) hx hb d_B_looksAlike_57 (by decide) ?_
        exact mx_zret hx hb hr hlk d_B_looksAlike_58 (Nat.le_of_ble_eq_true rfl) (Nat.le_of_ble_eq_true rfl) (fun _ h => nomatch h) (rfl) (⟨by rw [show sameB A B x y = false by unfold sameB; rw [decide_eq_false (show ¬ fbN A x = fbN A y from fun h9 => c_37 (by rw [h9])), decide_eq_false (show ¬ obN A (fbN A x) (fpN B x) = fbN A y from fun h9 => c_50 (by rw [h9]))]; simp]; rfl, rfl⟩)
      · refine lv_iconst (v := (nI 1)) hx hb d_B_looksAlike_53 (by decide) ?_
        refine lv_goto (tgt := 58) hx hb d_B_looksAlike_54 (by decide) ?_
        exact mx_zret hx hb hr hlk d_B_looksAlike_58 (Nat.le_of_ble_eq_true rfl) (Nat.le_of_ble_eq_true rfl) (fun _ h => nomatch h) (rfl) (⟨by rw [show sameB A B x y = true by unfold sameB; rw [decide_eq_true ((nI_eq (by have := fpN_lt hB4 hB x; omega) (by have := fpN_lt hB4 hB y; omega)).mp c_14), decide_eq_true ((nI_eq (by have := obN_lt (fbN_lt A x) (fpN B x); omega) (by have := fbN_lt A y; omega)).mp c_50)]; simp]; rfl, rfl⟩)
  · refine lv_iconst (v := (nI 0)) hx hb d_B_looksAlike_17 (by decide) ?_
    exact mx_zret hx hb hr hlk d_B_looksAlike_18 (Nat.le_of_ble_eq_true rfl) (Nat.le_of_ble_eq_true rfl) (fun _ h => nomatch h) (rfl) (⟨by rw [show sameB A B x y = false by unfold sameB; rw [decide_eq_false (fun h9 => c_14 (by rw [h9]))]; rfl]; rfl, rfl⟩)
end
