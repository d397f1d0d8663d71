/-! the throw's heap words, kept: the statics lie below the law's start -/
def thL (C n d : String) (A : Nat → Prop) (U : State) (H : Heap) : Prop := ∃ (c : ClassId) (k : Class) (i : Nat) (f : Field) (a : Nat) (cell : Cell), U.vm.findClass C = some c ∧ U.fieldFound? C n d = some (c, k, i, f) ∧ f.isStatic = true ∧ k.statics = some a ∧ H[a]? = some cell ∧ cell.vm.isStatics = true ∧ cell.cls = c ∧ f.slot < cell.slots.size ∧ k.staticTypes[f.slot]? = some f.type ∧ ¬ A a
theorem thL.moved {C n d : String} {A : Nat → Prop} {u U : State} {H : Heap} (hvm : u.vm.Alike U.vm) (h : thL C n d A u H) : thL C n d A U H := by
  obtain ⟨c, k, i, f, a, cell, h1, h2, h3, h4, h5, h6, h7, h8, h9, h10⟩ := h
  obtain ⟨k', hi', he⟩ := State.fieldFound?_setVm hvm h2
  exact ⟨c, k', i, f, a, cell, by rw [hvm.findClass]; exact h1, hi', h3, by rw [he]; exact h4, h5, h6, h7, h8, by rw [he]; exact h9, h10⟩
theorem thL.kept {C n d : String} {A : Nat → Prop} {U : State} {H H1 : Heap} (h : thL C n d A U H) (hq : ∀ a : Nat, a < H.size → ¬ A a → H1[a]? = H[a]?) : thL C n d A U H1 := by
  obtain ⟨c, k, i, f, a, cell, h1, h2, h3, h4, h5, h6, h7, h8, h9, h10⟩ := h
  exact ⟨c, k, i, f, a, cell, h1, h2, h3, h4, by rw [hq a (Array.getElem?_eq_some_iff.mp h5).1 h10]; exact h5, h6, h7, h8, h9, h10⟩
theorem thL.word {C n d : String} {A : Nat → Prop} {s : State} {args : Array Value} (h : thL C n d A s s.heap) : (Cond.laysStatic C n d).before args s = true := by
  obtain ⟨c, k, i, f, a, cell, h1, h2, h3, h4, h5, h6, h7, h8, h9, -⟩ := h
  show (Cond.laysStatic C n d).holds args s none s [] = true
  exact Cond.laysStatic_of h1 h2 h3 h4 h5 h6 h7 h8 h9
theorem th_isRef {C n d : String} {v : Value} {A : Nat → Prop} {s : State} {args : Array Value} (h : va_Z C n d v A s s.heap) (hv : v.isRef = true) : (Cond.isRef (.static C n d)).before args s = true := by
  obtain ⟨cf, kf, fi, f, a, cell, h1, h2, h3, h4, h5, h6, h7, -⟩ := h
  have he : (Term.static C n d).eval args s none [] s = some v := by
    simp [Term.eval, State.fieldNamed?, h1, h2, h4, h5, h6, h7]
  simp only [Cond.before, Cond.holds, Cond.value, he]
  cases v <;> simp_all [Value.isRef]
theorem th_isRefq {C n d : String} {A : Nat → Prop} {s : State} {args : Array Value} (h : va_Zq C n d A s s.heap) : (Cond.isRef (.static C n d)).before args s = true := by
  rcases h with h | ⟨t, h⟩
  · exact th_isRef h rfl
  · exact th_isRef h rfl
theorem th_heap {s0 s1 : State} {a0 a1 : Array Value} {C n d : String} (hl : (Cond.laysStatic C n d).before a0 s0 = true) (hini : (Cond.initialized C).before a0 s0 = true) (h : (Cond.isRef (.static C n d)).before a0 s0 = true)
    (hW : s0.WarmedH s1.vm) (hag : ∀ q : Nat, q < s0.heap.size → s1.heap[q]? = s0.heap[q]?) (args : Array Value) : (Cond.laysStatic C n d).before args s1 = true ∧ (Cond.isRef (.static C n d)).before args s1 = true := by
  have hA : ∀ a : Nat, a < s0.heap.size → ¬ (s0.heap.size ≤ a) := fun a h => Nat.not_le.mpr h
  have h1 := va_Zqof (A := fun q => s0.heap.size ≤ q) hl hini h hA
  have h2 : thL C n d (fun q => s0.heap.size ≤ q) s0 s0.heap := by
    obtain ⟨c, k, i, f, a, cell, h1, h2, h3, h4, h5, h6, h7, h8, h9⟩ := Cond.laysStatic_spec hl
    exact ⟨c, k, i, f, a, cell, h1, h2, h3, h4, h5, h6, h7, h8, h9, hA a (Array.getElem?_eq_some_iff.mp h5).1⟩
  have h3 := va_Zq.moved hW.alike (va_Zq.kept h1 (H1 := s1.heap) (fun a ha _ => hag a ha))
  have h4 := thL.moved hW.alike (thL.kept h2 (H1 := s1.heap) (fun a ha _ => hag a ha))
  exact ⟨h4.word, th_isRefq h3⟩
/-- all words of a throw, at a state whose heap bears the law's start -/
theorem th_all {l : Launch} {s0 : State} {D : va_G} {cI cF cJ : ClassId} (G : Gx l s0 D cI cF cJ) {ik ic ix : Nat} {E : String} {rx : ByteArray} (hF : thF s0 ik ic E ix rx) {s1 : State} (hW : s0.WarmedH s1.vm) (hag : ∀ q : Nat, q < s0.heap.size → s1.heap[q]? = s0.heap[q]?) (args : Array Value) :
    ∀ w ∈ thW "FewBits" ic E ix rx, w.before args s1 = true := by
  obtain ⟨a1, hr1⟩ := rf_U G
  obtain ⟨a2, hr2⟩ := rf_S G
  obtain ⟨a3, htb⟩ := G.1
  have w1 : ∀ (a : Array Value), (Cond.laysStatic Bundle.tN "UNASSIGNED_STACK" Bundle.steD).before a s0 = true := fun a => htb _ (List.mem_append_right _ (List.mem_of_getElem? (i := 90) rfl))
  have w2 : ∀ (a : Array Value), (Cond.laysStatic Bundle.tN "SUPPRESSED_SENTINEL" Bundle.listD).before a s0 = true := fun a => htb _ (List.mem_append_right _ (List.mem_of_getElem? (i := 92) rfl))
  have w3 : ∀ (a : Array Value), (Cond.initialized Bundle.tN).before a s0 = true := fun a => G.1.at 3 rfl rfl a (State.WarmedH.refl s0)
  obtain ⟨lU, rU⟩ := th_heap (a1 := a1) (w1 a1) (w3 a1) hr1 hW hag args
  obtain ⟨lN, rN⟩ := th_heap (a1 := a1) (w2 a2) (w3 a2) hr2 hW hag args
  intro w hw
  by_cases e1 : w = .isRef (.static Bundle.tN "UNASSIGNED_STACK" Bundle.steD)
  · rw [e1]; exact rU
  · by_cases e2 : w = .isRef (.static Bundle.tN "SUPPRESSED_SENTINEL" Bundle.listD)
    · rw [e2]; exact rN
    · by_cases e3 : w = .laysStatic Bundle.tN "UNASSIGNED_STACK" Bundle.steD
      · rw [e3]; exact lU
      · by_cases e4 : w = .laysStatic Bundle.tN "SUPPRESSED_SENTINEL" Bundle.listD
        · rw [e4]; exact lN
        · exact ((hF.2.2.2.2.2 args s1 hW).2.2) w (List.mem_filter.mpr ⟨hw, by unfold thNo; rw [decide_eq_true e1, decide_eq_true e2, decide_eq_true e3, decide_eq_true e4]; rfl⟩)
section THROW
variable {p : Program} {l : Launch} {e : Env} {R : Room} {s : State} {m : MethodId} {args : Array Value} {below : List Frame} {meth : Method} {c : Code} {H : Heap} {locs : List Loc} {cells slots : Nat}
/-- the same frame, seen from here: as if the method were called anew in this heap -/
theorem th_rebase {T : State} (X : Stand p l e R s m args below meth c T locs cells slots) {R' : Room} (hf : R'.frames ≤ R.frames) (hl : R'.locals ≤ R.locals) (hc : cells + R'.cells ≤ R.cells) (hs : slots + R'.slots ≤ R.slots) :
    Stand p l e R' ((T.setVm s.vm).setFrames (.invoking m args :: below)) m args below meth c T [] 0 0 := by
  have htop : (T.setVm s.vm).topJava?.isSome := X.here.top
  have hF : ((T.setVm s.vm).setFrames (.invoking m args :: below)).frames = .invoking m args :: below := State.frames_setFrames _ (State.cur_lt_of_top htop)
  obtain ⟨g₀, hg0⟩ := Option.isSome_iff_exists.mp htop
  obtain ⟨r, hr⟩ := State.topJava?_eq_some.mp hg0
  have hl9 : e.platform.stackLimits (T.setVm s.vm).me = e.platform.stackLimits s.me := X.limits
  have hb9 : (T.setVm s.vm).me.stackBytes = s.me.stackBytes := X.bytes
  refine ⟨X.admits, X.cas, X.clock, hF, ?_, X.hears, X.method, X.code, X.here, X.tail, X.warmed, ?_, ?_, ?_⟩
  · have h := X.room
    have hU : ((T.setVm s.vm).setFrames (.invoking m args :: below)).localsInUse = s.localsInUse := by
      rw [State.localsInUse_invoking hF (meth := meth) (c := c) X.method X.code, State.localsInUse_invoking X.frames X.method X.code]
    simp only [State.hasRoom, Bool.and_eq_true, decide_eq_true_eq] at h ⊢
    obtain ⟨⟨⟨⟨h1, h2, h3, h4, h5, h6⟩, h7⟩, h8⟩, h9⟩ := h
    rw [X.frames, List.length_cons] at h2 h3
    have q1 := X.heapSize
    have q2 := X.used
    simp only [hF, hU, List.length_cons, State.stackLimits_setFrames, State.stackBytes_setFrames, hl9, hb9]
    refine ⟨⟨⟨⟨by omega, by omega, by omega, by omega, by omega, h6⟩, ?_⟩, ?_⟩, X.book⟩
    · show T.heap.size + R'.cells ≤ e.platform.maxCells
      omega
    · show T.slotsUsed + R'.slots ≤ e.platform.maxSlots
      omega
  · rw [State.stackLimits_setFrames]; rfl
  · rw [State.stackBytes_setFrames]; rfl
  · refine ⟨?_, Nat.le_refl _, Nat.le_refl _, ?_, ?_, fun a c9 h9 => ⟨c9, h9, rfl, rfl, fun _ _ => rfl⟩⟩
    · obtain ⟨t, ht, -⟩ := State.frames_cons hr
      show T.setVm s.vm = { ((T.setVm s.vm).setFrames (.invoking m args :: below)).setFrames (T.setVm s.vm).frames with heap := T.heap, slotsUsed := T.slotsUsed }
      rw [State.setFrames_setFrames, State.setFrames_self ht]
      rfl
    · show T.slotsUsed = T.slotsUsed + ((T.heap.toList.drop T.heap.size).map (·.slots.size)).sum
      rw [List.drop_eq_nil_of_le (Nat.le_of_eq Array.length_toList)]
      rfl
    · show ((T.heap.toList.drop T.heap.size).map (·.slots.size)).sum ≤ 0
      rw [List.drop_eq_nil_of_le (Nat.le_of_eq Array.length_toList)]
      exact Nat.le_refl _
variable {Z : Outcome → Heap → Prop} {F : Nat → Prop} {k n pc : Nat} {cc : ByteArray} {ls : Array Slot} {s0 : State} {D : va_G} {cI cF cJ : ClassId} {rest : List Value}
/-- the heap bears the law's start -/
def onS (s0 : State) (H : Heap) : Prop := ∀ q : Nat, q < s0.heap.size → H[q]? = s0.heap[q]?
/-- throw new E("text") -/
theorem mx_throw (G : Gx l s0 D cI cF cJ) (hx : p.tables.exec = Jvm.exec) (hb : c.code = cc) (hW : s0.WarmedH s.vm) (hown : s.vm.findClass "FewBits" = some m.cls) {ik ic ix is : Nat} {E text : String} {rx : ByteArray} (hF : thF s0 ik ic E ix rx)
    (hstr : (Cond.stringRef "FewBits" is text).before args s = true) (hag : onS s0 H) (hsize : ls.size = c.maxLocals) (het : c.exceptionTable.toList = []) (hlocks : meth.locks = false)
    (d0 : decode cc pc = .ok (.new ik, 3)) (d3 : decode cc (pc + 3) = .ok (.dup, 1)) (d4 : decode cc (pc + 4) = .ok (.ldc is, 2)) (d6 : decode cc (pc + 6) = .ok (.invokespecial ic, 3)) (d9 : decode cc (pc + 9) = .ok (.athrow, 1))
    (hRf : 5 < R.frames) (hRl : (rest.map fun v => v.category).sum + 82 ≤ R.locals) (hRc : cells + 1 ≤ R.cells) (hRs : slots + 6 ≤ R.slots) (h1 : cells + 1 ≤ k) (h2 : slots + 6 ≤ n) (hf : ∀ q ∈ locs, F q.base)
    (hq : ∀ H1 q, H.size ≤ H1.size → (∀ z : Nat, z < H.size → H1[z]? = H[z]?) → mx_Ob s0 H1 E q → Z (.threw q) H1) :
    W p l e R s m args below meth c H locs cells slots (MQx below Z s k n F) (F0 m pc ls rest) := by
  intro T hT X
  have htr : e.platform.stackTraces = false := (show e.platform.stackTraces = l.stackTraces by rw [X.admits.platform]).trans G.2.2.1
  have Y := th_rebase X (R' := { frames := R.frames, locals := R.locals, cells := 1, slots := 6 }) (Nat.le_refl _) (Nat.le_refl _) hRc hRs
  obtain ⟨s', hA⟩ : ∃ z, z = (T.setVm s.vm).setFrames (.invoking m args :: below) := ⟨_, rfl⟩
  rw [← hA] at Y
  have hvm : s'.vm = s.vm := by rw [hA]; rfl
  have hhp : s'.heap = H := by rw [hA]; exact hT
  have hW0 : s.WarmedH s'.vm := by rw [hvm]; exact State.WarmedH.refl s
  have hW1 : s0.WarmedH s'.vm := by rw [hvm]; exact hW
  have h := th_all G hF hW1 (fun q hq => by rw [hhp]; exact hag q hq) args
  have hown' : s'.vm.findClass "FewBits" = some m.cls := by rw [hvm]; exact hown
  obtain ⟨hk', hini', -⟩ := hF.2.2.2.2.2 args s' hW1
  have hins : (Cond.instantiable E 6).before args s' = true := h _ (by simp [thW])
  obtain ⟨vm₁, cX, kX, hfX, hkX, -, -, X₁, st1⟩ := Y.newCold hx (own := "FewBits") (C := E) (index := ik) (n := 6) hown' hk' hins hini'
    (g := F0 m pc ls rest) rfl (by rw [hb]; exact d0) (Nat.le_refl _) (Nat.le_refl _)
  generalize hT1 : (T.setVm vm₁).pushCell { cls := cX, slots := kX.instanceTypes.map defaultValue, vm := .none } = T1 at X₁ st1
  have hcat : (Value.ref T.heap.size).category = 1 := rfl
  have hcellA : T1.heap[T.heap.size]? = some (freshCell cX kX) := by rw [← hT1]; exact State.heap_pushCell_size _ _
  have d3' : decode c.code (pc + 3) = .ok (.dup, 1) := by rw [hb]; exact d3
  have d4' : decode c.code (pc + 4) = .ok (.ldc is, 2) := by rw [hb]; exact d4
  obtain ⟨ks, cf, i9, sa, hk9, -, -, -, -, hev⟩ := Cond.stringRef_spec hown hstr
  have hstr' : vk_R "FewBits" is text sa s' := vk_R.same hvm ⟨hstr, hev⟩
  obtain ⟨U, hsteps, hrun, hend, hWU, hsame, ce, hce, hcv, hccl⟩ := th_ctor X₁ hx htr (own := "FewBits") (cls := E) (ic := ic) hF.2.1 hF.2.2.1 hF.2.2.2.1 hF.2.2.2.2.1 hown' hF.1 h (fun x hx => nomatch hx) hfX hkX hcellA (by rw [hhp, hT]; exact Nat.le_refl _) (msg := .ref sa) rfl
    (g := { method := m, pc := pc + 6, locals := ls, stack := .ref sa :: .ref T.heap.size :: .ref T.heap.size :: rest, locked := none }) rfl hsize rfl rfl (rest := rest) rfl
    (by rw [hb]; exact d6) (by rw [hb]; exact d9) (fun x hx => by rw [het] at hx; cases hx) hRf (by
      show 2 * 0 + _ + 81 ≤ R.locals
      simp only [List.map_cons, List.sum_cons, hcat]; omega) hlocks
  obtain ⟨f1, f2⟩ := mx_frame hsame
  rw [hhp] at f1 f2
  have hWs : s.WarmedH U.vm := State.WarmedH.trans hW0 hWU
  have hcl : s0.vm.findClass E = some ce.cls := by
    have h9 := hccl
    rw [hvm, hW.alike.findClass] at h9
    exact h9
  have hall : s.sameButNew ({ U with vm := s.vm } : State) locs k n := by
    subst hA
    obtain ⟨e1, e2⟩ := hsame
    rw [State.setFrames_setFrames] at e1
    have h2 : (T.setVm s.vm).sameButNew ({ U with vm := s.vm } : State) [] (0 + 1) (0 + 6) := ⟨e1, e2⟩
    have h3 := X.same.trans h2
    rw [List.append_nil] at h3
    exact h3.mono h1 (by assumption)
  refine ⟨U, ?_, .threw T.heap.size, hrun, hend, hq U.heap _ f1 (fun q hq => f2 q hq (fun z hz => nomatch hz)) ⟨ce, hce, by rw [hcv]; rfl, hcl⟩, hWs, locs, hall, hf⟩
  refine st1 _ ?_
  show Steps p.tables e below (T1.setTop { method := m, pc := pc + 3, locals := ls, stack := .ref T.heap.size :: rest, locked := none }) _
  jvm_step X₁.here [X₁.here.top, hx, d3', Value.category]
  exact X₁.ldcString hx (own := "FewBits") (text := text) (index := is) (a := sa) hown' hstr'.1 hstr'.2
    (g := { method := m, pc := pc + 4, locals := ls, stack := .ref T.heap.size :: .ref T.heap.size :: rest, locked := none }) rfl d4' _ hsteps
/-- a row of the table that the exception passes -/
def thP (own : String) (s : State) (args : Array Value) (pc : Nat) (E : String) (y : ExceptionTableEntry) : Prop := y.catchType ≠ 0 ∧ covers y pc = true ∧ ∃ nm : String, (Cond.classLink own y.catchType nm).before args s = true ∧ va_Nc E nm s
/-- the search through rows that are passed, to the one that takes it -/
theorem th_go {f : JFrame} {a : Addr} {cell : Cell} (hobj : cell.vm.isStatics = false) {own E : String} (hpl : e.platform.magicAccessors = ({} : Platform).magicAccessors) (hown : s.vm.findClass own = some f.method.cls) (hE : s.vm.findClass E = some cell.cls)
    (x : ExceptionTableEntry) (suf : List ExceptionTableEntry) (hx : covers x f.pc = true) (hx0 : x.catchType ≠ 0) {nx : String} (hlx : (Cond.classLink own x.catchType nx).before args s = true) (hcx : (Cond.castable E nx).before args s = true) :
    ∀ (pre : List ExceptionTableEntry) (S : State), s.WarmedH S.vm → S.heap[a]? = some cell → (∀ y ∈ pre, thP own s args f.pc E y) →
      ∃ vm', s.WarmedH vm' ∧ ∀ (Q : Handler → Pre) (X : CtlPost) (d : Bool) (acts : List Action), wp (findHandler.go f a (pre ++ x :: suf)) Q X e d acts S ↔ Q (.found x.handlerPc) d acts (S.setVm vm') := by
  have hns : ∀ k, cell.vm ≠ .statics k := fun k h => by rw [h] at hobj; cases hobj
  obtain ⟨k0, hk0, -⟩ := Vm.findClass_spec hE
  have one : ∀ (S : State) (y : ExceptionTableEntry) (nm : String), s.WarmedH S.vm → y.catchType ≠ 0 → (Cond.classLink own y.catchType nm).before args s = true →
      ∃ cy, s.vm.findClass nm = some cy ∧ S.vm.ClassLinks e.platform f.method.cls y.catchType cy ∧ s.WarmedH (S.vm.noted f.method.cls y.catchType (.cls cy)) ∧ (∃ k1, (S.vm.noted f.method.cls y.catchType (.cls cy)).classes[cell.cls]? = some k1) ∧ (∃ k2, (S.vm.noted f.method.cls y.catchType (.cls cy)).classes[cy]? = some k2) ∧ ∀ t, (S.vm.noted f.method.cls y.catchType (.cls cy)).assignable t cy = s.vm.assignable t cy := by
    intro S y nm hW hy hl
    obtain ⟨cy, hcy, hcl⟩ := Cond.classLink_spec hown hl e.platform hpl
    obtain ⟨dk, _, _, kt, hd, _, _, _, _, hkt, _, hopen⟩ := hcl.here
    have hW2 := hW.noted hd hopen (State.rightAt_cls hcl)
    obtain ⟨k1, hk1, -⟩ := hW2.alike.2.2 _ _ hk0
    obtain ⟨k2, hk2, -⟩ := hW2.alike.2.2 _ _ hkt
    exact ⟨cy, hcy, hW.classLinks hcl, hW2, ⟨k1, hk1⟩, ⟨k2, hk2⟩, fun t => hW2.alike.assignable t cy⟩
  intro pre
  induction pre with
  | nil =>
    intro S hW hcell _
    obtain ⟨cy, hcy, hlk, hW2, ⟨k1, hk1⟩, ⟨k2, hk2⟩, has⟩ := one S x nx hW hx0 hlx
    refine ⟨_, hW2, fun Q X d acts => ?_⟩
    obtain ⟨c3, c4, hc3, hc4, hasg⟩ := Cond.castable_spec hcx
    cases Option.some.inj (hc3.symm.trans hE)
    cases Option.some.inj (hc4.symm.trans hcy)
    have hfit := (has cell.cls).trans hasg
    have hx' := hx
    simp only [covers] at hx'
    obtain ⟨ha, ht⟩ := (resolveClass_links e.toSetting hlk).op (op := VmOp.resolveClass f.method.cls x.catchType) rfl
    rw [List.nil_append]
    simp [findHandler.go, hx', hx0, ha, ht, hcell, hns, hk1, hk2, hfit, VmOp.dirties, VmOp.acts]
  | cons y ys ih =>
    intro S hW hcell hpass
    obtain ⟨hy0, hyc, nm, hyl, hyn⟩ := hpass y List.mem_cons_self
    obtain ⟨cy, hcy, hlk, hW2, ⟨k1, hk1⟩, ⟨k2, hk2⟩, has⟩ := one S y nm hW hy0 hyl
    obtain ⟨c3, c4, hc3, hc4, hno⟩ := hyn
    cases Option.some.inj (hc3.symm.trans hE)
    cases Option.some.inj (hc4.symm.trans hcy)
    have hfit := (has cell.cls).trans hno
    obtain ⟨vm', hW', hq⟩ := ih (S.setVm (S.vm.noted f.method.cls y.catchType (.cls cy))) hW2 hcell (fun z hz => hpass z (List.mem_cons_of_mem _ hz))
    refine ⟨vm', hW', fun Q X d acts => ?_⟩
    have hy' := hyc
    simp only [covers] at hy'
    obtain ⟨ha, ht⟩ := (resolveClass_links e.toSetting hlk).op (op := VmOp.resolveClass f.method.cls y.catchType) rfl
    have h9 := hq Q X d acts
    rw [State.setVm_setVm] at h9
    rw [List.cons_append, ← h9]
    simp [findHandler.go, hy', hy0, ha, ht, hcell, hns, hk1, hk2, hfit, VmOp.dirties, VmOp.acts]
/-- an exception that is on its way is caught here -/
theorem mx_catch {Z : State → Prop} {own E nx : String} {q : Addr} (hW : s0.WarmedH s.vm) (hown : s.vm.findClass own = some m.cls) (pre : List ExceptionTableEntry) (x : ExceptionTableEntry) (suf : List ExceptionTableEntry) (hsplit : c.exceptionTable.toList = pre ++ x :: suf)
    (hpass : ∀ y ∈ pre, thP own s args pc E y) (hxc : covers x pc = true) (hx0 : x.catchType ≠ 0) (hlx : (Cond.classLink own x.catchType nx).before args s = true) (hcx : (Cond.castable E nx).before args s = true) (hob : mx_Ob s0 H E q)
    (kk : W p l e R s m args below meth c H locs cells slots Z (F0 m x.handlerPc ls [.ref q])) : Wt p l e R s m args below meth c H locs cells slots Z (F0 m pc ls rest) q := by
  intro T hT X
  have hpl : e.platform.magicAccessors = ({} : Platform).magicAccessors := by rw [X.admits.platform]
  obtain ⟨cell, hcell, hobj, hcl⟩ := hob
  have hE : s.vm.findClass E = some cell.cls := by rw [hW.alike.findClass]; exact hcl
  obtain ⟨vm', hW', hgo⟩ := th_go (e := e) (f := F0 m pc ls rest) (a := q) hobj hpl hown hE x suf hxc hx0 hlx hcx pre ((T.setTop (F0 m pc ls rest)).pushFrame (.throwing q)) X.warmed (by rw [← hT] at hcell; exact hcell) hpass
  have X' := X.noted hW'
  obtain ⟨t, a1, b1⟩ := kk (T.setVm vm') hT X'
  refine ⟨t, ?_, b1⟩
  obtain ⟨hg9, hw⟩ := At.throwing (g := F0 m pc ls rest) X.here q
  refine Steps.head hg9 hw ?_
  have hst : (stepThrowing e ((T.setTop (F0 m pc ls rest)).pushFrame (.throwing q)) q (.java (F0 m pc ls rest) :: T.frames.tail)).Is ((((T.setTop (F0 m pc ls rest)).pushFrame (.throwing q)).setVm vm').setFrames (.java { F0 m pc ls rest with pc := x.handlerPc, stack := [.ref q] } :: T.frames.tail)) [] := by
    simp only [stepThrowing, searchFrame, vmDo]
    generalize hr : Sem.go _ e false [] ((T.setTop (F0 m pc ls rest)).pushFrame (.throwing q)) = res
    obtain ⟨as, rfl, ha⟩ := Sem.eq_ok_of hr (a := Handler.found x.handlerPc) (s' := ((T.setTop (F0 m pc ls rest)).pushFrame (.throwing q)).setVm vm') (acts' := []) (by simp [W.findHandler_eq (f := F0 m pc ls rest) (s := (T.setTop (F0 m pc ls rest)).pushFrame (.throwing q)) X.method' X.code, hsplit, hgo])
    exact ⟨rfl, ha⟩
  rw [stepThread_throwing (frames_entered X.here.top _), hst.1]
  obtain ⟨g₀, hg⟩ := Option.isSome_iff_exists.mp X.here.top
  obtain ⟨r, hr⟩ := State.topJava?_eq_some.mp hg
  have hr' : (T.setVm vm').frames = .java g₀ :: r := hr
  rw [State.setTop_of_frames _ hr'] at a1
  have e9 : ∀ (u : State) (F G : List Frame), ((u.setFrames F).setVm vm').setFrames G = (u.setVm vm').setFrames G := fun u F G => by
    rw [show (u.setFrames F).setVm vm' = (u.setVm vm').setFrames F from rfl, State.setFrames_setFrames]
  rw [hr, List.tail_cons, State.pushFrame, e9, State.setTop_of_frames _ hr, e9]
  exact a1
end THROW
