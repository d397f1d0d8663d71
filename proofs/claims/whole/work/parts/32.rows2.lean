/-! contracts weakened; rows on fresh arrays, rows of references; a callee that throws -/
theorem Mx.mono {l : Launch} {s0 : State} {y : MethodName} {cw : Cond} {rm rm' : Room} {as : List Value} {H : Heap} {F F' : Nat → Prop} {Q Q' : Outcome → Heap → Prop} (h : Mx l s0 y cw rm as H F Q)
    (h1 : rm.frames ≤ rm'.frames) (h2 : rm.locals ≤ rm'.locals) (h3 : rm.cells ≤ rm'.cells) (h4 : rm.slots ≤ rm'.slots) (hF : ∀ q, F q → F' q)
    (hQ : ∀ o H1, H.size ≤ H1.size → (∀ q : Nat, q < H.size → ¬ F q → H1[q]? = H[q]?) → Q o H1 → Q' o H1) : Mx l s0 y cw rm' as H F' Q' := by
  intro p e ha hc hk s m args below hfr happ hP hK
  have happ' : (headSpec [cw] rm).appliesLoose y e.platform s = true := by
    simp only [Spec.appliesLoose, hfr, Bool.and_eq_true] at happ ⊢
    obtain ⟨⟨a1, a2⟩, a3⟩ := happ
    refine ⟨⟨a1, ?_⟩, a3⟩
    have a2' : s.hasRoom e.platform rm' = true := a2
    show s.hasRoom e.platform rm = true
    simp only [State.hasRoom, Bool.and_eq_true, decide_eq_true_eq] at a2' ⊢
    obtain ⟨⟨⟨⟨b1, b2, b3, b4, b5, b6⟩, b7⟩, b8⟩, b9⟩ := a2'
    exact ⟨⟨⟨⟨by omega, by omega, by omega, by omega, by omega, b6⟩, by omega⟩, by omega⟩, b9⟩
  obtain ⟨n, o, q1, q2, q3, q4, q5, L, q6, q7⟩ := h p e ha hc hk s m args below hfr happ' hP hK
  have hfm := mx_frame q6
  obtain ⟨rfl, rfl, -⟩ := hP
  exact ⟨n, o, q1, q2, q3, hQ o _ hfm.1 (fun q hq hn => hfm.2 q hq (fun z hz hzq => hn (hzq ▸ q7 z hz))) q4, q5, L, q6.mono h3 h4, fun q hq => hF _ (q7 q hq)⟩
theorem va_P.ext {D : va_G} {cl : List vw_C} {ws : va_W} {H H1 : Heap} (h : va_P D cl ws H) (hq : ∀ z : Nat, z < H.size → H1[z]? = H[z]?) : va_P D cl ws H1 := h.kept (fun k x hx => hq x.1 ((h k x hx).lt))
/-- a world whose places aren't among those that may change -/
theorem va_P.off {D : va_G} {cl : List vw_C} {ws : va_W} {H H1 : Heap} {F A : Nat → Prop} (h : va_P D cl ws H) (hD : va_D A ws) (hq : ∀ q : Nat, q < H.size → ¬ F q → H1[q]? = H[q]?) (hA : ∀ q, q < H.size → A q → ¬ F q) : va_P D cl ws H1 :=
  h.kept (fun k x hx => hq x.1 ((h k x hx).lt) (hA _ ((h k x hx).lt) (hD.2 k x hx)))
theorem onS.le {s0 : State} {H : Heap} (h : onS s0 H) : s0.heap.size ≤ H.size := by
  rcases Nat.lt_or_ge H.size s0.heap.size with h1 | h1
  · have h2 := h H.size h1
    rw [Array.getElem?_eq_none (Nat.le_refl _)] at h2
    rw [Array.getElem?_eq_getElem h1] at h2
    cases h2
  · exact h1
theorem onS.go {s0 : State} {H0 H : Heap} {ad : List Nat} {locs : List Loc} (h : onS s0 H0) (had : ∀ q ∈ ad, s0.heap.size ≤ q) (hS : va_S (Aa ad H0.size) H0 H locs) : onS s0 H := by
  intro q hq
  have hl := h.le
  rw [hS.2.1 q (by omega) (fun h9 => h9.elim (fun h8 => absurd (had q h8) (by omega)) (fun h8 => by omega))]
  exact h q hq
/-- an exception of the class E, and the heap then -/
def Thr (s0 : State) (E : String) (P : Heap → Prop) : Outcome → Heap → Prop := fun o H1 => ∃ q, o = .threw q ∧ mx_Ob s0 H1 E q ∧ P H1
section ROWS2
variable {p : Program} {l : Launch} {e : Env} {R : Room} {s : State} {m : MethodId} {args : Array Value} {below : List Frame} {meth : Method} {c : Code} {H : Heap} {locs : List Loc} {cells slots : Nat} {Q : State → Prop}
variable {cc : ByteArray} {pc : Nat} {ls : Array Slot} {rest : List Value} {D : va_G} {cI cF cJ : ClassId} {ws : va_W} {A : Nat → Prop} {H0 : Heap} {a : Nat} {s0 : State}
theorem tp_v {x y : Value} (h : x = y) (k : W p l e R s m args below meth c H locs cells slots Q (F0 m pc ls (y :: rest))) : W p l e R s m args below meth c H locs cells slots Q (F0 m pc ls (x :: rest)) := h ▸ k
theorem na_i (hx : p.tables.exec = Jvm.exec) (hb : c.code = cc) (harr : (Cond.arrayClass .int).before args s = true) (hK : va_K D vcl (tys cI cF cJ) s) (hP : va_P D vcl ws H) (hD : va_D A ws) (hS : va_S A H0 H locs) (hA : ∀ q, H0.size ≤ q → A q)
    {N : Nat} (hN : N < 2 ^ 26) (hcells : cells + 1 ≤ R.cells) (hslots : slots + N ≤ R.slots) (hdg : decode cc pc = .ok (.newarray .int, 2))
    (kk : ∀ (q : Nat) (H1 : Heap), va_P D vcl (ws ++ [(q, aN cI N (fun _ => 0))]) H1 → va_D A (ws ++ [(q, aN cI N (fun _ => 0))]) → va_S A H0 H1 locs → W p l e R s m args below meth c H1 locs (cells + 1) (slots + N) Q (F0 m (pc + 2) ls (.ref q :: rest))) :
    W p l e R s m args below meth c H locs cells slots Q (F0 m pc ls (.int (nI N) :: rest)) := by
  refine va_newa (atype := .int) hx hb harr (ty := .int) rfl hK hP hD hS hA (a0 := (N, .inl (fun _ => nI 0))) (fun cA => by rw [vp_cell_i]; rfl) (nI_pos (by omega)) (nI_clamp (by omega)) (by show N * 4 ≤ _; omega) hcells hslots hdg (fun q cA H1 hK1 hP1 hD1 hS1 => ?_)
  have h1 : va_RA s cA .int := (hK1.2 3 (cA, .int) rfl).2
  have h2 : va_RA s cI .int := (hK.2 0 (cI, .int) rfl).2
  have h3 : cA = cI := Option.some.inj ((show s.vm.findClass _ = some cA from h1).symm.trans h2)
  subst h3
  exact kk q H1 hP1 hD1 hS1
theorem na_q (hx : p.tables.exec = Jvm.exec) (hb : c.code = cc) {own : String} {index : Nat} (hown : s.vm.findClass own = some m.cls) (hclink : (Cond.classLink own index "FewBits$Filter").before args s = true) (hover : va_AO "FewBits$Filter" s) (hK : va_K D vcl (tys cI cF cJ) s) (hP : va_P D vcl ws H) (hD : va_D A ws) (hS : va_S A H0 H locs) (hA : ∀ q, H0.size ≤ q → A q)
    {N : Nat} (hN : N < 2 ^ 26) (hcells : cells + 1 ≤ R.cells) (hslots : slots + N ≤ R.slots) (hdg : decode cc pc = .ok (.anewarray index, 3))
    (kk : ∀ (q : Nat) (H1 : Heap), va_P D vcl (ws ++ [(q, aQ cF N (fun _ => none))]) H1 → va_D A (ws ++ [(q, aQ cF N (fun _ => none))]) → va_S A H0 H1 locs → W p l e R s m args below meth c H1 locs (cells + 1) (slots + N) Q (F0 m (pc + 3) ls (.ref q :: rest))) :
    W p l e R s m args below meth c H locs cells slots Q (F0 m pc ls (.int (nI N) :: rest)) := by
  refine va_newq hx hb hown hclink hover hK hP hD hS hA (nI_pos (by omega)) (nI_clamp (by omega)) (by omega) hcells hslots hdg (fun q cA H1 hK1 hP1 hD1 hS1 => ?_)
  obtain ⟨kA, comp, -, -, -, h1⟩ : va_RA s cA (.object "FewBits$Filter") := (hK1.2 3 (cA, .object "FewBits$Filter") rfl).2
  obtain ⟨kA, comp, -, -, -, h2⟩ : va_RA s cF (.object "FewBits$Filter") := (hK.2 1 (cF, .object "FewBits$Filter") rfl).2
  have h3 : cA = cF := Option.some.inj (h1.symm.trans h2)
  subst h3
  exact kk q H1 hP1 hD1 hS1
theorem qa_ld (hx : p.tables.exec = Jvm.exec) (hb : c.code = cc) (hK : va_K D vcl (tys cI cF cJ) s) (hP : va_P D vcl ws H) (q0 : Nat) {n j : Nat} {f : Nat → Option Nat} (ha : ws[q0]? = some (a, aQ cF n f)) (hj : j < n) (hn : n < 2 ^ 31) (hdg : decode cc pc = .ok (.aaload, 1))
    (kk : W p l e R s m args below meth c H locs cells slots Q (F0 m (pc + 1) ls (va_rf (f j) :: rest))) : W p l e R s m args below meth c H locs cells slots Q (F0 m pc ls (.int (nI j) :: .ref a :: rest)) := by
  refine va_aldq hx hb hK hP q0 1 ha rfl (vp_in_nI hj hn) hdg ?_
  rw [nI_clamp (Nat.lt_trans hj hn)]
  exact kk
theorem qa_st (hx : p.tables.exec = Jvm.exec) (hb : c.code = cc) (hK : va_K D vcl (tys cI cF cJ) s) (hP : va_P D vcl ws H) (hD : va_D A ws) (hS : va_S A H0 H locs) (q0 qk ci : Nat) {r : vw_C} {n j v : Nat} {vs : List Value} {f : Nat → Option Nat} (ha : ws[q0]? = some (a, aQ cF n f)) (hca : va_Nw (.castable r.1 "FewBits$Filter") s) (hv : ws[qk]? = some (v, .inr (ci, vs))) (hc : vcl[ci]? = some r) (hj : j < n) (hn : n < 2 ^ 31) (hdg : decode cc pc = .ok (.aastore, 1))
    (kk : ∀ (H1 : Heap) (locs1 : List Loc), va_P D vcl (ws.set q0 (a, aQ cF n (va_up f j (some v)))) H1 → va_D A (ws.set q0 (a, aQ cF n (va_up f j (some v)))) → va_S A H0 H1 locs1 → W p l e R s m args below meth c H1 locs1 cells slots Q (F0 m (pc + 1) ls rest)) : W p l e R s m args below meth c H locs cells slots Q (F0 m pc ls (.ref v :: .int (nI j) :: .ref a :: rest)) := by
  refine va_astqO hx hb hK hP hD hS q0 1 qk ci ha rfl hca hv hc (vp_in_nI hj hn) hdg (fun H1 l1 => ?_)
  rw [nI_clamp (Nat.lt_trans hj hn)]
  exact kk H1 l1
variable {Z : Outcome → Heap → Prop} {F : Nat → Prop} {k n : Nat}
/-- a call that throws on -/
theorem mx_callT {ls : Array Slot} {st0 rest as : List Value} {ig : Instr} {maxL nL : Nat} {y : MethodName} {cw : Cond} {rm : Room} {E : String} {F1 : Nat → Prop} {P : Heap → Prop}
    (hM : Mx l s0 y cw rm as H F1 (Thr s0 E P)) (hW0 : s0.WarmedH s.vm) (hI : ∀ T, T.heap = H → Stand p l e R s m args below meth c T locs cells slots → mx_Inv p l e R s m args below meth c T locs cells slots (F0 m pc ls st0) (F0 m pc ls rest) y as)
    (hml : c.maxLocals = nL) (hsz : ls.size = nL) (hdg : decode c.code pc = .ok (ig, 3)) (hCd : mx_Cd s y cw maxL)
    (hR : rm.frames + 1 ≤ R.frames ∧ 8 + (maxL + 11) + rm.locals ≤ R.locals) (hc : cells + rm.cells ≤ R.cells) (hs : slots + rm.slots ≤ R.slots) (hw : (rest.map fun v => v.category).sum ≤ 8)
    (het : c.exceptionTable.toList = []) (hlocks : meth.locks = false) (h1 : cells + rm.cells ≤ k) (h2 : slots + rm.slots ≤ n) (hf : ∀ q ∈ locs, F q.base) (hF : ∀ q, F1 q → F q)
    (hq : ∀ H1 q, H.size ≤ H1.size → (∀ q : Nat, q < H.size → ¬ F1 q → H1[q]? = H[q]?) → P H1 → mx_Ob s0 H1 E q → Z (.threw q) H1) : W p l e R s m args below meth c H locs cells slots (MQx below Z s k n F) (F0 m pc ls st0) := by
  refine mx_call hM hW0 hI hml hsz hdg hCd hR hc hs hw (fun v H1 L hq _ _ _ => by obtain ⟨q, h9, -⟩ := hq; cases h9) (fun q H1 L hq9 hz hk hL => ?_)
  obtain ⟨q', h9, ho, hp⟩ := hq9
  cases h9
  refine mx_out het hlocks h1 h2 (fun q hq => ?_) (hq H1 q hz hk hp ho)
  rcases List.mem_append.mp hq with h | h
  · exact hf q h
  · exact hF _ (hL q h)
end ROWS2
