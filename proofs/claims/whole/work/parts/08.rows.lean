/-- what all contracts stand on: the tables at the law's start, the classes' numbers, no stack traces, what the Statement gives of the start -/
def Gx (l : Launch) (s0 : State) (D : va_G) (cI cF cJ : ClassId) : Prop :=
  Tb s0 ∧ va_K D vcl [(cI, .int), (cF, .object "FewBits$Filter"), (cJ, .long)] s0 ∧ l.stackTraces = false ∧ ∃ a0 : Array Value, (Jvm.Cond.and given_1 narrow_1).before a0 s0 = true
abbrev tys (cI cF cJ : ClassId) : List (ClassId × FieldType) := [(cI, .int), (cF, .object "FewBits$Filter"), (cJ, .long)]
theorem Gx.k {l : Launch} {s0 : State} {D : va_G} {cI cF cJ : ClassId} (G : Gx l s0 D cI cF cJ) {U : State} (hW : s0.WarmedH U.vm) : va_K D vcl (tys cI cF cJ) U := G.2.1.moved hW.alike
/-- int arrays whose cells are natural numbers; any int array -/
abbrev aN (cI : ClassId) (n : Nat) (c : Nat → Nat) : va_E := .inl (cI, n, .inl (fun q => nI (c q)))
abbrev aI (cI : ClassId) (n : Nat) (f : Nat → Int32) : va_E := .inl (cI, n, .inl f)
abbrev aJ (cJ : ClassId) (n : Nat) (f : Nat → Int64) : va_E := .inl (cJ, n, .inr (.inl f))
abbrev aQ (cF : ClassId) (n : Nat) (f : Nat → Option Nat) : va_E := .inl (cF, n, .inr (.inr (.inr (.inr f))))
/-- what may change: the addresses ad, and what is new -/
def Aa (ad : List Nat) (sz : Nat) : Nat → Prop := fun q => q ∈ ad ∨ sz ≤ q
theorem Aa.mono {ad ad' : List Nat} {sz sz' : Nat} (h : ∀ q ∈ ad, q ∈ ad') (hs : sz' ≤ sz) : ∀ q, Aa ad sz q → Aa ad' sz' q := fun q hq => hq.elim (fun h1 => Or.inl (h q h1)) (fun h1 => Or.inr (Nat.le_trans hs h1))
theorem Aa.up {ad : List Nat} {sz : Nat} : ∀ q, sz ≤ q → Aa ad sz q := fun _ h => Or.inr h
theorem upN (c : Nat → Nat) (k v : Nat) : upd (fun q => nI (c q)) k (nI v) = fun q => nI (va_up c k v q) := by
  funext q
  by_cases h : q = k
  · subst h; simp [upd, va_up]
  · simp [upd, va_up, h]
section ROWS
variable {p : Program} {l : Launch} {e : Env} {R : Room} {s : State} {m : MethodId} {args : Array Value} {below : List Frame} {meth : Method} {c : Code} {H : Heap} {locs : List Loc} {cells slots : Nat} {Q : State → Prop}
variable {cc : ByteArray} {pc : Nat} {ls : Array Slot} {rest : List Value} {D : va_G} {cI cF cJ : ClassId} {ws : va_W} {A : Nat → Prop} {H0 : Heap} {a : Nat}
theorem tp_i {x y : Int32} (h : x = y) (k : W p l e R s m args below meth c H locs cells slots Q (F0 m pc ls (.int y :: rest))) : W p l e R s m args below meth c H locs cells slots Q (F0 m pc ls (.int x :: rest)) := h ▸ k
theorem tp_l {x y : Int64} (h : x = y) (k : W p l e R s m args below meth c H locs cells slots Q (F0 m pc ls (.long y :: rest))) : W p l e R s m args below meth c H locs cells slots Q (F0 m pc ls (.long x :: rest)) := h ▸ k
theorem ia_ld (hx : p.tables.exec = Jvm.exec) (hb : c.code = cc) (hK : va_K D vcl (tys cI cF cJ) s) (hP : va_P D vcl ws H) (q0 : Nat) {n j : Nat} {f : Nat → Int32} (ha : ws[q0]? = some (a, aI cI n f)) (hj : j < n) (hn : n < 2 ^ 31) (hdg : decode cc pc = .ok (.iaload, 1))
    (kk : W p l e R s m args below meth c H locs cells slots Q (F0 m (pc + 1) ls (.int (f j) :: rest))) : W p l e R s m args below meth c H locs cells slots Q (F0 m pc ls (.int (nI j) :: .ref a :: rest)) := by
  refine va_iald hx hb hK hP q0 0 ha rfl (vp_in_nI hj hn) hdg ?_
  rw [nI_clamp (Nat.lt_trans hj hn)]
  exact kk
theorem ia_st (hx : p.tables.exec = Jvm.exec) (hb : c.code = cc) (hK : va_K D vcl (tys cI cF cJ) s) (hP : va_P D vcl ws H) (hD : va_D A ws) (hS : va_S A H0 H locs) (q0 : Nat) {n j : Nat} {f : Nat → Int32} {x : Int32} (ha : ws[q0]? = some (a, aI cI n f)) (hj : j < n) (hn : n < 2 ^ 31) (hdg : decode cc pc = .ok (.iastore, 1))
    (kk : ∀ (H1 : Heap) (locs1 : List Loc), va_P D vcl (ws.set q0 (a, aI cI n (upd f j x))) H1 → va_D A (ws.set q0 (a, aI cI n (upd f j x))) → va_S A H0 H1 locs1 → W p l e R s m args below meth c H1 locs1 cells slots Q (F0 m (pc + 1) ls rest)) : W p l e R s m args below meth c H locs cells slots Q (F0 m pc ls (.int x :: .int (nI j) :: .ref a :: rest)) := by
  refine va_iast hx hb hK hP hD hS q0 0 ha rfl (vp_in_nI hj hn) hdg (fun H1 l1 => ?_)
  rw [nI_clamp (Nat.lt_trans hj hn)]
  exact kk H1 l1
theorem ia_stN (hx : p.tables.exec = Jvm.exec) (hb : c.code = cc) (hK : va_K D vcl (tys cI cF cJ) s) (hP : va_P D vcl ws H) (hD : va_D A ws) (hS : va_S A H0 H locs) (q0 : Nat) {n j x : Nat} {f : Nat → Nat} (ha : ws[q0]? = some (a, aN cI n f)) (hj : j < n) (hn : n < 2 ^ 31) (hdg : decode cc pc = .ok (.iastore, 1))
    (kk : ∀ (H1 : Heap) (locs1 : List Loc), va_P D vcl (ws.set q0 (a, aN cI n (va_up f j x))) H1 → va_D A (ws.set q0 (a, aN cI n (va_up f j x))) → va_S A H0 H1 locs1 → W p l e R s m args below meth c H1 locs1 cells slots Q (F0 m (pc + 1) ls rest)) : W p l e R s m args below meth c H locs cells slots Q (F0 m pc ls (.int (nI x) :: .int (nI j) :: .ref a :: rest)) := by
  refine ia_st hx hb hK hP hD hS q0 ha hj hn hdg (fun H1 l1 => ?_)
  rw [upN]
  exact kk H1 l1
end ROWS
