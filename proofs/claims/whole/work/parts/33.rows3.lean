theorem va_P.join {D : va_G} {cl : List vw_C} {ws1 ws2 ws3 : va_W} {H H1 : Heap} {A : Nat → Prop} {ad : List Nat} (hP : va_P D cl (ws1 ++ ws2) H) (hD : va_D A (ws1 ++ ws2)) (h2 : va_P D cl ws3 H1) (hk : ∀ q : Nat, q < H.size → ¬ Aa ad H.size q → H1[q]? = H[q]?) (ha : ws2.map (·.1) = ad) : va_P D cl (ws1 ++ ws3) H1 := by
  refine va_P.app (fun k x hx => ?_) h2
  have hk1 : k < ws1.length := (List.getElem?_eq_some_iff.mp hx).1
  have hx1 : (ws1 ++ ws2)[k]? = some x := by rw [List.getElem?_append_left hk1]; exact hx
  have hat := hP k x hx1
  refine hat.kept (hk x.1 hat.lt (fun h9 => ?_))
  rcases h9 with h9 | h9
  · subst ha
    obtain ⟨y, hy, e⟩ := List.mem_map.mp h9
    obtain ⟨j, hj⟩ := List.getElem?_of_mem hy
    have hy1 : (ws1 ++ ws2)[ws1.length + j]? = some y := by rw [List.getElem?_append_right (by omega)]; rw [show ws1.length + j - ws1.length = j by omega]; exact hj
    have := hD.1 _ _ y x hy1 hx1 e
    omega
  · exact absurd hat.lt (Nat.not_lt.mpr h9)
section ROWS3
variable {p : Program} {l : Launch} {e : Env} {R : Room} {s : State} {m : MethodId} {args : Array Value} {below : List Frame} {meth : Method} {c : Code} {H : Heap} {locs : List Loc} {cells slots : Nat}
variable {D : va_G} {cI cF cJ : ClassId} {s0 : State}
/-- a call that comes back: as its end says -/
theorem mx_callG {Z : State → Prop} {pc : Nat} {ls : Array Slot} {st0 rest as : List Value} {ig : Instr} {maxL nL : Nat} {y : MethodName} {cw : Cond} {rm : Room} {F A : Nat → Prop} {Q : Outcome → Heap → Prop} {H0 : Heap}
    (hM : Mx l s0 y cw rm as H F Q) (hW0 : s0.WarmedH s.vm) (hI : ∀ T, T.heap = H → Stand p l e R s m args below meth c T locs cells slots → mx_Inv p l e R s m args below meth c T locs cells slots (F0 m pc ls st0) (F0 m pc ls rest) y as)
    (hml : c.maxLocals = nL) (hsz : ls.size = nL) (hdg : decode c.code pc = .ok (ig, 3)) (hCd : mx_Cd s y cw maxL)
    (hR : rm.frames + 1 ≤ R.frames ∧ 8 + (maxL + 11) + rm.locals ≤ R.locals) (hc : cells + rm.cells ≤ R.cells) (hs : slots + rm.slots ≤ R.slots) (hw : (rest.map fun v => v.category).sum ≤ 8)
    (hS : va_S A H0 H locs) (hF : ∀ q, F q → A q) (hret : ∀ q H1, ¬ Q (.threw q) H1)
    (kk : ∀ v H1 locs1, Q (.returned v) H1 → H.size ≤ H1.size → (∀ q : Nat, q < H.size → ¬ F q → H1[q]? = H[q]?) → va_S A H0 H1 locs1 → W p l e R s m args below meth c H1 locs1 (cells + rm.cells) (slots + rm.slots) Z (F0 m (pc + 3) ls (v.toList ++ rest))) : W p l e R s m args below meth c H locs cells slots Z (F0 m pc ls st0) := by
  refine mx_call hM hW0 hI hml hsz hdg hCd hR hc hs hw (fun v H1 L hq hz hk hL => ?_) (fun q H1 L hq _ _ _ => absurd hq (hret q H1))
  refine kk v H1 _ hq hz hk ⟨Nat.le_trans hS.1 hz, fun q h1 h2 => (hk q (Nat.lt_of_lt_of_le h1 hS.1) (fun z => h2 (hF q z))).trans (hS.2.1 q h1 h2), fun q hq => ?_⟩
  rcases List.mem_append.mp hq with h | h
  · exact hS.2.2 q h
  · exact hF _ (hL q h)
theorem str_vm {own tx : String} {k : Nat} {A A' : Array Value} {u U : State} (hv : U.vm = u.vm) (h : (Cond.stringRef own k tx).before A u = true) : (Cond.stringRef own k tx).before A' U = true := by
  simp only [Cond.before, Cond.holds, Cond.value, State.names, State.poolOf?, State.resolvedAt?, hv] at h ⊢
  exact h
set_option maxRecDepth 20000 in
theorem str_at (G : Gx l s0 D cI cF cJ) {own tx : String} {k : Nat} (i : Nat) (hi : tables_1[i]? = some (.stringRef own k tx)) (hW : s0.WarmedH s.vm) : (Cond.stringRef own k tx).before args s = true := by
  obtain ⟨a0, h⟩ := G.1
  have h1 := h _ (List.mem_append_right _ (List.mem_of_getElem? hi))
  have h2 := Cond.stringRef_warmed hW h1
  exact str_vm (u := s0.setVm s.vm) rfl h2
theorem ao_F (G : Gx l s0 D cI cF cJ) (hW : s0.WarmedH s.vm) : va_AO "FewBits$Filter" s := by
  obtain ⟨a0, h⟩ := G.1
  exact va_AO.moved hW.alike (va_AO.of (h (.arrayOver (.object "FewBits$Filter")) (List.mem_append_right _ (List.mem_of_getElem? (i := 27) rfl))))
set_option maxRecDepth 20000 in
theorem ca_C (G : Gx l s0 D cI cF cJ) (hW : s0.WarmedH s.vm) : va_Nw (.castable R_C "FewBits$Filter") s := va_Nw.of rfl (A := #[]) (G.1.tab 840 rfl rfl #[] hW)
set_option maxRecDepth 20000 in
theorem ca_B (G : Gx l s0 D cI cF cJ) (hW : s0.WarmedH s.vm) : va_Nw (.castable R_B "FewBits$Filter") s := va_Nw.of rfl (A := #[]) (G.1.tab 839 rfl rfl #[] hW)
set_option maxRecDepth 20000 in
theorem ca_R (G : Gx l s0 D cI cF cJ) (hW : s0.WarmedH s.vm) : va_Nw (.castable R_R "FewBits$Filter") s := va_Nw.of rfl (A := #[]) (G.1.tab 841 rfl rfl #[] hW)
set_option maxRecDepth 20000 in
theorem ca_RR (G : Gx l s0 D cI cF cJ) (hW : s0.WarmedH s.vm) : va_Nw (.castable R_R R_R) s := va_Nw.of rfl (A := #[]) (G.1.tab 838 rfl rfl #[] hW)
end ROWS3
theorem va_P.nil {D : va_G} {cl : List vw_C} {H : Heap} : va_P D cl [] H := fun k q h => by simp at h
theorem va_D.nil {A : Nat → Prop} : va_D A [] := ⟨fun i j p q h => by simp at h, fun k q h => by simp at h⟩
