def R_law : String := "FewBitsLaw"
def lw_P (b : Addr) (xs : List Int32) (args : Array Value) (s : State) : Prop := args = #[.ref b] ∧ s.IntsAt b xs ∧ xs.length ≤ 3584 ∧ (Jvm.Cond.and given_1 narrow_1).before args s = true
def lw_Q (_ : Array Value) (s : State) (o : Outcome) (t : State) : Prop := o = .returned (some (.int 1)) ∧ Framed s o t [] 601024 7293034
def lw_Z (below : List Frame) (a : Array Value) (s : State) : State → Prop := fun t => ∃ o, t.status = .running ∧ Ended t below o ∧ lw_Q a s o t
/-- the law's own end, with 1 on the stack, nothing written that was there before, its room as the claim has it -/
theorem lw_ret {p : Program} {l : Launch} {e : Env} {s : State} {m : MethodId} {below : List Frame} {meth : Method} {c : Code} {b : Nat} (hx : p.tables.exec = Jvm.exec) (hb : c.code = code) (hr : meth.sig.returnType = ret) (hlocks : meth.locks = false) {pc : Nat} {H : Heap} {ls : Array Slot} (hdg : decode code pc = .ok (.ireturn, 1)) : W p l e room_1 s m #[Value.ref b] below meth c H [] 601024 7293034 (lw_Z below #[Value.ref b] s) (F0 m pc ls [.int 1]) := by
  intro T hT X
  obtain ⟨fs, hret, hrun, hended, hW, hframe⟩ := X.leave (v := some (.int 1)) (hlocks := hlocks) (fun h => by rw [hr] at h; cases h)
  have hmeth' : T.vm.method? m = some meth := X.method'
  refine ⟨T.setFrames fs, ?_, .returned (some (.int 1)), hrun, hended, rfl, ⟨_, rfl⟩, hW, hframe⟩
  jvm_step X.here [X.here.top, hx, hb, hdg, hmeth', hr, ret, narrow_b1]
  (try refine ⟨rfl, ?_⟩); (try refine ⟨rfl, ?_⟩)
  first | (intro acts; rw [hret _ acts rfl rfl rfl]) | rw [hret _ _ rfl rfl rfl]
  exact Steps.refl _
/-- what holds at the law's entry: the machine, the code, the tables' words (any of lw_tbl by 'hts w (by decide +kernel)'), the script of L ints xs at the cell b, what the Statement gives of the start (any of its parts by flat_of_before) -/
def lw_At (p : Program) (s : State) (m : MethodId) (meth : Method) (c : Code) (b L : Nat) (xs : Nat → Int32) : Prop :=
  p.tables.exec = Jvm.exec ∧ c.code = code ∧ meth.sig.returnType = ret ∧ c.maxLocals = 7 ∧ s.vm.findClass R_law = some m.cls ∧ (∀ w ∈ lw_tbl, w.before #[Value.ref b] s = true) ∧ va_X b L xs s s.heap ∧ b < s.heap.size ∧ meth.locks = false ∧ (Jvm.Cond.and given_1 narrow_1).before #[Value.ref b] s = true

set_option maxHeartbeats 4000000 in
set_option maxRecDepth 100000 in
/-- the law's loop -/
theorem l_loop {p : Program} {l : Launch} {e : Env} {s : State} {m : MethodId} {below : List Frame} {meth : Method} {c : Code} {D : va_G} {cI cF cJ : ClassId} (G : Gx l s D cI cF cJ) {b0 L : Nat} {xs : Nat → Int32} (hx : p.tables.exec = Jvm.exec) (hb : c.code = code) (hml : c.maxLocals = 7) (hown : s.vm.findClass "FewBitsLaw" = some m.cls) (hXs : va_X b0 L xs s s.heap) (hbl : b0 < s.heap.size) (hL : L ≤ 3584) {xo fa ma hm a1 a2 a3 a4 a5 a6 a7 a8 a9 a10 a11 oa : Nat} {A0 : Nat → Prop} (hDm : va_D A0 (adM hm a1 a2 a3 a4 a5 a6 a7 a8 a9 a10 a11)) (hr : meth.sig.returnType = ret) (hlk : meth.locks = false) : ∀ (n i cells slots : Nat) (H : Heap) (ls : Array Slot), L < i + 7 * n + 7 → i ≤ L + 7 → cells + 4 * n ≤ 601024 → slots + 1094 * n ≤ 7293034 → LI s D cI cF cJ xo fa ma hm a1 a2 a3 a4 a5 a6 a7 a8 a9 a10 a11 oa H → lv_has ls 7 [(0, .ref b0), (1, .ref xo), (2, .ref hm), (3, .ref oa), (4, .int (nI i))] → W p l e room_1 s m #[Value.ref b0] below meth c H [] cells slots (lw_Z below #[Value.ref b0] s) (F0 m 23 ls []) := by
  intro n
  induction n with
  | zero =>
    intro i cells slots H ls hn hi hc hs hLI hl
    have hon := hLI.on
    refine lv_iload hx hb d_L_law_23 (lv_at hl 4 rfl) ?_
    refine lv_aload_n hx hb d_L_law_25 rfl (lv_at hl 0 rfl) ?_
    refine sc_len hx hb hXs hbl hon d_L_law_26 ?_
    refine lv_bipush (v := nI 7) hx hb d_L_law_27 (by decide) ?_
    refine lv_isub hx hb d_L_law_29 ?_
    refine lv_icmp_gt (tgt := 1326) hx hb d_L_law_30 (by decide) (fun c9 => ?_) (fun c9 => absurd ((sub7 hL (by omega)).mpr (by omega)) c9)
    refine lv_iconst (v := 1) hx hb d_L_law_1326 (by decide) ?_
    refine W.widen (k := 601024) (n := 7293034) (by omega) (by omega) ?_
    exact lw_ret hx hb hr hlk d_L_law_1327
  | succ n ih =>
    intro i cells slots H ls hn hi hc hs hLI hl
    have hon := hLI.on
    refine lv_iload hx hb d_L_law_23 (lv_at hl 4 rfl) ?_
    refine lv_aload_n hx hb d_L_law_25 rfl (lv_at hl 0 rfl) ?_
    refine sc_len hx hb hXs hbl hon d_L_law_26 ?_
    refine lv_bipush (v := nI 7) hx hb d_L_law_27 (by decide) ?_
    refine lv_isub hx hb d_L_law_29 ?_
    refine lv_icmp_gt (tgt := 1326) hx hb d_L_law_30 (by decide) (fun c9 => ?_) (fun c9 => ?_)
    · refine lv_iconst (v := 1) hx hb d_L_law_1326 (by decide) ?_
      refine W.widen (k := 601024) (n := 7293034) (by omega) (by omega) ?_
      exact lw_ret hx hb hr hlk d_L_law_1327
    have hi7 : i + 7 ≤ L := Nat.not_lt.mp (fun h => c9 ((sub7 hL (by omega)).mpr h))
    have hend : ∀ (H2 : Heap) (ls : Array Slot), LI s D cI cF cJ xo fa ma hm a1 a2 a3 a4 a5 a6 a7 a8 a9 a10 a11 oa H2 → lv_has ls 7 [(0, .ref b0), (1, .ref xo), (2, .ref hm), (3, .ref oa), (4, .int (nI i))] → W p l e room_1 s m #[Value.ref b0] below meth c H2 [] (cells + 4) (slots + 1094) (lw_Z below #[Value.ref b0] s) (F0 m 1320 ls []) := by
      intro H2 ls hLI2 hl
      refine lv_iinc (v := nI (i + 7)) (lv' := [(4, .int (nI (i + 7))), (0, .ref b0), (1, .ref xo), (2, .ref hm), (3, .ref oa)]) hx hb d_L_law_1320 hl (k := 4) rfl (by rw [show Int32.ofInt 7 = nI 7 by decide]; exact nI_add _ _) (by decide) rfl (fun ls hl => ?_)
      refine lv_goto (tgt := 23) hx hb d_L_law_1323 (by decide) ?_
      exact ih (i + 7) (cells + 4) (slots + 1094) H2 ls (by omega) (by omega) (by omega) (by omega) hLI2 (lv_sub hl [1, 2, 3, 4, 0] rfl)
    have hcl : cells + 4 ≤ room_1.cells := by show cells + 4 ≤ 601024; omega
    have hsl : slots + 1094 ≤ room_1.slots := by show slots + 1094 ≤ 7293034; omega
    refine lv_aload_n hx hb d_L_law_33 rfl (lv_at hl 0 rfl) ?_
    refine lv_iload hx hb d_L_law_34 (lv_at hl 4 rfl) ?_
    refine sc_ld hx hb hXs hbl hon (j := i) (by omega) hL d_L_law_36 ?_
    refine lv_bipush (v := nI 15) hx hb d_L_law_37 (by decide) ?_
    refine lv_iand hx hb d_L_law_39 ?_
    obtain ⟨d, hd, e9⟩ := pk_andE (xs i) (m := nI 15) 4 (by decide)
    refine tp_i (y := nI d) e9 ?_
    have hd9 : d = 0 ∨ d = 1 ∨ d = 2 ∨ d = 3 ∨ d = 4 ∨ d = 5 ∨ d = 6 ∨ d = 7 ∨ d = 8 ∨ d = 9 ∨ d = 10 ∨ d = 11 ∨ d = 12 ∨ 13 ≤ d := by omega
    rcases hd9 with rfl | rfl | rfl | rfl | rfl | rfl | rfl | rfl | rfl | rfl | rfl | rfl | rfl | h9
    · refine lv_tableIn (tgt := 108) hx hb d_L_law_40 (by decide) (by decide) rfl (by decide) ?_
      exact l_mix G hx hb hml hown hXs hbl hL hDm hLI hi7 hcl hsl hl hend
    · refine lv_tableIn (tgt := 178) hx hb d_L_law_40 (by decide) (by decide) rfl (by decide) ?_
      exact l_make G hx hb hml hown hXs hbl hL hDm hLI hi7 hcl hsl hl hend
    · refine lv_tableIn (tgt := 250) hx hb d_L_law_40 (by decide) (by decide) rfl (by decide) ?_
      exact l_add G hx hb hml hown hXs hbl hL hDm hLI hi7 hcl hsl hl hend
    · refine lv_tableIn (tgt := 350) hx hb d_L_law_40 (by decide) (by decide) rfl (by decide) ?_
      exact l_addAll G hx hb hml hown hXs hbl hL hDm hLI hi7 hcl hsl hl hend
    · refine lv_tableIn (tgt := 508) hx hb d_L_law_40 (by decide) (by decide) rfl (by decide) ?_
      exact l_remove G hx hb hml hown hXs hbl hL hDm hLI hi7 hcl hsl hl hend
    · refine lv_tableIn (tgt := 608) hx hb d_L_law_40 (by decide) (by decide) rfl (by decide) ?_
      exact l_has G hx hb hml hown hXs hbl hL hDm hLI hi7 hcl hsl hl hend
    · refine lv_tableIn (tgt := 715) hx hb d_L_law_40 (by decide) (by decide) rfl (by decide) ?_
      exact l_hasAll G hx hb hml hown hXs hbl hL hDm hLI hi7 hcl hsl hl hend
    · refine lv_tableIn (tgt := 873) hx hb d_L_law_40 (by decide) (by decide) rfl (by decide) ?_
      exact l_same G hx hb hml hown hXs hbl hL hDm hLI hi7 hcl hsl hl hend
    · refine lv_tableIn (tgt := 1024) hx hb d_L_law_40 (by decide) (by decide) rfl (by decide) ?_
      exact l_count G hx hb hml hown hXs hbl hL hDm hLI hi7 hcl hsl hl hend
    · refine lv_tableIn (tgt := 1092) hx hb d_L_law_40 (by decide) (by decide) rfl (by decide) ?_
      exact l_cell G hx hb hml hown hXs hbl hL hDm hLI hi7 hcl hsl hl hend
    · refine lv_tableIn (tgt := 1160) hx hb d_L_law_40 (by decide) (by decide) rfl (by decide) ?_
      exact l_merge G hx hb hml hown hXs hbl hL hDm hLI hi7 hcl hsl hl hend
    · refine lv_tableIn (tgt := 1228) hx hb d_L_law_40 (by decide) (by decide) rfl (by decide) ?_
      exact l_grow G hx hb hml hown hXs hbl hL hDm hLI hi7 hcl hsl hl hend
    · refine lv_tableIn (tgt := 1264) hx hb d_L_law_40 (by decide) (by decide) rfl (by decide) ?_
      exact l_clear G hx hb hml hown hXs hbl hL hDm hLI hi7 hcl hsl hl hend
    · refine lv_tableOut (tgt := 1320) hx hb d_L_law_40 (Or.inr (by rw [nI_toInt (by omega)]; omega)) (by decide) ?_
      refine W.widen (k := cells + 4) (n := slots + 1094) (by omega) (by omega) ?_
      exact hend H ls hLI hl
