abbrev wX (cF : ClassId) (xo fa ma : Nat) : va_W := [(xo, .inr (3, [.ref fa, .ref ma])), (fa, aQ cF 4 (fun _ => none)), (ma, aQ cF 12 (fun _ => none))]
abbrev wM (cI : ClassId) (hm a1 a2 a3 a4 a5 a6 a7 a8 a9 a10 a11 : Nat) : va_W := [(hm, .inr (4, [.int 0, .ref a1, .ref a2, .ref a3, .ref a4, .ref a5, .ref a6, .ref a7, .ref a8, .ref a9, .ref a10, .ref a11])), (a1, aN cI 4 (fun _ => 0)), (a2, aN cI 4 (fun _ => 0)), (a3, aN cI 4 (fun _ => 0)), (a4, aN cI 4 (fun _ => 0)), (a5, aN cI 4 (fun _ => 0)), (a6, aN cI 4096 (fun _ => 0)), (a7, aN cI 1024 (fun _ => 0)), (a8, aN cI 1024 (fun _ => 0)), (a9, aN cI 256 (fun _ => 0)), (a10, aN cI 6 (fun _ => 0)), (a11, aN cI 6 (fun _ => 0))]
theorem va_P.ltm {D : va_G} {cl : List vw_C} {ws : va_W} {H : Heap} (hP : va_P D cl ws H) {q : Nat} (h : q ∈ ws.map (·.1)) : q < H.size := by
  obtain ⟨x, hx, rfl⟩ := List.mem_map.mp h
  obtain ⟨k, hk⟩ := List.getElem?_of_mem hx
  exact (hP k x hk).lt
theorem va_D.apart {A : Nat → Prop} {w1 w2 : va_W} (h : va_D A (w1 ++ w2)) {q : Nat} (h1 : q ∈ w1.map (·.1)) (h2 : q ∈ w2.map (·.1)) : False := by
  obtain ⟨x, hx, rfl⟩ := List.mem_map.mp h1
  obtain ⟨y, hy, e9⟩ := List.mem_map.mp h2
  obtain ⟨i, hi⟩ := List.getElem?_of_mem hx
  obtain ⟨j, hj⟩ := List.getElem?_of_mem hy
  have hl := (List.getElem?_eq_some_iff.mp hi).1
  have := h.1 i (w1.length + j) x y (by rw [List.getElem?_append_left hl]; exact hi) (by rw [List.getElem?_append_right (by omega), Nat.add_sub_cancel_left]; exact hj) e9.symm
  omega
/-- the law's picture at its start -/
theorem li_start {s0 : State} {D : va_G} {cI cF cJ : ClassId} {xo fa ma hm a1 a2 a3 a4 a5 a6 a7 a8 a9 a10 a11 oa : Nat} {H : Heap} {g : Nat → Int64} (hPx : va_P D vcl (wX cF xo fa ma) H) (hPm : va_P D vcl (wM cI hm a1 a2 a3 a4 a5 a6 a7 a8 a9 a10 a11) H) (hPo : va_P D vcl [(oa, aJ cJ 1 g)] H) (hon : onS s0 H)
    (hD1 : va_D (fun q => s0.heap.size ≤ q) (wX cF xo fa ma ++ wM cI hm a1 a2 a3 a4 a5 a6 a7 a8 a9 a10 a11)) (hD2 : va_D (fun q => s0.heap.size ≤ q) ((wX cF xo fa ma ++ wM cI hm a1 a2 a3 a4 a5 a6 a7 a8 a9 a10 a11) ++ [(oa, aJ cJ 1 g)])) : LI s0 D cI cF cJ xo fa ma hm a1 a2 a3 a4 a5 a6 a7 a8 a9 a10 a11 oa H := by
  have x1 : ∀ q, q ∈ ([xo, fa, ma] : List Nat) → q ∈ (wX cF xo fa ma).map (·.1) := fun _ h => h
  have m1 : ∀ q, q ∈ ([hm, a1, a2, a3, a4, a5, a6, a7, a8, a9, a10, a11] : List Nat) → q ∈ (wM cI hm a1 a2 a3 a4 a5 a6 a7 a8 a9 a10 a11).map (·.1) := fun _ h => h
  have o1 : oa ∈ ([(oa, aJ cJ 1 g)] : va_W).map (·.1) := List.mem_singleton.mpr rfl
  have x2 : ∀ q, q ∈ ([xo, fa, ma] : List Nat) → q ∈ (wX cF xo fa ma ++ wM cI hm a1 a2 a3 a4 a5 a6 a7 a8 a9 a10 a11).map (·.1) := fun q h => by rw [List.map_append]; exact List.mem_append_left _ (x1 q h)
  have m2 : ∀ q, q ∈ ([hm, a1, a2, a3, a4, a5, a6, a7, a8, a9, a10, a11] : List Nat) → q ∈ (wX cF xo fa ma ++ wM cI hm a1 a2 a3 a4 a5 a6 a7 a8 a9 a10 a11).map (·.1) := fun q h => by rw [List.map_append]; exact List.mem_append_right _ (m1 q h)
  have hxm : ∀ q, q ∈ ([xo, fa, ma] : List Nat) → q ∉ ([hm, a1, a2, a3, a4, a5, a6, a7, a8, a9, a10, a11] : List Nat) := fun q h h2 => hD1.apart (x1 q h) (m1 q h2)
  have hxo : oa ∉ ([xo, fa, ma] : List Nat) := fun h => hD2.apart (x2 oa h) o1
  have hmo : oa ∉ ([hm, a1, a2, a3, a4, a5, a6, a7, a8, a9, a10, a11] : List Nat) := fun h => hD2.apart (m2 oa h) o1
  have hoS : s0.heap.size ≤ oa := hD2.mem (by rw [List.map_append]; exact List.mem_append_right _ o1)
  obtain ⟨t, ht⟩ : ∃ t : Nat → Nat, ∀ q, t q = if q ∈ ([xo, fa, ma] : List Nat) then 1 else if q ∈ ([hm, a1, a2, a3, a4, a5, a6, a7, a8, a9, a10, a11] : List Nat) then 20 else if q = oa then 21 else 0 := ⟨_, fun _ => rfl⟩
  refine ⟨t, fun _ => (0, 0, 0, 0, 0, fun _ => 0, 0, fun _ => 0), 0, g, ⟨fun _ => none, fun _ => none, fun _ => none, hPx, ⟨fun i j p q hi hj h => ?_, fun k x hx => ?_⟩, fun _ _ => rfl, fun _ _ _ _ h => (by simp at h), fun j _ => Or.inl ⟨rfl, rfl⟩⟩,
    ⟨fun _ => 0, fun _ => 0, fun _ => 0, fun _ => nI 0, fun _ => nI 0, fun _ => 0, fun _ => 0, fun _ => 0, fun _ => nI 0, fun _ => 0, fun _ => 0, hPm, fun i _ => ⟨rfl, fun h => absurd rfl h, fun h => (by rcases h with h | h <;> cases h), fun h => (by cases h), fun h => (by cases h), fun j _ => ?_⟩⟩, hPo, fun _ _ => Or.inl rfl, hon, fun q hq => ?_, fun q hq => ?_, fun q hq => ?_, ?_⟩
  · have key : ∀ (w1 w2 : va_W), va_D (fun q => s0.heap.size ≤ q) (w1 ++ w2) → w1[i]? = some p → w1[j]? = some q → i = j := fun w1 w2 hd h1 h2 => hd.1 i j p q (by rw [List.getElem?_append_left (List.getElem?_eq_some_iff.mp h1).1]; exact h1) (by rw [List.getElem?_append_left (List.getElem?_eq_some_iff.mp h2).1]; exact h2) h
    exact key _ _ hD1 hi hj
  · have h8 : x.1 ∈ (wX cF xo fa ma).map (·.1) := List.mem_map.mpr ⟨x, List.mem_of_getElem? hx, rfl⟩
    have h9 : x.1 ∈ ([xo, fa, ma] : List Nat) := h8
    show t x.1 = 1
    rw [ht, if_pos h9]
  · show (0 : Nat) < 2 ^ 28
    decide
  · have n1 : q ∉ ([xo, fa, ma] : List Nat) := fun h => by
      have h5 : s0.heap.size ≤ q := hD1.mem (x2 q h)
      omega
    have n2 : q ∉ ([hm, a1, a2, a3, a4, a5, a6, a7, a8, a9, a10, a11] : List Nat) := fun h => by
      have h5 : s0.heap.size ≤ q := hD1.mem (m2 q h)
      omega
    have n3 : ¬ q = oa := fun h => by omega
    rw [ht, if_neg n1, if_neg n2, if_neg n3]
  · have n1 : q ∉ ([xo, fa, ma] : List Nat) := fun h => by
      have h5 : q < H.size := hPx.ltm (x1 q h)
      omega
    have n2 : q ∉ ([hm, a1, a2, a3, a4, a5, a6, a7, a8, a9, a10, a11] : List Nat) := fun h => by
      have h5 : q < H.size := hPm.ltm (m1 q h)
      omega
    have n3 : ¬ q = oa := fun h => by
      have h5 : oa < H.size := hPo.ltm o1
      omega
    rw [ht, if_neg n1, if_neg n2, if_neg n3]
    exact Nat.zero_le _
  · rw [ht, if_neg (fun h => hxm q h hq), if_pos hq]
  · rw [ht, if_neg hxo, if_neg hmo, if_pos rfl]

section ROWSN
variable {p : Program} {l : Launch} {e : Env} {R : Room} {s : State} {m : MethodId} {args : Array Value} {below : List Frame} {meth : Method} {c : Code} {H : Heap} {locs : List Loc} {cells slots : Nat} {Q : State → Prop}
variable {cc : ByteArray} {pc : Nat} {ls : Array Slot} {rest : List Value} {D : va_G} {cI cF cJ : ClassId} {ws : va_W} {A : Nat → Prop} {H0 : Heap}
theorem na_l (hx : p.tables.exec = Jvm.exec) (hb : c.code = cc) (harr : (Cond.arrayClass .long).before args s = true) (hK : va_K D vcl (tys cI cF cJ) s) (hP : va_P D vcl ws H) (hD : va_D A ws) (hS : va_S A H0 H locs) (hA : ∀ q, H0.size ≤ q → A q)
    {N : Nat} (hN : N < 2 ^ 26) (hcells : cells + 1 ≤ R.cells) (hslots : slots + N ≤ R.slots) (hdg : decode cc pc = .ok (.newarray .long, 2))
    (kk : ∀ (q : Nat) (H1 : Heap), va_P D vcl (ws ++ [(q, aJ cJ N (fun _ => 0))]) H1 → va_D A (ws ++ [(q, aJ cJ N (fun _ => 0))]) → va_S A H0 H1 locs → W p l e R s m args below meth c H1 locs (cells + 1) (slots + N) Q (F0 m (pc + 2) ls (.ref q :: rest))) :
    W p l e R s m args below meth c H locs cells slots Q (F0 m pc ls (.int (nI N) :: rest)) := by
  refine va_newa (atype := .long) hx hb harr (ty := .long) rfl hK hP hD hS hA (a0 := (N, .inr (.inl (fun _ => 0)))) (fun cA => by rw [vp_cell_l]; rfl) (nI_pos (by omega)) (nI_clamp (by omega)) (by show N * 8 ≤ _; omega) hcells hslots hdg (fun q cA H1 hK1 hP1 hD1 hS1 => ?_)
  have h1 : va_RA s cA .long := (hK1.2 3 (cA, .long) rfl).2
  have h2 : va_RA s cJ .long := (hK.2 2 (cJ, .long) rfl).2
  have h3 : cA = cJ := Option.some.inj ((show s.vm.findClass _ = some cA from h1).symm.trans h2)
  subst h3
  exact kk q H1 hP1 hD1 hS1
end ROWSN

set_option maxRecDepth 20000 in
theorem uw_C : ∀ w ∈ u_ws R_C T_C 6, w ∈ lw_tbl := by
  intro w hw
  have h : w ∈ ([196, 198, 200, 190, 192, 194] : List Nat).filterMap (fun i => tables_1[i]?) := (by decide +kernel : u_ws R_C T_C 6 = ([196, 198, 200, 190, 192, 194] : List Nat).filterMap (fun i => tables_1[i]?)) ▸ hw
  obtain ⟨i, hi, hj⟩ := List.mem_filterMap.mp h
  exact List.mem_append_right _ (List.mem_of_getElem? hj)

set_option maxRecDepth 20000 in
theorem uw_B : ∀ w ∈ u_ws R_B T_B 6, w ∈ lw_tbl := by
  intro w hw
  have h : w ∈ ([219, 220, 221, 213, 215, 217] : List Nat).filterMap (fun i => tables_1[i]?) := (by decide +kernel : u_ws R_B T_B 6 = ([219, 220, 221, 213, 215, 217] : List Nat).filterMap (fun i => tables_1[i]?)) ▸ hw
  obtain ⟨i, hi, hj⟩ := List.mem_filterMap.mp h
  exact List.mem_append_right _ (List.mem_of_getElem? hj)

set_option maxRecDepth 20000 in
theorem uw_R : ∀ w ∈ u_ws R_R T_R 5, w ∈ lw_tbl := by
  intro w hw
  have h : w ∈ ([235, 236, 237, 231, 233] : List Nat).filterMap (fun i => tables_1[i]?) := (by decide +kernel : u_ws R_R T_R 5 = ([235, 236, 237, 231, 233] : List Nat).filterMap (fun i => tables_1[i]?)) ▸ hw
  obtain ⟨i, hi, hj⟩ := List.mem_filterMap.mp h
  exact List.mem_append_right _ (List.mem_of_getElem? hj)

set_option maxRecDepth 20000 in
theorem uw_F : ∀ w ∈ u_ws R_F T_F 2, w ∈ lw_tbl := by
  intro w hw
  have h : w ∈ ([30, 32] : List Nat).filterMap (fun i => tables_1[i]?) := (by decide +kernel : u_ws R_F T_F 2 = ([30, 32] : List Nat).filterMap (fun i => tables_1[i]?)) ▸ hw
  obtain ⟨i, hi, hj⟩ := List.mem_filterMap.mp h
  exact List.mem_append_right _ (List.mem_of_getElem? hj)

set_option maxRecDepth 20000 in
theorem uw_M : ∀ w ∈ u_ws R_M T_M 12, w ∈ lw_tbl := by
  intro w hw
  have h : w ∈ ([665, 667, 669, 671, 673, 675, 677, 679, 681, 683, 685, 687] : List Nat).filterMap (fun i => tables_1[i]?) := (by decide +kernel : u_ws R_M T_M 12 = ([665, 667, 669, 671, 673, 675, 677, 679, 681, 683, 685, 687] : List Nat).filterMap (fun i => tables_1[i]?)) ▸ hw
  obtain ⟨i, hi, hj⟩ := List.mem_filterMap.mp h
  exact List.mem_append_right _ (List.mem_of_getElem? hj)

set_option maxRecDepth 20000 in
set_option maxHeartbeats 2000000 in
theorem gx_start {l : Launch} (htr : l.stackTraces = false) {s : State} {b : Nat} (hts : ∀ w ∈ lw_tbl, w.before #[Value.ref b] s = true) (hgv : (Jvm.Cond.and given_1 narrow_1).before #[Value.ref b] s = true) : ∃ (D : va_G) (cI cF cJ : ClassId), Gx l s D cI cF cJ := by
  have hat : ∀ (w : Cond) (i : Nat), tables_1[i]? = some w → w.before #[Value.ref b] s = true := fun w i hi => hts _ (List.mem_append_right _ (List.mem_of_getElem? hi))
  obtain ⟨c0, i0, k0⟩ := u_known (C := R_C) (T := T_C) (N := 6) (n := 6) hts uw_C (hat (.instantiable R_C 6) 160 rfl)
  obtain ⟨c1, i1, k1⟩ := u_known (C := R_B) (T := T_B) (N := 6) (n := 6) hts uw_B (hat (.instantiable R_B 6) 205 rfl)
  obtain ⟨c2, i2, k2⟩ := u_known (C := R_R) (T := T_R) (N := 5) (n := 5) hts uw_R (hat (.instantiable R_R 5) 224 rfl)
  obtain ⟨c3, i3, k3⟩ := u_known (C := R_F) (T := T_F) (N := 2) (n := 2) hts uw_F (hat (.instantiable R_F 2) 19 rfl)
  obtain ⟨c4, i4, k4⟩ := u_known (C := R_M) (T := T_M) (N := 12) (n := 12) hts uw_M (hat (.instantiable R_M 12) 648 rfl)
  obtain ⟨cI, kI, pI, hI1, hI2, hI3⟩ := Cond.arrayClass_spec (hat (.arrayClass .int) 203 rfl)
  obtain ⟨pF, cF, kF, hF1, -, hF2, hF3, hF4⟩ := Cond.arrayOver_spec (hat (.arrayOver (.object "FewBits$Filter")) 27 rfl)
  obtain ⟨cJ, kJ, pJ, hJ1, hJ2, hJ3⟩ := Cond.arrayClass_spec (hat (.arrayClass .long) 836 rfl)
  refine ⟨(fun k => if k = 0 then c0 else if k = 1 then c1 else if k = 2 then c2 else if k = 3 then c3 else c4, fun k => if k = 0 then i0 else if k = 1 then i1 else if k = 2 then i2 else if k = 3 then i3 else i4), cI, cF, cJ, ⟨#[Value.ref b], hts⟩, ⟨fun k q hq => ?_, fun k q hq => ?_⟩, htr, ⟨_, hgv⟩⟩
  · match k, hq with
    | 0, hq => cases hq; exact k0
    | 1, hq => cases hq; exact k1
    | 2, hq => cases hq; exact k2
    | 3, hq => cases hq; exact k3
    | 4, hq => cases hq; exact k4
    | k + 5, hq => simp at hq
  · match k, hq with
    | 0, hq => cases hq; exact ⟨fun n z => ⟨fun k h => (by cases h), kI, hI2, pI, hI3⟩, hI1⟩
    | 1, hq => cases hq; exact ⟨fun n z => ⟨fun k h => (by cases h), kF, hF2, pF, hF3⟩, kF, pF, hF2, hF3, hF1, hF4⟩
    | 2, hq => cases hq; exact ⟨fun n z => ⟨fun k h => (by cases h), kJ, hJ2, pJ, hJ3⟩, hJ1⟩
    | k + 3, hq => simp at hq
