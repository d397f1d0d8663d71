/-- the four words of a throw that speak of the heap, and the others -/
def thNo (w : Cond) : Bool := decide (w ≠ .isRef (.static Bundle.tN "UNASSIGNED_STACK" Bundle.steD)) && decide (w ≠ .isRef (.static Bundle.tN "SUPPRESSED_SENTINEL" Bundle.listD)) && decide (w ≠ .laysStatic Bundle.tN "UNASSIGNED_STACK" Bundle.steD) && decide (w ≠ .laysStatic Bundle.tN "SUPPRESSED_SENTINEL" Bundle.listD)
/-- what the throw of an E in the class FewBits stands on -/
def thF (s0 : State) (ik ic : Nat) (E : String) (ix : Nat) (rx : ByteArray) : Prop :=
  Bundle.fit E = true ∧ decode rx 0 = .ok (.aload_n 0, 1) ∧ decode rx 1 = .ok (.aload_n 1, 1) ∧ decode rx 2 = .ok (.invokespecial ix, 3) ∧ decode rx 5 = .ok (.return_, 1) ∧
  ∀ (a : Array Value) (U : State), s0.WarmedH U.vm → (Cond.classLink "FewBits" ik E).before a U = true ∧ (Cond.initialized E).before a U = true ∧ ∀ w ∈ (thW "FewBits" ic E ix rx).filter thNo, w.before a U = true
theorem Tb.tab {s0 : State} (h : Tb s0) {w : Cond} (i : Nat) (hi : tables_1[i]? = some w) (ht : w.tabsOnly = true) (a : Array Value) {U : State} (hW : s0.WarmedH U.vm) : w.before a U = true := by
  obtain ⟨a0, h⟩ := h
  have h1 := Cond.tabsOnly_warm (args' := a) (T := U) hW w ht (h w (List.mem_append_right _ (List.mem_of_getElem? hi)))
  rwa [State.setVm_self] at h1
theorem and1 {a b : Cond} {x : Array Value} {s : State} (h : (Cond.and a b).before x s = true) : a.before x s = true := by
  rw [Cond.before_and, Bool.and_eq_true] at h; exact h.1
theorem and2 {a b : Cond} {x : Array Value} {s : State} (h : (Cond.and a b).before x s = true) : b.before x s = true := by
  rw [Cond.before_and, Bool.and_eq_true] at h; exact h.2
abbrev E_I : String := "java/lang/IndexOutOfBoundsException"
set_option maxRecDepth 20000 in
theorem th_I {l : Launch} {s0 : State} {D : va_G} {cI cF cJ : ClassId} (G : Gx l s0 D cI cF cJ) : thF s0 110 114 E_I 7 prog_11_method_2_code := by
  refine ⟨by decide +kernel, by decide +kernel, by decide +kernel, by decide +kernel, by decide +kernel, fun a U hW => ⟨G.1.at 63 rfl rfl _ hW, G.1.at 6 rfl rfl _ hW, ?_⟩⟩
  intro w hw
  have h : w ∈ ([3, 85, 94, 100, 103, 105, 86, 87, 24, 25, 88, 93, 101, 121, 75, 122, 77, 123, 79, 89, 91, 81, 117, 118, 120, 81, 108, 109, 110, 111, 67, 111, 112, 113, 114, 69, 114, 115, 116, 117, 71, 107, 64, 72, 73, 74, 76, 78, 80, 84, 83, 82] : List Nat).filterMap (fun i => tables_1[i]?) := (by decide +kernel : (thW "FewBits" 114 E_I 7 prog_11_method_2_code).filter thNo = ([3, 85, 94, 100, 103, 105, 86, 87, 24, 25, 88, 93, 101, 121, 75, 122, 77, 123, 79, 89, 91, 81, 117, 118, 120, 81, 108, 109, 110, 111, 67, 111, 112, 113, 114, 69, 114, 115, 116, 117, 71, 107, 64, 72, 73, 74, 76, 78, 80, 84, 83, 82] : List Nat).filterMap (fun i => tables_1[i]?)) ▸ hw
  obtain ⟨i, hi, hj⟩ := List.mem_filterMap.mp h
  refine G.1.tab i hj ?_ _ hW
  have hg : ((thW "FewBits" 114 E_I 7 prog_11_method_2_code).filter thNo).all Cond.tabsOnly = true := by decide +kernel
  exact List.all_eq_true.mp hg w hw
abbrev E_A : String := "java/lang/IllegalArgumentException"
set_option maxRecDepth 20000 in
theorem th_A {l : Launch} {s0 : State} {D : va_G} {cI cF cJ : ClassId} (G : Gx l s0 D cI cF cJ) : thF s0 30 34 E_A 7 prog_9_method_2_code := by
  refine ⟨by decide +kernel, by decide +kernel, by decide +kernel, by decide +kernel, by decide +kernel, fun a U hW => ⟨G.1.at 136 rfl rfl _ hW, G.1.at 7 rfl rfl _ hW, ?_⟩⟩
  intro w hw
  have h : w ∈ ([3, 85, 94, 100, 103, 105, 86, 87, 24, 25, 88, 93, 101, 121, 75, 122, 77, 123, 79, 89, 91, 81, 117, 118, 120, 81, 147, 148, 149, 111, 67, 111, 112, 113, 114, 69, 114, 115, 116, 117, 71, 146, 137, 139, 96, 140, 141, 142, 143, 84, 83, 144] : List Nat).filterMap (fun i => tables_1[i]?) := (by decide +kernel : (thW "FewBits" 34 E_A 7 prog_9_method_2_code).filter thNo = ([3, 85, 94, 100, 103, 105, 86, 87, 24, 25, 88, 93, 101, 121, 75, 122, 77, 123, 79, 89, 91, 81, 117, 118, 120, 81, 147, 148, 149, 111, 67, 111, 112, 113, 114, 69, 114, 115, 116, 117, 71, 146, 137, 139, 96, 140, 141, 142, 143, 84, 83, 144] : List Nat).filterMap (fun i => tables_1[i]?)) ▸ hw
  obtain ⟨i, hi, hj⟩ := List.mem_filterMap.mp h
  refine G.1.tab i hj ?_ _ hW
  have hg : ((thW "FewBits" 34 E_A 7 prog_9_method_2_code).filter thNo).all Cond.tabsOnly = true := by decide +kernel
  exact List.all_eq_true.mp hg w hw
abbrev E_S : String := "java/lang/IllegalStateException"
set_option maxRecDepth 20000 in
theorem th_S {l : Launch} {s0 : State} {D : va_G} {cI cF cJ : ClassId} (G : Gx l s0 D cI cF cJ) : thF s0 102 106 E_S 7 prog_10_method_2_code := by
  refine ⟨by decide +kernel, by decide +kernel, by decide +kernel, by decide +kernel, by decide +kernel, fun a U hW => ⟨G.1.at 275 rfl rfl _ hW, G.1.at 13 rfl rfl _ hW, ?_⟩⟩
  intro w hw
  have h : w ∈ ([3, 85, 94, 100, 103, 105, 86, 87, 24, 25, 88, 93, 101, 121, 75, 122, 77, 123, 79, 89, 91, 81, 117, 118, 120, 81, 286, 287, 288, 111, 67, 111, 112, 113, 114, 69, 114, 115, 116, 117, 71, 285, 276, 278, 97, 279, 280, 281, 282, 84, 83, 283] : List Nat).filterMap (fun i => tables_1[i]?) := (by decide +kernel : (thW "FewBits" 106 E_S 7 prog_10_method_2_code).filter thNo = ([3, 85, 94, 100, 103, 105, 86, 87, 24, 25, 88, 93, 101, 121, 75, 122, 77, 123, 79, 89, 91, 81, 117, 118, 120, 81, 286, 287, 288, 111, 67, 111, 112, 113, 114, 69, 114, 115, 116, 117, 71, 285, 276, 278, 97, 279, 280, 281, 282, 84, 83, 283] : List Nat).filterMap (fun i => tables_1[i]?)) ▸ hw
  obtain ⟨i, hi, hj⟩ := List.mem_filterMap.mp h
  refine G.1.tab i hj ?_ _ hW
  have hg : ((thW "FewBits" 106 E_S 7 prog_10_method_2_code).filter thNo).all Cond.tabsOnly = true := by decide +kernel
  exact List.all_eq_true.mp hg w hw
abbrev E_U : String := "java/lang/UnsupportedOperationException"
set_option maxRecDepth 20000 in
theorem th_U {l : Launch} {s0 : State} {D : va_G} {cI cF cJ : ClassId} (G : Gx l s0 D cI cF cJ) : thF s0 53 57 E_U 7 prog_17_method_2_code := by
  refine ⟨by decide +kernel, by decide +kernel, by decide +kernel, by decide +kernel, by decide +kernel, fun a U hW => ⟨G.1.at 388 rfl rfl _ hW, G.1.at 15 rfl rfl _ hW, ?_⟩⟩
  intro w hw
  have h : w ∈ ([3, 85, 94, 100, 103, 105, 86, 87, 24, 25, 88, 93, 101, 121, 75, 122, 77, 123, 79, 89, 91, 81, 117, 118, 120, 81, 399, 400, 401, 111, 67, 111, 112, 113, 114, 69, 114, 115, 116, 117, 71, 398, 389, 391, 98, 392, 393, 394, 395, 84, 83, 396] : List Nat).filterMap (fun i => tables_1[i]?) := (by decide +kernel : (thW "FewBits" 57 E_U 7 prog_17_method_2_code).filter thNo = ([3, 85, 94, 100, 103, 105, 86, 87, 24, 25, 88, 93, 101, 121, 75, 122, 77, 123, 79, 89, 91, 81, 117, 118, 120, 81, 399, 400, 401, 111, 67, 111, 112, 113, 114, 69, 114, 115, 116, 117, 71, 398, 389, 391, 98, 392, 393, 394, 395, 84, 83, 396] : List Nat).filterMap (fun i => tables_1[i]?)) ▸ hw
  obtain ⟨i, hi, hj⟩ := List.mem_filterMap.mp h
  refine G.1.tab i hj ?_ _ hW
  have hg : ((thW "FewBits" 57 E_U 7 prog_17_method_2_code).filter thNo).all Cond.tabsOnly = true := by decide +kernel
  exact List.all_eq_true.mp hg w hw
abbrev E_N : String := "java/util/NoSuchElementException"
set_option maxRecDepth 20000 in
theorem th_N {l : Launch} {s0 : State} {D : va_G} {cI cF cJ : ClassId} (G : Gx l s0 D cI cF cJ) : thF s0 68 72 E_N 13 prog_19_method_4_code := by
  refine ⟨by decide +kernel, by decide +kernel, by decide +kernel, by decide +kernel, by decide +kernel, fun a U hW => ⟨G.1.at 446 rfl rfl _ hW, G.1.at 16 rfl rfl _ hW, ?_⟩⟩
  intro w hw
  have h : w ∈ ([3, 85, 94, 100, 103, 105, 86, 87, 24, 25, 88, 93, 101, 121, 75, 122, 77, 123, 79, 89, 91, 81, 117, 118, 120, 81, 457, 458, 459, 111, 67, 111, 112, 113, 114, 69, 114, 115, 116, 117, 71, 456, 447, 449, 99, 450, 451, 452, 453, 84, 83, 454] : List Nat).filterMap (fun i => tables_1[i]?) := (by decide +kernel : (thW "FewBits" 72 E_N 13 prog_19_method_4_code).filter thNo = ([3, 85, 94, 100, 103, 105, 86, 87, 24, 25, 88, 93, 101, 121, 75, 122, 77, 123, 79, 89, 91, 81, 117, 118, 120, 81, 457, 458, 459, 111, 67, 111, 112, 113, 114, 69, 114, 115, 116, 117, 71, 456, 447, 449, 99, 450, 451, 452, 453, 84, 83, 454] : List Nat).filterMap (fun i => tables_1[i]?)) ▸ hw
  obtain ⟨i, hi, hj⟩ := List.mem_filterMap.mp h
  refine G.1.tab i hj ?_ _ hW
  have hg : ((thW "FewBits" 72 E_N 13 prog_19_method_4_code).filter thNo).all Cond.tabsOnly = true := by decide +kernel
  exact List.all_eq_true.mp hg w hw
theorem nc_AI {l : Launch} {s0 : State} {D : va_G} {cI cF cJ : ClassId} (G : Gx l s0 D cI cF cJ) {U : State} (hW : s0.WarmedH U.vm) : va_Nc E_A E_I U := by
  obtain ⟨a0, h9⟩ := G.2.2.2
  exact va_Nc.moved hW.alike (va_Nc.of (args := a0) (and1 (and1 (and2 (and1 (and1 (and1 (and1 (and1 (and2 h9))))))))))
theorem nc_SI {l : Launch} {s0 : State} {D : va_G} {cI cF cJ : ClassId} (G : Gx l s0 D cI cF cJ) {U : State} (hW : s0.WarmedH U.vm) : va_Nc E_S E_I U := by
  obtain ⟨a0, h9⟩ := G.2.2.2
  exact va_Nc.moved hW.alike (va_Nc.of (args := a0) (and1 (and2 (and2 (and2 (and1 (and1 (and1 (and1 (and1 (and2 h9)))))))))))
theorem nc_UI {l : Launch} {s0 : State} {D : va_G} {cI cF cJ : ClassId} (G : Gx l s0 D cI cF cJ) {U : State} (hW : s0.WarmedH U.vm) : va_Nc E_U E_I U := by
  obtain ⟨a0, h9⟩ := G.2.2.2
  exact va_Nc.moved hW.alike (va_Nc.of (args := a0) (and2 (and2 (and2 (and2 (and1 (and1 (and1 (and1 (and1 (and2 h9)))))))))))
theorem nc_US {l : Launch} {s0 : State} {D : va_G} {cI cF cJ : ClassId} (G : Gx l s0 D cI cF cJ) {U : State} (hW : s0.WarmedH U.vm) : va_Nc E_U E_S U := by
  obtain ⟨a0, h9⟩ := G.2.2.2
  exact va_Nc.moved hW.alike (va_Nc.of (args := a0) (and1 (and2 (and2 (and1 (and1 (and2 (and1 (and1 (and1 (and2 h9)))))))))))
theorem nc_AS {l : Launch} {s0 : State} {D : va_G} {cI cF cJ : ClassId} (G : Gx l s0 D cI cF cJ) {U : State} (hW : s0.WarmedH U.vm) : va_Nc E_A E_S U := by
  obtain ⟨a0, h9⟩ := G.2.2.2
  exact va_Nc.moved hW.alike (va_Nc.of (args := a0) (and1 (and1 (and1 (and1 (and2 (and1 (and1 (and1 (and2 h9))))))))))
theorem nc_NI {l : Launch} {s0 : State} {D : va_G} {cI cF cJ : ClassId} (G : Gx l s0 D cI cF cJ) {U : State} (hW : s0.WarmedH U.vm) : va_Nc E_N E_I U := by
  obtain ⟨a0, h9⟩ := G.2.2.2
  exact va_Nc.moved hW.alike (va_Nc.of (args := a0) (and1 (and1 (and1 (and2 (and1 (and1 (and1 (and1 (and2 h9))))))))))
theorem nc_NS {l : Launch} {s0 : State} {D : va_G} {cI cF cJ : ClassId} (G : Gx l s0 D cI cF cJ) {U : State} (hW : s0.WarmedH U.vm) : va_Nc E_N E_S U := by
  obtain ⟨a0, h9⟩ := G.2.2.2
  exact va_Nc.moved hW.alike (va_Nc.of (args := a0) (and2 (and2 (and2 (and1 (and1 (and2 (and1 (and1 (and1 (and2 h9)))))))))))
theorem nc_IS {l : Launch} {s0 : State} {D : va_G} {cI cF cJ : ClassId} (G : Gx l s0 D cI cF cJ) {U : State} (hW : s0.WarmedH U.vm) : va_Nc E_I E_S U := by
  obtain ⟨a0, h9⟩ := G.2.2.2
  exact va_Nc.moved hW.alike (va_Nc.of (args := a0) (and2 (and2 (and2 (and2 (and2 (and1 (and1 (and1 (and1 (and2 h9)))))))))))
theorem nc_UA {l : Launch} {s0 : State} {D : va_G} {cI cF cJ : ClassId} (G : Gx l s0 D cI cF cJ) {U : State} (hW : s0.WarmedH U.vm) : va_Nc E_U E_A U := by
  obtain ⟨a0, h9⟩ := G.2.2.2
  exact va_Nc.moved hW.alike (va_Nc.of (args := a0) (and2 (and2 (and1 (and2 (and2 (and1 (and1 (and1 (and1 (and2 h9)))))))))))
theorem nc_CR {l : Launch} {s0 : State} {D : va_G} {cI cF cJ : ClassId} (G : Gx l s0 D cI cF cJ) {U : State} (hW : s0.WarmedH U.vm) : va_Nc R_C R_R U := by
  obtain ⟨a0, h9⟩ := G.2.2.2
  exact va_Nc.moved hW.alike (va_Nc.of (args := a0) (and2 (and2 (and1 (and1 (and1 (and1 (and2 (and1 (and1 (and2 h9)))))))))))
theorem nc_BR {l : Launch} {s0 : State} {D : va_G} {cI cF cJ : ClassId} (G : Gx l s0 D cI cF cJ) {U : State} (hW : s0.WarmedH U.vm) : va_Nc R_B R_R U := by
  obtain ⟨a0, h9⟩ := G.2.2.2
  exact va_Nc.moved hW.alike (va_Nc.of (args := a0) (and1 (and2 (and1 (and1 (and1 (and2 (and1 (and1 (and2 h9))))))))))
theorem rf_U {l : Launch} {s0 : State} {D : va_G} {cI cF cJ : ClassId} (G : Gx l s0 D cI cF cJ) : ∃ a0, (Cond.isRef (.static Bundle.tN "UNASSIGNED_STACK" Bundle.steD)).before a0 s0 = true := by
  obtain ⟨a0, h9⟩ := G.2.2.2
  exact ⟨a0, (and2 (and2 (and1 (and1 (and1 (and1 (and1 (and1 (and1 (and2 h9))))))))))⟩
theorem rf_S {l : Launch} {s0 : State} {D : va_G} {cI cF cJ : ClassId} (G : Gx l s0 D cI cF cJ) : ∃ a0, (Cond.isRef (.static Bundle.tN "SUPPRESSED_SENTINEL" Bundle.listD)).before a0 s0 = true := by
  obtain ⟨a0, h9⟩ := G.2.2.2
  exact ⟨a0, (and1 (and2 (and1 (and1 (and1 (and1 (and1 (and1 (and2 h9)))))))))⟩
