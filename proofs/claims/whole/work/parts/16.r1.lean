set_option maxHeartbeats 4000000 in
set_option maxRecDepth 100000 in
theorem c_P_power_R {l : Launch} {s0 : State} {D : va_G} {cI cF cJ : ClassId} (G : Gx l s0 D cI cF cJ) (h h1 h2 A B n : Nat) (f : Nat → Nat) (g : Nat → Int32) {H0 : Heap} (hP : va_P D vcl [(h, .inr (2, [.int (nI A), .int (nI B), .int (nI n), .ref h1, .ref h2])), (h1, aN cI 256 f), (h2, aI cI 256 g)] H0) (hA : A ≤ 8) : Mx l s0 y_P_power (.code y_P_power b_P_power 1 (some .int)) { frames := 0, cells := 0, slots := 0, locals := 0 } [.ref h] H0 (fun _ => False) (Rd H0 (.int (nI (2 ^ A)))) := by
  refine Mx.ofW (own := "FewBits$Filter") rfl rfl ?_
  rintro p e s m below meth c ⟨hx, hb, hml, hr, hown, hW, hlk⟩ hnm het hH
  have hK := G.k hW
  have hl := lv_entry ([.ref h]) (n := 1) (Nat.le_of_ble_eq_true rfl)
  rw [lg_entry_eq]
  generalize (lg_sl ([.ref h]) ++ List.replicate (1 - (lg_sl ([.ref h])).length) Slot.unset).toArray = ls at hl ⊢
  have hl : lv_has ls 1 [(0, .ref h)] := hl
  refine lv_iconst (v := (nI 1)) hx hb d_P_power_0 (by decide) ?_
  refine lv_aload_n hx hb d_P_power_1 rfl (lv_at hl 0 rfl) ?_
  refine va_get (D := D) (ci := 2) (v := .int (nI A)) (C := R_R) (T := T_R) (N := 5) hx hb (us_R G hW) (fun _ h => h) hown hK hP 0 rfl rfl 0 (by decide) (fl_P_7 G hW) (fun _ h9 => h9) rfl d_P_power_2 ?_
  refine lv_ishl hx hb d_P_power_5 ?_
  refine tp_i (y := (nI (2 ^ A))) (pw_shl A (by omega)) ?_
  exact mx_iret hx hb hr hlk d_P_power_6 (Nat.le_of_ble_eq_true rfl) (Nat.le_of_ble_eq_true rfl) (fun _ h => nomatch h) (⟨rfl, rfl⟩)

set_option maxHeartbeats 4000000 in
set_option maxRecDepth 100000 in
theorem c_P_cells_R {l : Launch} {s0 : State} {D : va_G} {cI cF cJ : ClassId} (G : Gx l s0 D cI cF cJ) (h h1 h2 A B n : Nat) (f : Nat → Nat) (g : Nat → Int32) {H0 : Heap} (hP : va_P D vcl [(h, .inr (2, [.int (nI A), .int (nI B), .int (nI n), .ref h1, .ref h2])), (h1, aN cI 256 f), (h2, aI cI 256 g)] H0) (hA : A ≤ 8) : Mx l s0 y_P_cells (.code y_P_cells b_P_cells 1 (some .int)) { frames := 1, cells := 0, slots := 0, locals := 20 } [.ref h] H0 (fun _ => False) (Rd H0 (.int (nI (2 ^ A)))) := by
  refine Mx.ofW (own := "FewBits$Filter") rfl rfl ?_
  rintro p e s m below meth c ⟨hx, hb, hml, hr, hown, hW, hlk⟩ hnm het hH
  have hK := G.k hW
  have hl := lv_entry ([.ref h]) (n := 1) (Nat.le_of_ble_eq_true rfl)
  rw [lg_entry_eq]
  generalize (lg_sl ([.ref h]) ++ List.replicate (1 - (lg_sl ([.ref h])).length) Slot.unset).toArray = ls at hl ⊢
  have hl : lv_has ls 1 [(0, .ref h)] := hl
  refine lv_aload_n hx hb d_P_cells_0 rfl (lv_at hl 0 rfl) ?_
  refine mx_callR (r := .int (nI (2 ^ A))) (c_P_power_R G h h1 h2 A B n f g hP hA) hW (iv_P_cells_1_R G hx hb hown hW (va_recv hK hP (ci := 2) (q0 := 0) rfl rfl) [] [] rfl) hml hl.1 (by rw [hb]; exact d_P_cells_1) (cd_P_power G hW) ⟨Nat.le_of_ble_eq_true rfl, Nat.le_of_ble_eq_true rfl⟩ rfl rfl (Nat.le_of_ble_eq_true rfl) (Nat.le_of_ble_eq_true rfl) (Nat.le_of_ble_eq_true rfl) ?_
  exact mx_iret hx hb hr hlk d_P_cells_4 (Nat.le_of_ble_eq_true rfl) (Nat.le_of_ble_eq_true rfl) (fun _ h => nomatch h) (⟨rfl, rfl⟩)

set_option maxHeartbeats 4000000 in
set_option maxRecDepth 100000 in
theorem c_P_filledCells_R {l : Launch} {s0 : State} {D : va_G} {cI cF cJ : ClassId} (G : Gx l s0 D cI cF cJ) (h h1 h2 A B n : Nat) (f : Nat → Nat) (g : Nat → Int32) {H0 : Heap} (hP : va_P D vcl [(h, .inr (2, [.int (nI A), .int (nI B), .int (nI n), .ref h1, .ref h2])), (h1, aN cI 256 f), (h2, aI cI 256 g)] H0) : Mx l s0 y_P_filledCells (.code y_P_filledCells b_P_filledCells 1 (some .int)) { frames := 0, cells := 0, slots := 0, locals := 0 } [.ref h] H0 (fun _ => False) (Rd H0 (.int (nI n))) := by
  refine Mx.ofW (own := "FewBits$Filter") rfl rfl ?_
  rintro p e s m below meth c ⟨hx, hb, hml, hr, hown, hW, hlk⟩ hnm het hH
  have hK := G.k hW
  have hl := lv_entry ([.ref h]) (n := 1) (Nat.le_of_ble_eq_true rfl)
  rw [lg_entry_eq]
  generalize (lg_sl ([.ref h]) ++ List.replicate (1 - (lg_sl ([.ref h])).length) Slot.unset).toArray = ls at hl ⊢
  have hl : lv_has ls 1 [(0, .ref h)] := hl
  refine lv_aload_n hx hb d_P_filledCells_0 rfl (lv_at hl 0 rfl) ?_
  refine va_get (D := D) (ci := 2) (v := .int (nI n)) (C := R_R) (T := T_R) (N := 5) hx hb (us_R G hW) (fun _ h => h) hown hK hP 0 rfl rfl 2 (by decide) (fl_P_16 G hW) (fun _ h9 => h9) rfl d_P_filledCells_1 ?_
  exact mx_iret hx hb hr hlk d_P_filledCells_4 (Nat.le_of_ble_eq_true rfl) (Nat.le_of_ble_eq_true rfl) (fun _ h => nomatch h) (⟨rfl, rfl⟩)

set_option maxHeartbeats 4000000 in
set_option maxRecDepth 100000 in
theorem c_R_kind {l : Launch} {s0 : State} {D : va_G} {cI cF cJ : ClassId} (G : Gx l s0 D cI cF cJ) (h h1 h2 A B n : Nat) (f : Nat → Nat) (g : Nat → Int32) {H0 : Heap}  : Mx l s0 y_R_kind (.code y_R_kind b_R_kind 1 (some .int)) { frames := 0, cells := 0, slots := 0, locals := 0 } [.ref h] H0 (fun _ => False) (Rd H0 (.int (nI 3))) := by
  refine Mx.ofW (own := "FewBits$Runs") rfl rfl ?_
  rintro p e s m below meth c ⟨hx, hb, hml, hr, hown, hW, hlk⟩ hnm het hH
  have hK := G.k hW
  have hl := lv_entry ([.ref h]) (n := 1) (Nat.le_of_ble_eq_true rfl)
  rw [lg_entry_eq]
  generalize (lg_sl ([.ref h]) ++ List.replicate (1 - (lg_sl ([.ref h])).length) Slot.unset).toArray = ls at hl ⊢
  have hl : lv_has ls 1 [(0, .ref h)] := hl
  refine lv_iconst (v := (nI 3)) hx hb d_R_kind_0 (by decide) ?_
  exact mx_iret hx hb hr hlk d_R_kind_1 (Nat.le_of_ble_eq_true rfl) (Nat.le_of_ble_eq_true rfl) (fun _ h => nomatch h) (⟨rfl, rfl⟩)

set_option maxHeartbeats 4000000 in
set_option maxRecDepth 100000 in
theorem c_R_wipe {l : Launch} {s0 : State} {D : va_G} {cI cF cJ : ClassId} (G : Gx l s0 D cI cF cJ) (h h1 h2 A B n : Nat) (f : Nat → Nat) (g : Nat → Int32) {H0 : Heap} {A0 : Nat → Prop} (hP : va_P D vcl [(h, .inr (2, [.int (nI A), .int (nI B), .int (nI n), .ref h1, .ref h2])), (h1, aN cI 256 f), (h2, aI cI 256 g)] H0) (hD : va_D A0 [(h, .inr (2, [.int (nI A), .int (nI B), .int (nI n), .ref h1, .ref h2])), (h1, aN cI 256 f), (h2, aI cI 256 g)]) : Mx l s0 y_R_wipe (.code y_R_wipe b_R_wipe 1 none) { frames := 0, cells := 0, slots := 0, locals := 0 } [.ref h] H0 (Aa [h, h1, h2] H0.size) (Rn (fun H1 => va_P D vcl [(h, .inr (2, [.int (nI A), .int (nI B), .int (nI n), .ref h1, .ref h2])), (h1, aN cI 256 f), (h2, aI cI 256 g)] H1)) := by
  refine Mx.ofW (own := "FewBits$Runs") rfl rfl ?_
  rintro p e s m below meth c ⟨hx, hb, hml, hr, hown, hW, hlk⟩ hnm het hH
  have hK := G.k hW
  have hD := hD.aa (sz := H0.size)
  have hD : va_D (Aa [h, h1, h2] H0.size) [(h, .inr (2, [.int (nI A), .int (nI B), .int (nI n), .ref h1, .ref h2])), (h1, aN cI 256 f), (h2, aI cI 256 g)] := hD
  have hS : va_S (Aa [h, h1, h2] H0.size) H0 H0 [] := va_S.rf
  have hl := lv_entry ([.ref h]) (n := 1) (Nat.le_of_ble_eq_true rfl)
  rw [lg_entry_eq]
  generalize (lg_sl ([.ref h]) ++ List.replicate (1 - (lg_sl ([.ref h])).length) Slot.unset).toArray = ls at hl ⊢
  have hl : lv_has ls 1 [(0, .ref h)] := hl
  exact mx_vret hx hb hr hlk d_R_wipe_0 (Nat.le_of_ble_eq_true rfl) (Nat.le_of_ble_eq_true rfl) (fun _ h => nomatch h) (⟨rfl, hP⟩)

set_option maxHeartbeats 4000000 in
set_option maxRecDepth 100000 in
theorem c_R_pairOf {l : Launch} {s0 : State} {D : va_G} {cI cF cJ : ClassId} (G : Gx l s0 D cI cF cJ) (h h1 h2 A B n : Nat) (f : Nat → Nat) (g : Nat → Int32) (x : Int64) {H0 : Heap} (hP : va_P D vcl [(h, .inr (2, [.int (nI A), .int (nI B), .int (nI n), .ref h1, .ref h2])), (h1, aN cI 256 f), (h2, aI cI 256 g)] H0) (hA : A ≤ 8) (hB1 : 1 ≤ B) (hB : B ≤ 20) : Mx l s0 y_R_pairOf (.code y_R_pairOf b_R_pairOf 3 (some .int)) { frames := 1, cells := 0, slots := 0, locals := 24 } [.ref h, .long x] H0 (fun _ => False) (Rd H0 (.int (nI (prN A B x)))) := by
  refine Mx.ofW (own := "FewBits$Runs") rfl rfl ?_
  rintro p e s m below meth c ⟨hx, hb, hml, hr, hown, hW, hlk⟩ hnm het hH
  have hK := G.k hW
  have hl := lv_entry ([.ref h, .long x]) (n := 3) (Nat.le_of_ble_eq_true rfl)
  rw [lg_entry_eq]
  generalize (lg_sl ([.ref h, .long x]) ++ List.replicate (3 - (lg_sl ([.ref h, .long x])).length) Slot.unset).toArray = ls at hl ⊢
  have hl : lv_has ls 3 [(0, .ref h), (1, .long x)] := hl
  refine lv_lload_n hx hb d_R_pairOf_0 rfl (lv_at hl 1 rfl) ?_
  refine lv_iconst (v := (nI 0)) hx hb d_R_pairOf_1 (by decide) ?_
  refine mx_callR (r := .long (mx x (nI 0).toInt64)) (c_F_mixed G x (nI 0)) hW (iv_R_pairOf_2 G hx hb hown hW [.long x, .int (nI 0)] [] rfl) hml hl.1 (by rw [hb]; exact d_R_pairOf_2) (cd_F_mixed G hW) ⟨Nat.le_of_ble_eq_true rfl, Nat.le_of_ble_eq_true rfl⟩ rfl rfl (Nat.le_of_ble_eq_true rfl) (Nat.le_of_ble_eq_true rfl) (Nat.le_of_ble_eq_true rfl) ?_
  refine lv_bipush (v := (nI 64)) hx hb d_R_pairOf_5 (by decide) ?_
  refine lv_aload_n hx hb d_R_pairOf_7 rfl (lv_at hl 0 rfl) ?_
  refine va_get (D := D) (ci := 2) (v := .int (nI A)) (C := R_R) (T := T_R) (N := 5) hx hb (us_R G hW) (fun _ h => h) hown hK hP 0 rfl rfl 0 (by decide) (fl_R_62 G hW) (u_same (args := ([.ref h, .long x] : List Value).toArray) (G.1.at 174 rfl rfl _ hW)) rfl d_R_pairOf_8 ?_
  refine lv_isub hx hb d_R_pairOf_11 ?_
  refine tp_i (y := (nI (64 - A))) (pk_sub (by omega)) ?_
  refine lv_aload_n hx hb d_R_pairOf_12 rfl (lv_at hl 0 rfl) ?_
  refine va_get (D := D) (ci := 2) (v := .int (nI B)) (C := R_R) (T := T_R) (N := 5) hx hb (us_R G hW) (fun _ h => h) hown hK hP 0 rfl rfl 1 (by decide) (fl_R_65 G hW) (u_same (args := ([.ref h, .long x] : List Value).toArray) (G.1.at 183 rfl rfl _ hW)) rfl d_R_pairOf_13 ?_
  refine lv_isub hx hb d_R_pairOf_16 ?_
  refine tp_i (y := (nI (64 - A - B))) (pk_sub (by omega)) ?_
  refine lv_lushr hx hb d_R_pairOf_17 rfl ?_
  refine tp_l (y := (lN (prN A B x))) (lshr_N _ (by omega)) ?_
  refine lv_l2i hx hb d_R_pairOf_18 rfl ?_
  refine tp_i (y := (nI (prN A B x))) (lN_i _) ?_
  exact mx_iret hx hb hr hlk d_R_pairOf_19 (Nat.le_of_ble_eq_true rfl) (Nat.le_of_ble_eq_true rfl) (fun _ h => nomatch h) (⟨rfl, rfl⟩)

set_option maxHeartbeats 4000000 in
set_option maxRecDepth 100000 in
theorem c_R_quotient {l : Launch} {s0 : State} {D : va_G} {cI cF cJ : ClassId} (G : Gx l s0 D cI cF cJ) (h h1 h2 A B n : Nat) (f : Nat → Nat) (g : Nat → Int32) (i : Nat) {H0 : Heap} (hP : va_P D vcl [(h, .inr (2, [.int (nI A), .int (nI B), .int (nI n), .ref h1, .ref h2])), (h1, aN cI 256 f), (h2, aI cI 256 g)] H0) (hB : B ≤ 20) (hi : i < 256) (hv : f i < 2 ^ 28) : Mx l s0 y_R_quotient (.code y_R_quotient b_R_quotient 2 (some .int)) { frames := 0, cells := 0, slots := 0, locals := 0 } [.ref h, .int (nI i)] H0 (fun _ => False) (Rd H0 (.int (nI (quo f B i)))) := by
  refine Mx.ofW (own := "FewBits$Runs") rfl rfl ?_
  rintro p e s m below meth c ⟨hx, hb, hml, hr, hown, hW, hlk⟩ hnm het hH
  have hK := G.k hW
  have hl := lv_entry ([.ref h, .int (nI i)]) (n := 2) (Nat.le_of_ble_eq_true rfl)
  rw [lg_entry_eq]
  generalize (lg_sl ([.ref h, .int (nI i)]) ++ List.replicate (2 - (lg_sl ([.ref h, .int (nI i)])).length) Slot.unset).toArray = ls at hl ⊢
  have hl : lv_has ls 2 [(0, .ref h), (1, .int (nI i))] := hl
  refine lv_aload_n hx hb d_R_quotient_0 rfl (lv_at hl 0 rfl) ?_
  refine va_get (D := D) (ci := 2) (v := .ref h1) (C := R_R) (T := T_R) (N := 5) hx hb (us_R G hW) (fun _ h => h) hown hK hP 0 rfl rfl 3 (by decide) (fl_R_11 G hW) (fun _ h9 => h9) rfl d_R_quotient_1 ?_
  refine lv_iload_n hx hb d_R_quotient_4 rfl (lv_at hl 1 rfl) ?_
  refine ia_ld hx hb hK hP 1 (j := i) rfl (hi) (by decide) d_R_quotient_5 ?_
  refine tp_i (y := (nI (f i))) rfl ?_
  refine lv_aload_n hx hb d_R_quotient_6 rfl (lv_at hl 0 rfl) ?_
  refine va_get (D := D) (ci := 2) (v := .int (nI B)) (C := R_R) (T := T_R) (N := 5) hx hb (us_R G hW) (fun _ h => h) hown hK hP 0 rfl rfl 1 (by decide) (fl_R_65 G hW) (u_same (args := ([.ref h, .int (nI i)] : List Value).toArray) (G.1.at 183 rfl rfl _ hW)) rfl d_R_quotient_7 ?_
  refine lv_ishr hx hb d_R_quotient_10 ?_
  refine tp_i (y := (nI (quo f B i))) (shr_B (by omega) (by omega)) ?_
  exact mx_iret hx hb hr hlk d_R_quotient_11 (Nat.le_of_ble_eq_true rfl) (Nat.le_of_ble_eq_true rfl) (fun _ h => nomatch h) (⟨rfl, rfl⟩)

set_option maxHeartbeats 4000000 in
set_option maxRecDepth 100000 in
theorem c_R_remainder {l : Launch} {s0 : State} {D : va_G} {cI cF cJ : ClassId} (G : Gx l s0 D cI cF cJ) (h h1 h2 A B n : Nat) (f : Nat → Nat) (g : Nat → Int32) (i : Nat) {H0 : Heap} (hP : va_P D vcl [(h, .inr (2, [.int (nI A), .int (nI B), .int (nI n), .ref h1, .ref h2])), (h1, aN cI 256 f), (h2, aI cI 256 g)] H0) (hB : B ≤ 20) (hi : i < 256) (hv : f i < 2 ^ 28) : Mx l s0 y_R_remainder (.code y_R_remainder b_R_remainder 2 (some .int)) { frames := 0, cells := 0, slots := 0, locals := 0 } [.ref h, .int (nI i)] H0 (fun _ => False) (Rd H0 (.int (nI (f i % 2 ^ B)))) := by
  refine Mx.ofW (own := "FewBits$Runs") rfl rfl ?_
  rintro p e s m below meth c ⟨hx, hb, hml, hr, hown, hW, hlk⟩ hnm het hH
  have hK := G.k hW
  have hl := lv_entry ([.ref h, .int (nI i)]) (n := 2) (Nat.le_of_ble_eq_true rfl)
  rw [lg_entry_eq]
  generalize (lg_sl ([.ref h, .int (nI i)]) ++ List.replicate (2 - (lg_sl ([.ref h, .int (nI i)])).length) Slot.unset).toArray = ls at hl ⊢
  have hl : lv_has ls 2 [(0, .ref h), (1, .int (nI i))] := hl
  refine lv_aload_n hx hb d_R_remainder_0 rfl (lv_at hl 0 rfl) ?_
  refine va_get (D := D) (ci := 2) (v := .ref h1) (C := R_R) (T := T_R) (N := 5) hx hb (us_R G hW) (fun _ h => h) hown hK hP 0 rfl rfl 3 (by decide) (fl_R_11 G hW) (fun _ h9 => h9) rfl d_R_remainder_1 ?_
  refine lv_iload_n hx hb d_R_remainder_4 rfl (lv_at hl 1 rfl) ?_
  refine ia_ld hx hb hK hP 1 (j := i) rfl (hi) (by decide) d_R_remainder_5 ?_
  refine tp_i (y := (nI (f i))) rfl ?_
  refine lv_iconst (v := (nI 1)) hx hb d_R_remainder_6 (by decide) ?_
  refine lv_aload_n hx hb d_R_remainder_7 rfl (lv_at hl 0 rfl) ?_
  refine va_get (D := D) (ci := 2) (v := .int (nI B)) (C := R_R) (T := T_R) (N := 5) hx hb (us_R G hW) (fun _ h => h) hown hK hP 0 rfl rfl 1 (by decide) (fl_R_65 G hW) (u_same (args := ([.ref h, .int (nI i)] : List Value).toArray) (G.1.at 183 rfl rfl _ hW)) rfl d_R_remainder_8 ?_
  refine lv_ishl hx hb d_R_remainder_11 ?_
  refine tp_i (y := (nI (2 ^ B))) (pw_shl B (by omega)) ?_
  refine lv_iconst (v := (nI 1)) hx hb d_R_remainder_12 (by decide) ?_
  refine lv_isub hx hb d_R_remainder_13 ?_
  refine lv_iand hx hb d_R_remainder_14 ?_
  refine tp_i (y := (nI (f i % 2 ^ B))) (msk_B (by omega) (by omega)) ?_
  exact mx_iret hx hb hr hlk d_R_remainder_15 (Nat.le_of_ble_eq_true rfl) (Nat.le_of_ble_eq_true rfl) (fun _ h => nomatch h) (⟨rfl, rfl⟩)

set_option maxHeartbeats 4000000 in
set_option maxRecDepth 100000 in
theorem c_R_firstNotBelow {l : Launch} {s0 : State} {D : va_G} {cI cF cJ : ClassId} (G : Gx l s0 D cI cF cJ) (h h1 h2 A B n : Nat) (f : Nat → Nat) (g : Nat → Int32) (v : Nat) {H0 : Heap} (hP : va_P D vcl [(h, .inr (2, [.int (nI A), .int (nI B), .int (nI n), .ref h1, .ref h2])), (h1, aN cI 256 f), (h2, aI cI 256 g)] H0) (hn : n ≤ 256) (hf : ∀ i, i < n → f i < 2 ^ 28) (hsr : srt f n) (hv : v < 2 ^ 30) : Mx l s0 y_R_firstNotBelow (.code y_R_firstNotBelow b_R_firstNotBelow 4 (some .int)) { frames := 0, cells := 0, slots := 0, locals := 0 } [.ref h, .int (nI v)] H0 (fun _ => False) (Rd H0 (.int (nI (lo f v n)))) := by
  refine Mx.ofW (own := "FewBits$Runs") rfl rfl ?_
  rintro p e s m below meth c ⟨hx, hb, hml, hr, hown, hW, hlk⟩ hnm het hH
  have hK := G.k hW
  have hlo := lo_iff (v := v) hsr
  have hll := lo_le f v n
  have hl := lv_entry ([.ref h, .int (nI v)]) (n := 4) (Nat.le_of_ble_eq_true rfl)
  rw [lg_entry_eq]
  generalize (lg_sl ([.ref h, .int (nI v)]) ++ List.replicate (4 - (lg_sl ([.ref h, .int (nI v)])).length) Slot.unset).toArray = ls at hl ⊢
  have hl : lv_has ls 4 [(0, .ref h), (1, .int (nI v))] := hl
  refine lv_iconst (v := (nI 0)) hx hb d_R_firstNotBelow_0 (by decide) ?_
  refine lv_istore_n (lv' := [(2, .int (nI 0)), (0, .ref h), (1, .int (nI v))]) hx hb d_R_firstNotBelow_1 rfl hl (by decide) rfl (fun ls hl => ?_)
  refine lv_sipush (v := (nI 256)) hx hb d_R_firstNotBelow_2 (by decide) ?_
  refine lv_istore_n (lv' := [(3, .int (nI 256)), (2, .int (nI 0)), (0, .ref h), (1, .int (nI v))]) hx hb d_R_firstNotBelow_5 rfl hl (by decide) rfl (fun ls hl => ?_)
  have loop_6 : ∀ (k : Nat) (av : Nat), (k ≤ 9) → (av ≤ lo f v n) → (lo f v n < av + 2 ^ k) → ∀ (ls : Array Slot), lv_has ls 4 [(3, .int (nI (lpN k))), (2, .int (nI av)), (0, .ref h), (1, .int (nI v))] → W p l e { frames := 0, cells := 0, slots := 0, locals := 0 } s m ([.ref h, .int (nI v)] : List Value).toArray below meth c H0 [] 0 0 (MQx below (Rd H0 (.int (nI (lo f v n)))) s 0 0 (fun _ => False)) (F0 m 6 ls []) := by
    intro k
    induction k with
    | zero =>
      intro av hk h1v h2v  ls hl
      refine lv_iload_n hx hb d_R_firstNotBelow_6 rfl (lv_at hl 0 rfl) ?_
      refine lv_if_le (tgt := 45) hx hb d_R_firstNotBelow_7 (by decide) (fun c_7 => ?_) (fun c_7 => absurd (by decide) c_7)
      refine lv_iload_n hx hb d_R_firstNotBelow_45 rfl (lv_at hl 1 rfl) ?_
      exact mx_iret hx hb hr hlk d_R_firstNotBelow_46 (Nat.le_of_ble_eq_true rfl) (Nat.le_of_ble_eq_true rfl) (fun _ h => nomatch h) (⟨by rw [show av = lo f v n by omega], rfl⟩)
    | succ k ih_6 =>
      intro av hk h1v h2v  ls hl
      have hk8 := p2k k (by omega)
      have hk0 := Nat.two_pow_pos k
      have hpw : 2 ^ (k + 1) = 2 ^ k + 2 ^ k := by rw [Nat.pow_succ]; omega
      have hl : lv_has ls 4 [(3, .int (nI (2 ^ k))), (2, .int (nI av)), (0, .ref h), (1, .int (nI v))] := hl
      refine lv_iload_n hx hb d_R_firstNotBelow_6 rfl (lv_at hl 0 rfl) ?_
      refine lv_if_le (tgt := 45) hx hb d_R_firstNotBelow_7 (by decide) (fun c_7 => absurd c_7 (nI_nle hk0 (by omega))) (fun c_7 => ?_)
      refine lv_iload_n hx hb d_R_firstNotBelow_10 rfl (lv_at hl 1 rfl) ?_
      refine lv_iload_n hx hb d_R_firstNotBelow_11 rfl (lv_at hl 0 rfl) ?_
      refine lv_iadd hx hb d_R_firstNotBelow_12 ?_
      refine tp_i (y := (nI (av + 2 ^ k))) (nI_add _ _) ?_
      refine lv_aload_n hx hb d_R_firstNotBelow_13 rfl (lv_at hl 2 rfl) ?_
      refine va_get (D := D) (ci := 2) (v := .int (nI n)) (C := R_R) (T := T_R) (N := 5) hx hb (us_R G hW) (fun _ h => h) hown hK hP 0 rfl rfl 2 (by decide) (fl_R_18 G hW) (u_same (args := ([.ref h, .int (nI v)] : List Value).toArray) (G.1.at 187 rfl rfl _ hW)) rfl d_R_firstNotBelow_14 ?_
      refine lv_icmp_gt (tgt := 38) hx hb d_R_firstNotBelow_17 (by decide) (fun c_17 => ?_) (fun c_17 => ?_)
      · refine lv_iload_n hx hb d_R_firstNotBelow_38 rfl (lv_at hl 0 rfl) ?_
        refine lv_iconst (v := (nI 1)) hx hb d_R_firstNotBelow_39 (by decide) ?_
        refine lv_ishr hx hb d_R_firstNotBelow_40 ?_
        refine tp_i (y := (nI (lpN k))) (lp_shr k (by omega)) ?_
        refine lv_istore_n (lv' := [(3, .int (nI (lpN k))), (2, .int (nI av)), (0, .ref h), (1, .int (nI v))]) hx hb d_R_firstNotBelow_41 rfl hl (by decide) rfl (fun ls hl => ?_)
        refine lv_goto (tgt := 6) hx hb d_R_firstNotBelow_42 (by decide) ?_
        exact ih_6 (av) (by omega) (h1v) (by have h9 := (nI_ltI (by omega) (by omega)).mp c_17; omega) ls (lv_sub hl [0, 1, 2, 3] rfl)
      · have hle : av + 2 ^ k ≤ n := Nat.not_lt.mp (fun h9 => c_17 (nI_lt h9 (by omega)))
        refine lv_aload_n hx hb d_R_firstNotBelow_20 rfl (lv_at hl 2 rfl) ?_
        refine va_get (D := D) (ci := 2) (v := .ref h1) (C := R_R) (T := T_R) (N := 5) hx hb (us_R G hW) (fun _ h => h) hown hK hP 0 rfl rfl 3 (by decide) (fl_R_11 G hW) (fun _ h9 => h9) rfl d_R_firstNotBelow_21 ?_
        refine lv_iload_n hx hb d_R_firstNotBelow_24 rfl (lv_at hl 1 rfl) ?_
        refine lv_iload_n hx hb d_R_firstNotBelow_25 rfl (lv_at hl 0 rfl) ?_
        refine lv_iadd hx hb d_R_firstNotBelow_26 ?_
        refine tp_i (y := (nI (av + 2 ^ k))) (nI_add _ _) ?_
        refine lv_iconst (v := (nI 1)) hx hb d_R_firstNotBelow_27 (by decide) ?_
        refine lv_isub hx hb d_R_firstNotBelow_28 ?_
        refine tp_i (y := (nI (av + 2 ^ k - 1))) (pk_sub (by omega)) ?_
        refine ia_ld hx hb hK hP 1 (j := (av + 2 ^ k - 1)) rfl (by omega) (by decide) d_R_firstNotBelow_29 ?_
        refine tp_i (y := (nI (f (av + 2 ^ k - 1)))) rfl ?_
        refine lv_iload_n hx hb d_R_firstNotBelow_30 rfl (lv_at hl 3 rfl) ?_
        refine lv_icmp_ge (tgt := 38) hx hb d_R_firstNotBelow_31 (by decide) (fun c_31 => ?_) (fun c_31 => ?_)
        · refine lv_iload_n hx hb d_R_firstNotBelow_38 rfl (lv_at hl 0 rfl) ?_
          refine lv_iconst (v := (nI 1)) hx hb d_R_firstNotBelow_39 (by decide) ?_
          refine lv_ishr hx hb d_R_firstNotBelow_40 ?_
          refine tp_i (y := (nI (lpN k))) (lp_shr k (by omega)) ?_
          refine lv_istore_n (lv' := [(3, .int (nI (lpN k))), (2, .int (nI av)), (0, .ref h), (1, .int (nI v))]) hx hb d_R_firstNotBelow_41 rfl hl (by decide) rfl (fun ls hl => ?_)
          refine lv_goto (tgt := 6) hx hb d_R_firstNotBelow_42 (by decide) ?_
          exact ih_6 (av) (by omega) (h1v) (by have h9 := (nI_leI (by omega) (by have := hf (av + 2 ^ k - 1) (by omega); omega)).mp c_31; have h10 := hlo (av + 2 ^ k - 1) (by omega); omega) ls (lv_sub hl [0, 1, 2, 3] rfl)
        · refine lv_iload_n hx hb d_R_firstNotBelow_34 rfl (lv_at hl 1 rfl) ?_
          refine lv_iload_n hx hb d_R_firstNotBelow_35 rfl (lv_at hl 0 rfl) ?_
          refine lv_iadd hx hb d_R_firstNotBelow_36 ?_
          refine tp_i (y := (nI (av + 2 ^ k))) (nI_add _ _) ?_
          refine lv_istore_n (lv' := [(2, .int (nI (av + 2 ^ k))), (3, .int (nI (2 ^ k))), (0, .ref h), (1, .int (nI v))]) hx hb d_R_firstNotBelow_37 rfl hl (by decide) rfl (fun ls hl => ?_)
          refine lv_iload_n hx hb d_R_firstNotBelow_38 rfl (lv_at hl 1 rfl) ?_
          refine lv_iconst (v := (nI 1)) hx hb d_R_firstNotBelow_39 (by decide) ?_
          refine lv_ishr hx hb d_R_firstNotBelow_40 ?_
          refine tp_i (y := (nI (lpN k))) (lp_shr k (by omega)) ?_
          refine lv_istore_n (lv' := [(3, .int (nI (lpN k))), (2, .int (nI (av + 2 ^ k))), (0, .ref h), (1, .int (nI v))]) hx hb d_R_firstNotBelow_41 rfl hl (by decide) rfl (fun ls hl => ?_)
          refine lv_goto (tgt := 6) hx hb d_R_firstNotBelow_42 (by decide) ?_
          exact ih_6 (av + 2 ^ k) (by omega) (by have h9 : f (av + 2 ^ k - 1) < v := Nat.not_le.mp (fun h9 => c_31 (nI_le h9 (by have := hf (av + 2 ^ k - 1) (by omega); omega))); have h10 := (hlo (av + 2 ^ k - 1) (by omega)).mp h9; omega) (by omega) ls (lv_sub hl [0, 1, 2, 3] rfl)
  exact loop_6 (9) (0) (by decide) (Nat.zero_le _) (by omega) ls (lv_sub hl [0, 1, 2, 3] rfl)

set_option maxHeartbeats 4000000 in
set_option maxRecDepth 100000 in
theorem c_R_isClaimed {l : Launch} {s0 : State} {D : va_G} {cI cF cJ : ClassId} (G : Gx l s0 D cI cF cJ) (h h1 h2 A B n : Nat) (f : Nat → Nat) (g : Nat → Int32) (z : Nat) {H0 : Heap} (hP : va_P D vcl [(h, .inr (2, [.int (nI A), .int (nI B), .int (nI n), .ref h1, .ref h2])), (h1, aN cI 256 f), (h2, aI cI 256 g)] H0) (hB : B ≤ 20) (hn : n ≤ 256) (hf : ∀ i, i < n → f i < 2 ^ 28) (hsr : srt f n) (hz : z < 256) : Mx l s0 y_R_isClaimed (.code y_R_isClaimed b_R_isClaimed 3 (some .boolean)) { frames := 1, cells := 0, slots := 0, locals := 23 } [.ref h, .int (nI z)] H0 (fun _ => False) (Rd H0 (.int (bI (clm f B n z)))) := by
  refine Mx.ofW (own := "FewBits$Runs") rfl rfl ?_
  rintro p e s m below meth c ⟨hx, hb, hml, hr, hown, hW, hlk⟩ hnm het hH
  have hK := G.k hW
  have hb20 : z * 2 ^ B ≤ 255 * 2 ^ 20 := Nat.mul_le_mul (by omega) (p2_le hB)
  have hzl := lo_le f (z * 2 ^ B) n
  have hl := lv_entry ([.ref h, .int (nI z)]) (n := 3) (Nat.le_of_ble_eq_true rfl)
  rw [lg_entry_eq]
  generalize (lg_sl ([.ref h, .int (nI z)]) ++ List.replicate (3 - (lg_sl ([.ref h, .int (nI z)])).length) Slot.unset).toArray = ls at hl ⊢
  have hl : lv_has ls 3 [(0, .ref h), (1, .int (nI z))] := hl
  refine lv_aload_n hx hb d_R_isClaimed_0 rfl (lv_at hl 0 rfl) ?_
  refine lv_iload_n hx hb d_R_isClaimed_1 rfl (lv_at hl 1 rfl) ?_
  refine lv_aload_n hx hb d_R_isClaimed_2 rfl (lv_at hl 0 rfl) ?_
  refine va_get (D := D) (ci := 2) (v := .int (nI B)) (C := R_R) (T := T_R) (N := 5) hx hb (us_R G hW) (fun _ h => h) hown hK hP 0 rfl rfl 1 (by decide) (fl_R_65 G hW) (u_same (args := ([.ref h, .int (nI z)] : List Value).toArray) (G.1.at 183 rfl rfl _ hW)) rfl d_R_isClaimed_3 ?_
  refine lv_ishl hx hb d_R_isClaimed_6 ?_
  refine tp_i (y := (nI (z * 2 ^ B))) (shl_B (by omega) (by omega)) ?_
  refine mx_callR (r := .int (nI (lo f (z * 2 ^ B) n))) (c_R_firstNotBelow G h h1 h2 A B n f g (z * 2 ^ B) hP hn hf hsr (by omega)) hW (iv_R_isClaimed_7 G hx hb hown hW (va_recv hK hP (ci := 2) (q0 := 0) rfl rfl) [.int (nI (z * 2 ^ B))] [] rfl) hml hl.1 (by rw [hb]; exact d_R_isClaimed_7) (cd_R_firstNotBelow G hW) ⟨Nat.le_of_ble_eq_true rfl, Nat.le_of_ble_eq_true rfl⟩ rfl rfl (Nat.le_of_ble_eq_true rfl) (Nat.le_of_ble_eq_true rfl) (Nat.le_of_ble_eq_true rfl) ?_
  refine lv_istore_n (lv' := [(2, .int (nI (lo f (z * 2 ^ B) n))), (0, .ref h), (1, .int (nI z))]) hx hb d_R_isClaimed_10 rfl hl (by decide) rfl (fun ls hl => ?_)
  refine lv_iload_n hx hb d_R_isClaimed_11 rfl (lv_at hl 0 rfl) ?_
  refine lv_aload_n hx hb d_R_isClaimed_12 rfl (lv_at hl 1 rfl) ?_
  refine va_get (D := D) (ci := 2) (v := .int (nI n)) (C := R_R) (T := T_R) (N := 5) hx hb (us_R G hW) (fun _ h => h) hown hK hP 0 rfl rfl 2 (by decide) (fl_R_18 G hW) (u_same (args := ([.ref h, .int (nI z)] : List Value).toArray) (G.1.at 187 rfl rfl _ hW)) rfl d_R_isClaimed_13 ?_
  refine lv_icmp_ge (tgt := 32) hx hb d_R_isClaimed_16 (by decide) (fun c_16 => ?_) (fun c_16 => ?_)
  · refine lv_iconst (v := (nI 0)) hx hb d_R_isClaimed_32 (by decide) ?_
    exact mx_zret hx hb hr hlk d_R_isClaimed_33 (Nat.le_of_ble_eq_true rfl) (Nat.le_of_ble_eq_true rfl) (fun _ h => nomatch h) (rfl) (⟨by rw [show clm f B n z = false by unfold clm; rw [decide_eq_false (Nat.not_lt.mpr ((nI_leI (by omega) (by omega)).mp c_16))]; rfl]; rfl, rfl⟩)
  · have hlt : (lo f (z * 2 ^ B) n) < n := Nat.not_le.mp (fun h9 => c_16 (nI_le h9 (by omega)))
    refine lv_aload_n hx hb d_R_isClaimed_19 rfl (lv_at hl 1 rfl) ?_
    refine lv_iload_n hx hb d_R_isClaimed_20 rfl (lv_at hl 0 rfl) ?_
    refine mx_callR (r := .int (nI (quo f B (lo f (z * 2 ^ B) n)))) (c_R_quotient G h h1 h2 A B n f g (lo f (z * 2 ^ B) n) hP hB (by omega) (hf _ hlt)) hW (iv_R_isClaimed_21 G hx hb hown hW (va_recv hK hP (ci := 2) (q0 := 0) rfl rfl) [.int (nI (lo f (z * 2 ^ B) n))] [] rfl) hml hl.1 (by rw [hb]; exact d_R_isClaimed_21) (cd_R_quotient G hW) ⟨Nat.le_of_ble_eq_true rfl, Nat.le_of_ble_eq_true rfl⟩ rfl rfl (Nat.le_of_ble_eq_true rfl) (Nat.le_of_ble_eq_true rfl) (Nat.le_of_ble_eq_true rfl) ?_
    refine lv_iload_n hx hb d_R_isClaimed_24 rfl (lv_at hl 2 rfl) ?_
    refine lv_icmp_ne (tgt := 32) hx hb d_R_isClaimed_25 (by decide) (fun c_25 => ?_) (fun c_25 => ?_)
    · refine lv_iconst (v := (nI 0)) hx hb d_R_isClaimed_32 (by decide) ?_
      exact mx_zret hx hb hr hlk d_R_isClaimed_33 (Nat.le_of_ble_eq_true rfl) (Nat.le_of_ble_eq_true rfl) (fun _ h => nomatch h) (rfl) (⟨by rw [show clm f B n z = false by unfold clm; rw [decide_eq_false (show ¬ f (lo f (z * 2 ^ B) n) / 2 ^ B = z from fun h9 => c_25 (by unfold quo; rw [h9]))]; simp]; rfl, rfl⟩)
    · refine lv_iconst (v := (nI 1)) hx hb d_R_isClaimed_28 (by decide) ?_
      refine lv_goto (tgt := 33) hx hb d_R_isClaimed_29 (by decide) ?_
      exact mx_zret hx hb hr hlk d_R_isClaimed_33 (Nat.le_of_ble_eq_true rfl) (Nat.le_of_ble_eq_true rfl) (fun _ h => nomatch h) (rfl) (⟨by rw [show clm f B n z = true by unfold clm; rw [decide_eq_true hlt, decide_eq_true (show f (lo f (z * 2 ^ B) n) / 2 ^ B = z from (nI_eq (by have := hf _ hlt; exact Nat.lt_of_le_of_lt (Nat.div_le_self _ _) (by omega)) (by omega)).mp c_25)]; rfl]; rfl, rfl⟩)

set_option maxHeartbeats 4000000 in
set_option maxRecDepth 100000 in
theorem c_R_overEnd {l : Launch} {s0 : State} {D : va_G} {cI cF cJ : ClassId} (G : Gx l s0 D cI cF cJ) (h h1 h2 A B n : Nat) (f : Nat → Nat) (g : Nat → Int32) {H0 : Heap} (hP : va_P D vcl [(h, .inr (2, [.int (nI A), .int (nI B), .int (nI n), .ref h1, .ref h2])), (h1, aN cI 256 f), (h2, aI cI 256 g)] H0) (hA : A ≤ 8) (hB1 : 1 ≤ B) (hB : B ≤ 20) (hn : n ≤ 256) (hf : ∀ i, i < n → f i < 2 ^ 28) (hfq : ∀ i, i < n → f i < 256 * 2 ^ B) : Mx l s0 y_R_overEnd (.code y_R_overEnd b_R_overEnd 3 (some .int)) { frames := 1, cells := 0, slots := 0, locals := 21 } [.ref h] H0 (fun _ => False) (Rd H0 (.int (nI (ovr f A B n)))) := by
  refine Mx.ofW (own := "FewBits$Runs") rfl rfl ?_
  rintro p e s m below meth c ⟨hx, hb, hml, hr, hown, hW, hlk⟩ hnm het hH
  have hK := G.k hW
  have h8 := p2_le hA
  have hq2 : ∀ j, j < n → quo f B j < 256 := (fun j hj => by show f j / 2 ^ B < 256; rw [Nat.div_lt_iff_lt_mul (Nat.two_pow_pos B)]; exact hfq j hj)
  have hnx : ∀ i, i ≤ n → nxt (quo f B) 0 i ≤ 256 + i := fun i hi => nxt_le (fun j hj => hq2 j (by omega)) (by decide)
  have hl := lv_entry ([.ref h]) (n := 3) (Nat.le_of_ble_eq_true rfl)
  rw [lg_entry_eq]
  generalize (lg_sl ([.ref h]) ++ List.replicate (3 - (lg_sl ([.ref h])).length) Slot.unset).toArray = ls at hl ⊢
  have hl : lv_has ls 3 [(0, .ref h)] := hl
  refine lv_iconst (v := (nI 0)) hx hb d_R_overEnd_0 (by decide) ?_
  refine lv_istore_n (lv' := [(1, .int (nI 0)), (0, .ref h)]) hx hb d_R_overEnd_1 rfl hl (by decide) rfl (fun ls hl => ?_)
  refine lv_iconst (v := (nI 0)) hx hb d_R_overEnd_2 (by decide) ?_
  refine lv_istore_n (lv' := [(2, .int (nI 0)), (1, .int (nI 0)), (0, .ref h)]) hx hb d_R_overEnd_3 rfl hl (by decide) rfl (fun ls hl => ?_)
  have loop_4 : ∀ (k : Nat) (i : Nat) (t : Nat), (i + k = n) → (t = nxt (quo f B) 0 i) → ∀ (ls : Array Slot), lv_has ls 3 [(2, .int (nI i)), (1, .int (nI t)), (0, .ref h)] → W p l e { frames := 1, cells := 0, slots := 0, locals := 21 } s m ([.ref h] : List Value).toArray below meth c H0 [] 0 0 (MQx below (Rd H0 (.int (nI (ovr f A B n)))) s 0 0 (fun _ => False)) (F0 m 4 ls []) := by
    intro k
    induction k with
    | zero =>
      intro i t hk ht  ls hl
      refine lv_iload_n hx hb d_R_overEnd_4 rfl (lv_at hl 0 rfl) ?_
      refine lv_aload_n hx hb d_R_overEnd_5 rfl (lv_at hl 2 rfl) ?_
      refine va_get (D := D) (ci := 2) (v := .int (nI n)) (C := R_R) (T := T_R) (N := 5) hx hb (us_R G hW) (fun _ h => h) hown hK hP 0 rfl rfl 2 (by decide) (fl_R_18 G hW) (u_same (args := ([.ref h] : List Value).toArray) (G.1.at 187 rfl rfl _ hW)) rfl d_R_overEnd_6 ?_
      refine lv_icmp_ge (tgt := 30) hx hb d_R_overEnd_9 (by decide) (fun c_9 => ?_) (fun c_9 => absurd (nI_le (by omega) (by omega)) c_9)
      refine lv_iconst (v := (nI 0)) hx hb d_R_overEnd_30 (by decide) ?_
      refine lv_iload_n hx hb d_R_overEnd_31 rfl (lv_at hl 1 rfl) ?_
      refine lv_aload_n hx hb d_R_overEnd_32 rfl (lv_at hl 2 rfl) ?_
      refine mx_callR (r := .int (nI (2 ^ A))) (c_P_power_R G h h1 h2 A B n f g hP hA) hW (iv_R_overEnd_33 G hx hb hown hW (va_recv hK hP (ci := 2) (q0 := 0) rfl rfl) [] [.int (nI t), .int (nI 0)] rfl) hml hl.1 (by rw [hb]; exact d_R_overEnd_33) (cd_P_power G hW) ⟨Nat.le_of_ble_eq_true rfl, Nat.le_of_ble_eq_true rfl⟩ rfl rfl (Nat.le_of_ble_eq_true rfl) (Nat.le_of_ble_eq_true rfl) (Nat.le_of_ble_eq_true rfl) ?_
      refine lv_isub hx hb d_R_overEnd_36 ?_
      refine va_mmax hx hb (hml.trans hl.1.symm) hown (G.1.at 566 rfl rfl _ hW) (G.1.at 548 rfl rfl _ hW) (G.1.at 17 rfl rfl _ hW) (G.1.at 549 rfl rfl _ hW) (Nat.le_of_ble_eq_true rfl) (Nat.le_of_ble_eq_true rfl) (Nat.le_of_ble_eq_true rfl) (Nat.le_of_ble_eq_true rfl) d_R_overEnd_37 ?_
      refine tp_i (y := (nI (ovr f A B n))) (by subst ht; rw [show i = n by omega]; exact max0 (by have := hnx n (Nat.le_refl _); omega) (by omega)) ?_
      exact mx_iret hx hb hr hlk d_R_overEnd_40 (Nat.le_of_ble_eq_true rfl) (Nat.le_of_ble_eq_true rfl) (fun _ h => nomatch h) (⟨rfl, rfl⟩)
    | succ k ih_4 =>
      intro i t hk ht  ls hl
      refine lv_iload_n hx hb d_R_overEnd_4 rfl (lv_at hl 0 rfl) ?_
      refine lv_aload_n hx hb d_R_overEnd_5 rfl (lv_at hl 2 rfl) ?_
      refine va_get (D := D) (ci := 2) (v := .int (nI n)) (C := R_R) (T := T_R) (N := 5) hx hb (us_R G hW) (fun _ h => h) hown hK hP 0 rfl rfl 2 (by decide) (fl_R_18 G hW) (u_same (args := ([.ref h] : List Value).toArray) (G.1.at 187 rfl rfl _ hW)) rfl d_R_overEnd_6 ?_
      refine lv_icmp_ge (tgt := 30) hx hb d_R_overEnd_9 (by decide) (fun c_9 => absurd c_9 (nI_ge (by omega) (by omega))) (fun c_9 => ?_)
      refine lv_iload_n hx hb d_R_overEnd_12 rfl (lv_at hl 1 rfl) ?_
      refine lv_aload_n hx hb d_R_overEnd_13 rfl (lv_at hl 2 rfl) ?_
      refine lv_iload_n hx hb d_R_overEnd_14 rfl (lv_at hl 0 rfl) ?_
      refine mx_callR (r := .int (nI (quo f B i))) (c_R_quotient G h h1 h2 A B n f g i hP hB (by omega) (hf i (by omega))) hW (iv_R_overEnd_15 G hx hb hown hW (va_recv hK hP (ci := 2) (q0 := 0) rfl rfl) [.int (nI i)] [.int (nI t)] rfl) hml hl.1 (by rw [hb]; exact d_R_overEnd_15) (cd_R_quotient G hW) ⟨Nat.le_of_ble_eq_true rfl, Nat.le_of_ble_eq_true rfl⟩ rfl rfl (Nat.le_of_ble_eq_true rfl) (Nat.le_of_ble_eq_true rfl) (Nat.le_of_ble_eq_true rfl) ?_
      refine va_mmax hx hb (hml.trans hl.1.symm) hown (G.1.at 566 rfl rfl _ hW) (G.1.at 548 rfl rfl _ hW) (G.1.at 17 rfl rfl _ hW) (G.1.at 549 rfl rfl _ hW) (Nat.le_of_ble_eq_true rfl) (Nat.le_of_ble_eq_true rfl) (Nat.le_of_ble_eq_true rfl) (Nat.le_of_ble_eq_true rfl) d_R_overEnd_18 ?_
      refine tp_i (y := (nI (slt (quo f B) 0 i))) (by subst ht; exact if_nI (by have := hnx i (by omega); omega) (by have := hq2 i (by omega); omega)) ?_
      refine lv_iconst (v := (nI 1)) hx hb d_R_overEnd_21 (by decide) ?_
      refine lv_iadd hx hb d_R_overEnd_22 ?_
      refine tp_i (y := (nI (nxt (quo f B) 0 (i + 1)))) (nI_add _ _) ?_
      refine lv_istore_n (lv' := [(1, .int (nI (nxt (quo f B) 0 (i + 1)))), (2, .int (nI i)), (0, .ref h)]) hx hb d_R_overEnd_23 rfl hl (by decide) rfl (fun ls hl => ?_)
      refine lv_iinc (v := (nI (i + 1))) (lv' := [(2, .int (nI (i + 1))), (1, .int (nI (nxt (quo f B) 0 (i + 1)))), (0, .ref h)]) hx hb d_R_overEnd_24 hl (k := 1) rfl (nI_1 _) (by decide) rfl (fun ls hl => ?_)
      refine lv_goto (tgt := 4) hx hb d_R_overEnd_27 (by decide) ?_
      exact ih_4 (i + 1) (nxt (quo f B) 0 (i + 1)) (by omega) (rfl) ls (lv_sub hl [0, 1, 2] rfl)
  exact loop_4 (n) (0) (0) (by omega) (rfl) ls (lv_sub hl [0, 1, 2] rfl)

set_option maxHeartbeats 4000000 in
set_option maxRecDepth 100000 in
theorem c_R_layOut {l : Launch} {s0 : State} {D : va_G} {cI cF cJ : ClassId} (G : Gx l s0 D cI cF cJ) (h h1 h2 A B n : Nat) (f : Nat → Nat) (g : Nat → Int32) {H0 : Heap} {A0 : Nat → Prop} (hP : va_P D vcl [(h, .inr (2, [.int (nI A), .int (nI B), .int (nI n), .ref h1, .ref h2])), (h1, aN cI 256 f), (h2, aI cI 256 g)] H0) (hD : va_D A0 [(h, .inr (2, [.int (nI A), .int (nI B), .int (nI n), .ref h1, .ref h2])), (h1, aN cI 256 f), (h2, aI cI 256 g)]) (hA : A ≤ 8) (hB1 : 1 ≤ B) (hB : B ≤ 20) (hn : n ≤ 256) (hf : ∀ i, i < n → f i < 2 ^ 28) (hfq : ∀ i, i < n → f i < 256 * 2 ^ B) : Mx l s0 y_R_layOut (.code y_R_layOut b_R_layOut 4 none) { frames := 2, cells := 0, slots := 0, locals := 43 } [.ref h] H0 (Aa [h, h1, h2] H0.size) (Rn (fun H1 => va_P D vcl [(h, .inr (2, [.int (nI A), .int (nI B), .int (nI n), .ref h1, .ref h2])), (h1, aN cI 256 f), (h2, aI cI 256 (fun z => oI (cirF f A B n z)))] H1)) := by
  refine Mx.ofW (own := "FewBits$Runs") rfl rfl ?_
  rintro p e s m below meth c ⟨hx, hb, hml, hr, hown, hW, hlk⟩ hnm het hH
  have hK := G.k hW
  have hD := hD.aa (sz := H0.size)
  have hD : va_D (Aa [h, h1, h2] H0.size) [(h, .inr (2, [.int (nI A), .int (nI B), .int (nI n), .ref h1, .ref h2])), (h1, aN cI 256 f), (h2, aI cI 256 g)] := hD
  have hS : va_S (Aa [h, h1, h2] H0.size) H0 H0 [] := va_S.rf
  have h8 := p2_le hA
  have hq2 : ∀ j, j < n → quo f B j < 256 := (fun j hj => by show f j / 2 ^ B < 256; rw [Nat.div_lt_iff_lt_mul (Nat.two_pow_pos B)]; exact hfq j hj)
  have hov : ovr f A B n ≤ 256 + n := by have h9 := nxt_le (n := n) hq2 (show 0 ≤ 256 by decide); unfold ovr; exact Nat.le_trans (Nat.sub_le _ _) h9
  have hnx : ∀ i, i ≤ n → nxt (quo f B) (ovr f A B n) i ≤ 512 + i := fun i hi => nxt_le (M := 512) (fun j hj => by have := hq2 j (by omega); omega) (by omega)
  have hl := lv_entry ([.ref h]) (n := 4) (Nat.le_of_ble_eq_true rfl)
  rw [lg_entry_eq]
  generalize (lg_sl ([.ref h]) ++ List.replicate (4 - (lg_sl ([.ref h])).length) Slot.unset).toArray = ls at hl ⊢
  have hl : lv_has ls 4 [(0, .ref h)] := hl
  refine lv_aload_n hx hb d_R_layOut_0 rfl (lv_at hl 0 rfl) ?_
  refine va_get (D := D) (ci := 2) (v := .ref h2) (C := R_R) (T := T_R) (N := 5) hx hb (us_R G hW) (fun _ h => h) hown hK hP 0 rfl rfl 4 (by decide) (fl_R_15 G hW) (fun _ h9 => h9) rfl d_R_layOut_1 ?_
  refine lv_iconst (v := (-1)) hx hb d_R_layOut_4 (by decide) ?_
  refine mx_callN (c_A_fill G [(h, .inr (2, [.int (nI A), .int (nI B), .int (nI n), .ref h1, .ref h2])), (h1, aN cI 256 f), (h2, aI cI 256 g)] 2 h2 256 g (-1) hP hD rfl (by decide)) hW (iv_R_layOut_5 G hx hb hown hW [.ref h2, .int (-1)] [] rfl) hml hl.1 (by rw [hb]; exact d_R_layOut_5) (cd_A_fill G hW) ⟨Nat.le_of_ble_eq_true rfl, Nat.le_of_ble_eq_true rfl⟩ (Nat.le_of_ble_eq_true rfl) (Nat.le_of_ble_eq_true rfl) (Nat.le_of_ble_eq_true rfl) hS (Aa.mono (fun _ h => h) hS.1) (fun H locs hP _ _ hS => ?_)
  have hP : va_P D vcl [(h, .inr (2, [.int (nI A), .int (nI B), .int (nI n), .ref h1, .ref h2])), (h1, aN cI 256 f), (h2, aI cI 256 (fun z => oI (cirN (quo f B) (ovr f A B n) (2 ^ A) 0 z)))] H := hP
  have hD : va_D (Aa [h, h1, h2] H0.size) [(h, .inr (2, [.int (nI A), .int (nI B), .int (nI n), .ref h1, .ref h2])), (h1, aN cI 256 f), (h2, aI cI 256 (fun z => oI (cirN (quo f B) (ovr f A B n) (2 ^ A) 0 z)))] := va_D.same2 [h, h1, h2] hD rfl rfl
  refine lv_aload_n hx hb d_R_layOut_8 rfl (lv_at hl 0 rfl) ?_
  refine mx_callR (r := .int (nI (ovr f A B n))) (c_R_overEnd G h h1 h2 A B n f (fun z => oI (cirN (quo f B) (ovr f A B n) (2 ^ A) 0 z)) hP hA hB1 hB hn hf hfq) hW (iv_R_layOut_9 G hx hb hown hW (va_recv hK hP (ci := 2) (q0 := 0) rfl rfl) [] [] rfl) hml hl.1 (by rw [hb]; exact d_R_layOut_9) (cd_R_overEnd G hW) ⟨Nat.le_of_ble_eq_true rfl, Nat.le_of_ble_eq_true rfl⟩ rfl rfl (Nat.le_of_ble_eq_true rfl) (Nat.le_of_ble_eq_true rfl) (Nat.le_of_ble_eq_true rfl) ?_
  refine lv_istore_n (lv' := [(1, .int (nI (ovr f A B n))), (0, .ref h)]) hx hb d_R_layOut_12 rfl hl (by decide) rfl (fun ls hl => ?_)
  refine lv_iconst (v := (nI 0)) hx hb d_R_layOut_13 (by decide) ?_
  refine lv_istore_n (lv' := [(2, .int (nI 0)), (1, .int (nI (ovr f A B n))), (0, .ref h)]) hx hb d_R_layOut_14 rfl hl (by decide) rfl (fun ls hl => ?_)
  have loop_15 : ∀ (k : Nat) (i : Nat) (t : Nat), (i + k = n) → (t = nxt (quo f B) (ovr f A B n) i) → ∀ (H : Heap) (locs : List Loc), va_P D vcl [(h, .inr (2, [.int (nI A), .int (nI B), .int (nI n), .ref h1, .ref h2])), (h1, aN cI 256 f), (h2, aI cI 256 (fun z => oI (cirN (quo f B) (ovr f A B n) (2 ^ A) i z)))] H → va_D (Aa [h, h1, h2] H0.size) [(h, .inr (2, [.int (nI A), .int (nI B), .int (nI n), .ref h1, .ref h2])), (h1, aN cI 256 f), (h2, aI cI 256 (fun z => oI (cirN (quo f B) (ovr f A B n) (2 ^ A) i z)))] → va_S (Aa [h, h1, h2] H0.size) H0 H locs → ∀ (ls : Array Slot), lv_has ls 4 [(2, .int (nI i)), (1, .int (nI t)), (0, .ref h)] → W p l e { frames := 2, cells := 0, slots := 0, locals := 43 } s m ([.ref h] : List Value).toArray below meth c H locs 0 0 (MQx below (Rn (fun H1 => va_P D vcl [(h, .inr (2, [.int (nI A), .int (nI B), .int (nI n), .ref h1, .ref h2])), (h1, aN cI 256 f), (h2, aI cI 256 (fun z => oI (cirF f A B n z)))] H1)) s 0 0 (Aa [h, h1, h2] H0.size)) (F0 m 15 ls []) := by
    intro k
    induction k with
    | zero =>
      intro i t hk ht H locs hP hD hS ls hl
      refine lv_iload_n hx hb d_R_layOut_15 rfl (lv_at hl 0 rfl) ?_
      refine lv_aload_n hx hb d_R_layOut_16 rfl (lv_at hl 2 rfl) ?_
      refine va_get (D := D) (ci := 2) (v := .int (nI n)) (C := R_R) (T := T_R) (N := 5) hx hb (us_R G hW) (fun _ h => h) hown hK hP 0 rfl rfl 2 (by decide) (fl_R_18 G hW) (u_same (args := ([.ref h] : List Value).toArray) (G.1.at 187 rfl rfl _ hW)) rfl d_R_layOut_17 ?_
      refine lv_icmp_ge (tgt := 57) hx hb d_R_layOut_20 (by decide) (fun c_20 => ?_) (fun c_20 => absurd (nI_le (by omega) (by omega)) c_20)
      exact mx_vret hx hb hr hlk d_R_layOut_57 (Nat.le_of_ble_eq_true rfl) (Nat.le_of_ble_eq_true rfl) hS.2.2 (⟨rfl, by rw [show i = n by omega] at hP; exact hP⟩)
    | succ k ih_15 =>
      intro i t hk ht H locs hP hD hS ls hl
      refine lv_iload_n hx hb d_R_layOut_15 rfl (lv_at hl 0 rfl) ?_
      refine lv_aload_n hx hb d_R_layOut_16 rfl (lv_at hl 2 rfl) ?_
      refine va_get (D := D) (ci := 2) (v := .int (nI n)) (C := R_R) (T := T_R) (N := 5) hx hb (us_R G hW) (fun _ h => h) hown hK hP 0 rfl rfl 2 (by decide) (fl_R_18 G hW) (u_same (args := ([.ref h] : List Value).toArray) (G.1.at 187 rfl rfl _ hW)) rfl d_R_layOut_17 ?_
      refine lv_icmp_ge (tgt := 57) hx hb d_R_layOut_20 (by decide) (fun c_20 => absurd c_20 (nI_ge (by omega) (by omega))) (fun c_20 => ?_)
      refine lv_iload_n hx hb d_R_layOut_23 rfl (lv_at hl 1 rfl) ?_
      refine lv_aload_n hx hb d_R_layOut_24 rfl (lv_at hl 2 rfl) ?_
      refine lv_iload_n hx hb d_R_layOut_25 rfl (lv_at hl 0 rfl) ?_
      refine mx_callR (r := .int (nI (quo f B i))) (c_R_quotient G h h1 h2 A B n f (fun z => oI (cirN (quo f B) (ovr f A B n) (2 ^ A) i z)) i hP hB (by omega) (hf i (by omega))) hW (iv_R_layOut_26 G hx hb hown hW (va_recv hK hP (ci := 2) (q0 := 0) rfl rfl) [.int (nI i)] [.int (nI t)] rfl) hml hl.1 (by rw [hb]; exact d_R_layOut_26) (cd_R_quotient G hW) ⟨Nat.le_of_ble_eq_true rfl, Nat.le_of_ble_eq_true rfl⟩ rfl rfl (Nat.le_of_ble_eq_true rfl) (Nat.le_of_ble_eq_true rfl) (Nat.le_of_ble_eq_true rfl) ?_
      refine va_mmax hx hb (hml.trans hl.1.symm) hown (G.1.at 566 rfl rfl _ hW) (G.1.at 548 rfl rfl _ hW) (G.1.at 17 rfl rfl _ hW) (G.1.at 549 rfl rfl _ hW) (Nat.le_of_ble_eq_true rfl) (Nat.le_of_ble_eq_true rfl) (Nat.le_of_ble_eq_true rfl) (Nat.le_of_ble_eq_true rfl) d_R_layOut_29 ?_
      refine tp_i (y := (nI (slt (quo f B) (ovr f A B n) i))) (by subst ht; exact if_nI (by have := hnx i (by omega); omega) (by have := hq2 i (by omega); omega)) ?_
      refine lv_istore_n (lv' := [(3, .int (nI (slt (quo f B) (ovr f A B n) i))), (2, .int (nI i)), (1, .int (nI t)), (0, .ref h)]) hx hb d_R_layOut_32 rfl hl (by decide) rfl (fun ls hl => ?_)
      refine lv_aload_n hx hb d_R_layOut_33 rfl (lv_at hl 3 rfl) ?_
      refine va_get (D := D) (ci := 2) (v := .ref h2) (C := R_R) (T := T_R) (N := 5) hx hb (us_R G hW) (fun _ h => h) hown hK hP 0 rfl rfl 4 (by decide) (fl_R_15 G hW) (fun _ h9 => h9) rfl d_R_layOut_34 ?_
      refine lv_iload_n hx hb d_R_layOut_37 rfl (lv_at hl 0 rfl) ?_
      refine lv_aload_n hx hb d_R_layOut_38 rfl (lv_at hl 3 rfl) ?_
      refine mx_callR (r := .int (nI (2 ^ A))) (c_P_power_R G h h1 h2 A B n f (fun z => oI (cirN (quo f B) (ovr f A B n) (2 ^ A) i z)) hP hA) hW (iv_R_layOut_39 G hx hb hown hW (va_recv hK hP (ci := 2) (q0 := 0) rfl rfl) [] [.int (nI (slt (quo f B) (ovr f A B n) i)), .ref h2] rfl) hml hl.1 (by rw [hb]; exact d_R_layOut_39) (cd_P_power G hW) ⟨Nat.le_of_ble_eq_true rfl, Nat.le_of_ble_eq_true rfl⟩ rfl rfl (Nat.le_of_ble_eq_true rfl) (Nat.le_of_ble_eq_true rfl) (Nat.le_of_ble_eq_true rfl) ?_
      refine lv_iconst (v := (nI 1)) hx hb d_R_layOut_42 (by decide) ?_
      refine lv_isub hx hb d_R_layOut_43 ?_
      refine lv_iand hx hb d_R_layOut_44 ?_
      refine tp_i (y := (nI ((slt (quo f B) (ovr f A B n) i) % 2 ^ A))) (msk_B (by have := hnx (i + 1) (by omega); rw [nxt_s] at this; omega) (by omega)) ?_
      refine lv_iload_n hx hb d_R_layOut_45 rfl (lv_at hl 1 rfl) ?_
      refine ia_st hx hb hK hP hD hS 2 (j := ((slt (quo f B) (ovr f A B n) i) % 2 ^ A)) rfl (Nat.lt_of_lt_of_le (Nat.mod_lt _ (Nat.two_pow_pos A)) (by omega)) (by decide) d_R_layOut_46 (fun H locs hP hD hS => ?_)
      have hP : va_P D vcl [(h, .inr (2, [.int (nI A), .int (nI B), .int (nI n), .ref h1, .ref h2])), (h1, aN cI 256 f), (h2, aI cI 256 (upd (fun z => oI (cirN (quo f B) (ovr f A B n) (2 ^ A) i z)) ((slt (quo f B) (ovr f A B n) i) % 2 ^ A) (nI i)))] H := hP
      have hD : va_D (Aa [h, h1, h2] H0.size) [(h, .inr (2, [.int (nI A), .int (nI B), .int (nI n), .ref h1, .ref h2])), (h1, aN cI 256 f), (h2, aI cI 256 (upd (fun z => oI (cirN (quo f B) (ovr f A B n) (2 ^ A) i z)) ((slt (quo f B) (ovr f A B n) i) % 2 ^ A) (nI i)))] := hD
      rw [upO] at hP hD
      refine lv_iload_n hx hb d_R_layOut_47 rfl (lv_at hl 0 rfl) ?_
      refine lv_iconst (v := (nI 1)) hx hb d_R_layOut_48 (by decide) ?_
      refine lv_iadd hx hb d_R_layOut_49 ?_
      refine tp_i (y := (nI (nxt (quo f B) (ovr f A B n) (i + 1)))) (nI_add _ _) ?_
      refine lv_istore_n (lv' := [(1, .int (nI (nxt (quo f B) (ovr f A B n) (i + 1)))), (3, .int (nI (slt (quo f B) (ovr f A B n) i))), (2, .int (nI i)), (0, .ref h)]) hx hb d_R_layOut_50 rfl hl (by decide) rfl (fun ls hl => ?_)
      refine lv_iinc (v := (nI (i + 1))) (lv' := [(2, .int (nI (i + 1))), (1, .int (nI (nxt (quo f B) (ovr f A B n) (i + 1)))), (3, .int (nI (slt (quo f B) (ovr f A B n) i))), (0, .ref h)]) hx hb d_R_layOut_51 hl (k := 2) rfl (nI_1 _) (by decide) rfl (fun ls hl => ?_)
      refine lv_goto (tgt := 15) hx hb d_R_layOut_54 (by decide) ?_
      exact ih_15 (i + 1) (nxt (quo f B) (ovr f A B n) (i + 1)) (by omega) (rfl) H locs hP hD hS ls (lv_sub hl [0, 1, 3] rfl)
  exact loop_15 (n) (0) ((ovr f A B n)) (by omega) (rfl) H locs hP hD hS ls (lv_sub hl [0, 1, 2] rfl)

set_option maxHeartbeats 4000000 in
set_option maxRecDepth 100000 in
theorem c_R_look {l : Launch} {s0 : State} {D : va_G} {cI cF cJ : ClassId} (G : Gx l s0 D cI cF cJ) (h h1 h2 A B n : Nat) (f : Nat → Nat) (g : Nat → Int32) (z : Nat) {H0 : Heap} {A0 : Nat → Prop} (hP : va_P D vcl [(h, .inr (2, [.int (nI A), .int (nI B), .int (nI n), .ref h1, .ref h2])), (h1, aN cI 256 f), (h2, aI cI 256 g)] H0) (hD : va_D A0 [(h, .inr (2, [.int (nI A), .int (nI B), .int (nI n), .ref h1, .ref h2])), (h1, aN cI 256 f), (h2, aI cI 256 g)]) (hA : A ≤ 8) (hB1 : 1 ≤ B) (hB : B ≤ 20) (hn : n ≤ 256) (hf : ∀ i, i < n → f i < 2 ^ 28) (hfq : ∀ i, i < n → f i < 256 * 2 ^ B) (hsr : srt f n) (hz : z < 2 ^ A) : Mx l s0 y_R_look (.code y_R_look b_R_look 5 (some .int)) { frames := 3, cells := 0, slots := 0, locals := 66 } [.ref h, .int (nI z)] H0 (Aa [h, h1, h2] H0.size) (Rw (.int (nI (match cirF f A B n z with | none => 0 | some j => lkR f B n z j))) (fun H1 => va_P D vcl [(h, .inr (2, [.int (nI A), .int (nI B), .int (nI n), .ref h1, .ref h2])), (h1, aN cI 256 f), (h2, aI cI 256 (fun z => oI (cirF f A B n z)))] H1)) := by
  refine Mx.ofW (own := "FewBits$Runs") rfl rfl ?_
  rintro p e s m below meth c ⟨hx, hb, hml, hr, hown, hW, hlk⟩ hnm het hH
  have hK := G.k hW
  have hD := hD.aa (sz := H0.size)
  have hD : va_D (Aa [h, h1, h2] H0.size) [(h, .inr (2, [.int (nI A), .int (nI B), .int (nI n), .ref h1, .ref h2])), (h1, aN cI 256 f), (h2, aI cI 256 g)] := hD
  have hS : va_S (Aa [h, h1, h2] H0.size) H0 H0 [] := va_S.rf
  have h8 := p2_le hA
  have hl := lv_entry ([.ref h, .int (nI z)]) (n := 5) (Nat.le_of_ble_eq_true rfl)
  rw [lg_entry_eq]
  generalize (lg_sl ([.ref h, .int (nI z)]) ++ List.replicate (5 - (lg_sl ([.ref h, .int (nI z)])).length) Slot.unset).toArray = ls at hl ⊢
  have hl : lv_has ls 5 [(0, .ref h), (1, .int (nI z))] := hl
  refine lv_aload_n hx hb d_R_look_0 rfl (lv_at hl 0 rfl) ?_
  refine mx_callN (c_R_layOut G h h1 h2 A B n f g hP hD hA hB1 hB hn hf hfq) hW (iv_R_look_1 G hx hb hown hW (va_recv hK hP (ci := 2) (q0 := 0) rfl rfl) [] [] rfl) hml hl.1 (by rw [hb]; exact d_R_look_1) (cd_R_layOut G hW) ⟨Nat.le_of_ble_eq_true rfl, Nat.le_of_ble_eq_true rfl⟩ (Nat.le_of_ble_eq_true rfl) (Nat.le_of_ble_eq_true rfl) (Nat.le_of_ble_eq_true rfl) hS (Aa.mono (fun _ h => h) hS.1) (fun H locs hP _ _ hS => ?_)
  have hP : va_P D vcl [(h, .inr (2, [.int (nI A), .int (nI B), .int (nI n), .ref h1, .ref h2])), (h1, aN cI 256 f), (h2, aI cI 256 (fun z => oI (cirF f A B n z)))] H := hP
  have hD : va_D (Aa [h, h1, h2] H0.size) [(h, .inr (2, [.int (nI A), .int (nI B), .int (nI n), .ref h1, .ref h2])), (h1, aN cI 256 f), (h2, aI cI 256 (fun z => oI (cirF f A B n z)))] := va_D.same2 [h, h1, h2] hD rfl rfl
  refine lv_aload_n hx hb d_R_look_4 rfl (lv_at hl 0 rfl) ?_
  refine va_get (D := D) (ci := 2) (v := .ref h2) (C := R_R) (T := T_R) (N := 5) hx hb (us_R G hW) (fun _ h => h) hown hK hP 0 rfl rfl 4 (by decide) (fl_R_15 G hW) (fun _ h9 => h9) rfl d_R_look_5 ?_
  refine lv_iload_n hx hb d_R_look_8 rfl (lv_at hl 1 rfl) ?_
  refine ia_ld hx hb hK hP 2 (j := z) rfl (by omega) (by decide) d_R_look_9 ?_
  refine tp_i (y := (oI (cirF f A B n z))) rfl ?_
  refine lv_istore_n (lv' := [(2, .int (oI (cirF f A B n z))), (0, .ref h), (1, .int (nI z))]) hx hb d_R_look_10 rfl hl (by decide) rfl (fun ls hl => ?_)
  refine lv_iload_n hx hb d_R_look_11 rfl (lv_at hl 0 rfl) ?_
  refine lv_iconst (v := (-1)) hx hb d_R_look_12 (by decide) ?_
  refine lv_icmp_ne (tgt := 18) hx hb d_R_look_13 (by decide) (fun c_13 => ?_) (fun c_13 => ?_)
  · obtain ⟨j, hj⟩ := oI_some c_13
    have hjn : j < n := cirN_lt hj
    have hjf := hf j hjn
    have hjr : f j % 2 ^ B < 2 ^ 20 := Nat.lt_of_lt_of_le (Nat.mod_lt _ (Nat.two_pow_pos B)) (p2_le hB)
    have hjq : ∀ i, i < n → f i / 2 ^ B < 2 ^ 28 := fun i hi => Nat.lt_of_le_of_lt (Nat.div_le_self _ _) (hf i hi)
    rw [hj] at hl
    have hl : lv_has ls 5 [(2, .int (nI j)), (0, .ref h), (1, .int (nI z))] := hl
    refine lv_aload_n hx hb d_R_look_18 rfl (lv_at hl 1 rfl) ?_
    refine lv_iload_n hx hb d_R_look_19 rfl (lv_at hl 0 rfl) ?_
    refine mx_callR (r := .int (nI (quo f B j))) (c_R_quotient G h h1 h2 A B n f (fun z => oI (cirF f A B n z)) j hP hB (by omega) hjf) hW (iv_R_look_20 G hx hb hown hW (va_recv hK hP (ci := 2) (q0 := 0) rfl rfl) [.int (nI j)] [] rfl) hml hl.1 (by rw [hb]; exact d_R_look_20) (cd_R_quotient G hW) ⟨Nat.le_of_ble_eq_true rfl, Nat.le_of_ble_eq_true rfl⟩ rfl rfl (Nat.le_of_ble_eq_true rfl) (Nat.le_of_ble_eq_true rfl) (Nat.le_of_ble_eq_true rfl) ?_
    refine lv_istore_n (lv' := [(3, .int (nI (quo f B j))), (2, .int (nI j)), (0, .ref h), (1, .int (nI z))]) hx hb d_R_look_23 rfl hl (by decide) rfl (fun ls hl => ?_)
    refine lv_bipush (v := (nI 8)) hx hb d_R_look_24 (by decide) ?_
    refine lv_aload_n hx hb d_R_look_26 rfl (lv_at hl 2 rfl) ?_
    refine lv_iload_n hx hb d_R_look_27 rfl (lv_at hl 1 rfl) ?_
    refine mx_callR (r := .int (nI (f j % 2 ^ B))) (c_R_remainder G h h1 h2 A B n f (fun z => oI (cirF f A B n z)) j hP hB (by omega) hjf) hW (iv_R_look_28 G hx hb hown hW (va_recv hK hP (ci := 2) (q0 := 0) rfl rfl) [.int (nI j)] [.int (nI 8)] rfl) hml hl.1 (by rw [hb]; exact d_R_look_28) (cd_R_remainder G hW) ⟨Nat.le_of_ble_eq_true rfl, Nat.le_of_ble_eq_true rfl⟩ rfl rfl (Nat.le_of_ble_eq_true rfl) (Nat.le_of_ble_eq_true rfl) (Nat.le_of_ble_eq_true rfl) ?_
    refine lv_imul hx hb d_R_look_31 ?_
    refine tp_i (y := (nI (8 * (f j % 2 ^ B)))) (pk_mul _ _) ?_
    refine lv_istore (lv' := [(4, .int (nI (8 * (f j % 2 ^ B)))), (3, .int (nI (quo f B j))), (2, .int (nI j)), (0, .ref h), (1, .int (nI z))]) hx hb d_R_look_32 hl (by decide) rfl (fun ls hl => ?_)
    refine lv_aload_n hx hb d_R_look_34 rfl (lv_at hl 3 rfl) ?_
    refine lv_iload_n hx hb d_R_look_35 rfl (lv_at hl 4 rfl) ?_
    refine mx_callR (r := .int (bI (clm f B n z))) (c_R_isClaimed G h h1 h2 A B n f (fun z => oI (cirF f A B n z)) z hP hB hn hf hsr (by omega)) hW (iv_R_look_36 G hx hb hown hW (va_recv hK hP (ci := 2) (q0 := 0) rfl rfl) [.int (nI z)] [] rfl) hml hl.1 (by rw [hb]; exact d_R_look_36) (cd_R_isClaimed G hW) ⟨Nat.le_of_ble_eq_true rfl, Nat.le_of_ble_eq_true rfl⟩ rfl rfl (Nat.le_of_ble_eq_true rfl) (Nat.le_of_ble_eq_true rfl) (Nat.le_of_ble_eq_true rfl) ?_
    refine lv_if_eq (tgt := 45) hx hb d_R_look_39 (by decide) (fun c_39 => ?_) (fun c_39 => ?_)
    · have hc : clm f B n z = false := bI_f c_39
      have hl : lv_has ls 5 [(4, .int (nI (8 * (f j % 2 ^ B) + 0))), (3, .int (nI (quo f B j))), (2, .int (nI j)), (0, .ref h), (1, .int (nI z))] := hl
      refine lv_iload_n hx hb d_R_look_45 rfl (lv_at hl 2 rfl) ?_
      refine lv_if_le (tgt := 63) hx hb d_R_look_46 (by decide) (fun c_46 => ?_) (fun c_46 => ?_)
      · have hg : (decide (0 < j) && decide (f (j - 1) / 2 ^ B = f j / 2 ^ B)) = false := by rw [decide_eq_false (Nat.not_lt.mpr ((nI_leI (b := 0) (by omega) (by decide)).mp c_46))]; rfl
        have hl : lv_has ls 5 [(4, .int (nI (8 * (f j % 2 ^ B) + 0 + 0))), (3, .int (nI (quo f B j))), (2, .int (nI j)), (0, .ref h), (1, .int (nI z))] := hl
        refine lv_iload_n hx hb d_R_look_63 rfl (lv_at hl 1 rfl) ?_
        refine lv_iload_n hx hb d_R_look_64 rfl (lv_at hl 4 rfl) ?_
        refine lv_icmp_eq (tgt := 71) hx hb d_R_look_65 (by decide) (fun c_65 => ?_) (fun c_65 => ?_)
        · refine lv_iload hx hb d_R_look_71 (lv_at hl 0 rfl) ?_
          exact mx_iret hx hb hr hlk d_R_look_73 (Nat.le_of_ble_eq_true rfl) (Nat.le_of_ble_eq_true rfl) hS.2.2 (⟨by rw [hj]; show _ = Outcome.returned (some (Value.int (nI (lkR f B n z j)))); unfold lkR; rw [hc, hg, if_pos (show f j / 2 ^ B = z from (nI_eq (Nat.lt_trans (hjq j hjn) (by decide)) (by omega)).mp c_65)]; rfl, hP⟩)
        · refine lv_iinc (v := (nI (8 * (f j % 2 ^ B) + 0 + 0 + 4))) (lv' := [(4, .int (nI (8 * (f j % 2 ^ B) + 0 + 0 + 4))), (3, .int (nI (quo f B j))), (2, .int (nI j)), (0, .ref h), (1, .int (nI z))]) hx hb d_R_look_68 hl (k := 0) rfl (nI_add _ 4) (by decide) rfl (fun ls hl => ?_)
          refine lv_iload hx hb d_R_look_71 (lv_at hl 0 rfl) ?_
          exact mx_iret hx hb hr hlk d_R_look_73 (Nat.le_of_ble_eq_true rfl) (Nat.le_of_ble_eq_true rfl) hS.2.2 (⟨by rw [hj]; show _ = Outcome.returned (some (Value.int (nI (lkR f B n z j)))); unfold lkR; rw [hc, hg, if_neg (show ¬ f j / 2 ^ B = z from fun h9 => c_65 (congrArg nI h9))]; rfl, hP⟩)
      · have hj0 : 0 < j := Nat.pos_of_ne_zero (fun h9 => c_46 (by rw [h9]; decide))
        refine lv_aload_n hx hb d_R_look_49 rfl (lv_at hl 3 rfl) ?_
        refine lv_iload_n hx hb d_R_look_50 rfl (lv_at hl 2 rfl) ?_
        refine lv_iconst (v := (nI 1)) hx hb d_R_look_51 (by decide) ?_
        refine lv_isub hx hb d_R_look_52 ?_
        refine tp_i (y := (nI (j - 1))) (pk_sub (by omega)) ?_
        refine mx_callR (r := .int (nI (quo f B (j - 1)))) (c_R_quotient G h h1 h2 A B n f (fun z => oI (cirF f A B n z)) (j - 1) hP hB (by omega) (hf _ (by omega))) hW (iv_R_look_53 G hx hb hown hW (va_recv hK hP (ci := 2) (q0 := 0) rfl rfl) [.int (nI (j - 1))] [] rfl) hml hl.1 (by rw [hb]; exact d_R_look_53) (cd_R_quotient G hW) ⟨Nat.le_of_ble_eq_true rfl, Nat.le_of_ble_eq_true rfl⟩ rfl rfl (Nat.le_of_ble_eq_true rfl) (Nat.le_of_ble_eq_true rfl) (Nat.le_of_ble_eq_true rfl) ?_
        refine lv_iload_n hx hb d_R_look_56 rfl (lv_at hl 1 rfl) ?_
        refine lv_icmp_ne (tgt := 63) hx hb d_R_look_57 (by decide) (fun c_57 => ?_) (fun c_57 => ?_)
        · have hg : (decide (0 < j) && decide (f (j - 1) / 2 ^ B = f j / 2 ^ B)) = false := by rw [decide_eq_false (show ¬ f (j - 1) / 2 ^ B = f j / 2 ^ B from fun h9 => c_57 (congrArg nI h9))]; simp
          have hl : lv_has ls 5 [(4, .int (nI (8 * (f j % 2 ^ B) + 0 + 0))), (3, .int (nI (quo f B j))), (2, .int (nI j)), (0, .ref h), (1, .int (nI z))] := hl
          refine lv_iload_n hx hb d_R_look_63 rfl (lv_at hl 1 rfl) ?_
          refine lv_iload_n hx hb d_R_look_64 rfl (lv_at hl 4 rfl) ?_
          refine lv_icmp_eq (tgt := 71) hx hb d_R_look_65 (by decide) (fun c_65 => ?_) (fun c_65 => ?_)
          · refine lv_iload hx hb d_R_look_71 (lv_at hl 0 rfl) ?_
            exact mx_iret hx hb hr hlk d_R_look_73 (Nat.le_of_ble_eq_true rfl) (Nat.le_of_ble_eq_true rfl) hS.2.2 (⟨by rw [hj]; show _ = Outcome.returned (some (Value.int (nI (lkR f B n z j)))); unfold lkR; rw [hc, hg, if_pos (show f j / 2 ^ B = z from (nI_eq (Nat.lt_trans (hjq j hjn) (by decide)) (by omega)).mp c_65)]; rfl, hP⟩)
          · refine lv_iinc (v := (nI (8 * (f j % 2 ^ B) + 0 + 0 + 4))) (lv' := [(4, .int (nI (8 * (f j % 2 ^ B) + 0 + 0 + 4))), (3, .int (nI (quo f B j))), (2, .int (nI j)), (0, .ref h), (1, .int (nI z))]) hx hb d_R_look_68 hl (k := 0) rfl (nI_add _ 4) (by decide) rfl (fun ls hl => ?_)
            refine lv_iload hx hb d_R_look_71 (lv_at hl 0 rfl) ?_
            exact mx_iret hx hb hr hlk d_R_look_73 (Nat.le_of_ble_eq_true rfl) (Nat.le_of_ble_eq_true rfl) hS.2.2 (⟨by rw [hj]; show _ = Outcome.returned (some (Value.int (nI (lkR f B n z j)))); unfold lkR; rw [hc, hg, if_neg (show ¬ f j / 2 ^ B = z from fun h9 => c_65 (congrArg nI h9))]; rfl, hP⟩)
        · refine lv_iinc (v := (nI (8 * (f j % 2 ^ B) + 0 + 2))) (lv' := [(4, .int (nI (8 * (f j % 2 ^ B) + 0 + 2))), (3, .int (nI (quo f B j))), (2, .int (nI j)), (0, .ref h), (1, .int (nI z))]) hx hb d_R_look_60 hl (k := 0) rfl (nI_add _ 2) (by decide) rfl (fun ls hl => ?_)
          have hg : (decide (0 < j) && decide (f (j - 1) / 2 ^ B = f j / 2 ^ B)) = true := by rw [decide_eq_true hj0, decide_eq_true (show f (j - 1) / 2 ^ B = f j / 2 ^ B from (nI_eq (Nat.lt_trans (hjq (j - 1) (by omega)) (by decide)) (Nat.lt_trans (hjq j hjn) (by decide))).mp c_57)]; rfl
          refine lv_iload_n hx hb d_R_look_63 rfl (lv_at hl 1 rfl) ?_
          refine lv_iload_n hx hb d_R_look_64 rfl (lv_at hl 4 rfl) ?_
          refine lv_icmp_eq (tgt := 71) hx hb d_R_look_65 (by decide) (fun c_65 => ?_) (fun c_65 => ?_)
          · refine lv_iload hx hb d_R_look_71 (lv_at hl 0 rfl) ?_
            exact mx_iret hx hb hr hlk d_R_look_73 (Nat.le_of_ble_eq_true rfl) (Nat.le_of_ble_eq_true rfl) hS.2.2 (⟨by rw [hj]; show _ = Outcome.returned (some (Value.int (nI (lkR f B n z j)))); unfold lkR; rw [hc, hg, if_pos (show f j / 2 ^ B = z from (nI_eq (Nat.lt_trans (hjq j hjn) (by decide)) (by omega)).mp c_65)]; rfl, hP⟩)
          · refine lv_iinc (v := (nI (8 * (f j % 2 ^ B) + 0 + 2 + 4))) (lv' := [(4, .int (nI (8 * (f j % 2 ^ B) + 0 + 2 + 4))), (3, .int (nI (quo f B j))), (2, .int (nI j)), (0, .ref h), (1, .int (nI z))]) hx hb d_R_look_68 hl (k := 0) rfl (nI_add _ 4) (by decide) rfl (fun ls hl => ?_)
            refine lv_iload hx hb d_R_look_71 (lv_at hl 0 rfl) ?_
            exact mx_iret hx hb hr hlk d_R_look_73 (Nat.le_of_ble_eq_true rfl) (Nat.le_of_ble_eq_true rfl) hS.2.2 (⟨by rw [hj]; show _ = Outcome.returned (some (Value.int (nI (lkR f B n z j)))); unfold lkR; rw [hc, hg, if_neg (show ¬ f j / 2 ^ B = z from fun h9 => c_65 (congrArg nI h9))]; rfl, hP⟩)
    · refine lv_iinc (v := (nI (8 * (f j % 2 ^ B) + 1))) (lv' := [(4, .int (nI (8 * (f j % 2 ^ B) + 1))), (3, .int (nI (quo f B j))), (2, .int (nI j)), (0, .ref h), (1, .int (nI z))]) hx hb d_R_look_42 hl (k := 0) rfl (nI_1 _) (by decide) rfl (fun ls hl => ?_)
      have hc : clm f B n z = true := bI_t c_39
      refine lv_iload_n hx hb d_R_look_45 rfl (lv_at hl 2 rfl) ?_
      refine lv_if_le (tgt := 63) hx hb d_R_look_46 (by decide) (fun c_46 => ?_) (fun c_46 => ?_)
      · have hg : (decide (0 < j) && decide (f (j - 1) / 2 ^ B = f j / 2 ^ B)) = false := by rw [decide_eq_false (Nat.not_lt.mpr ((nI_leI (b := 0) (by omega) (by decide)).mp c_46))]; rfl
        have hl : lv_has ls 5 [(4, .int (nI (8 * (f j % 2 ^ B) + 1 + 0))), (3, .int (nI (quo f B j))), (2, .int (nI j)), (0, .ref h), (1, .int (nI z))] := hl
        refine lv_iload_n hx hb d_R_look_63 rfl (lv_at hl 1 rfl) ?_
        refine lv_iload_n hx hb d_R_look_64 rfl (lv_at hl 4 rfl) ?_
        refine lv_icmp_eq (tgt := 71) hx hb d_R_look_65 (by decide) (fun c_65 => ?_) (fun c_65 => ?_)
        · refine lv_iload hx hb d_R_look_71 (lv_at hl 0 rfl) ?_
          exact mx_iret hx hb hr hlk d_R_look_73 (Nat.le_of_ble_eq_true rfl) (Nat.le_of_ble_eq_true rfl) hS.2.2 (⟨by rw [hj]; show _ = Outcome.returned (some (Value.int (nI (lkR f B n z j)))); unfold lkR; rw [hc, hg, if_pos (show f j / 2 ^ B = z from (nI_eq (Nat.lt_trans (hjq j hjn) (by decide)) (by omega)).mp c_65)]; rfl, hP⟩)
        · refine lv_iinc (v := (nI (8 * (f j % 2 ^ B) + 1 + 0 + 4))) (lv' := [(4, .int (nI (8 * (f j % 2 ^ B) + 1 + 0 + 4))), (3, .int (nI (quo f B j))), (2, .int (nI j)), (0, .ref h), (1, .int (nI z))]) hx hb d_R_look_68 hl (k := 0) rfl (nI_add _ 4) (by decide) rfl (fun ls hl => ?_)
          refine lv_iload hx hb d_R_look_71 (lv_at hl 0 rfl) ?_
          exact mx_iret hx hb hr hlk d_R_look_73 (Nat.le_of_ble_eq_true rfl) (Nat.le_of_ble_eq_true rfl) hS.2.2 (⟨by rw [hj]; show _ = Outcome.returned (some (Value.int (nI (lkR f B n z j)))); unfold lkR; rw [hc, hg, if_neg (show ¬ f j / 2 ^ B = z from fun h9 => c_65 (congrArg nI h9))]; rfl, hP⟩)
      · have hj0 : 0 < j := Nat.pos_of_ne_zero (fun h9 => c_46 (by rw [h9]; decide))
        refine lv_aload_n hx hb d_R_look_49 rfl (lv_at hl 3 rfl) ?_
        refine lv_iload_n hx hb d_R_look_50 rfl (lv_at hl 2 rfl) ?_
        refine lv_iconst (v := (nI 1)) hx hb d_R_look_51 (by decide) ?_
        refine lv_isub hx hb d_R_look_52 ?_
        refine tp_i (y := (nI (j - 1))) (pk_sub (by omega)) ?_
        refine mx_callR (r := .int (nI (quo f B (j - 1)))) (c_R_quotient G h h1 h2 A B n f (fun z => oI (cirF f A B n z)) (j - 1) hP hB (by omega) (hf _ (by omega))) hW (iv_R_look_53 G hx hb hown hW (va_recv hK hP (ci := 2) (q0 := 0) rfl rfl) [.int (nI (j - 1))] [] rfl) hml hl.1 (by rw [hb]; exact d_R_look_53) (cd_R_quotient G hW) ⟨Nat.le_of_ble_eq_true rfl, Nat.le_of_ble_eq_true rfl⟩ rfl rfl (Nat.le_of_ble_eq_true rfl) (Nat.le_of_ble_eq_true rfl) (Nat.le_of_ble_eq_true rfl) ?_
        refine lv_iload_n hx hb d_R_look_56 rfl (lv_at hl 1 rfl) ?_
        refine lv_icmp_ne (tgt := 63) hx hb d_R_look_57 (by decide) (fun c_57 => ?_) (fun c_57 => ?_)
        · have hg : (decide (0 < j) && decide (f (j - 1) / 2 ^ B = f j / 2 ^ B)) = false := by rw [decide_eq_false (show ¬ f (j - 1) / 2 ^ B = f j / 2 ^ B from fun h9 => c_57 (congrArg nI h9))]; simp
          have hl : lv_has ls 5 [(4, .int (nI (8 * (f j % 2 ^ B) + 1 + 0))), (3, .int (nI (quo f B j))), (2, .int (nI j)), (0, .ref h), (1, .int (nI z))] := hl
          refine lv_iload_n hx hb d_R_look_63 rfl (lv_at hl 1 rfl) ?_
          refine lv_iload_n hx hb d_R_look_64 rfl (lv_at hl 4 rfl) ?_
          refine lv_icmp_eq (tgt := 71) hx hb d_R_look_65 (by decide) (fun c_65 => ?_) (fun c_65 => ?_)
          · refine lv_iload hx hb d_R_look_71 (lv_at hl 0 rfl) ?_
            exact mx_iret hx hb hr hlk d_R_look_73 (Nat.le_of_ble_eq_true rfl) (Nat.le_of_ble_eq_true rfl) hS.2.2 (⟨by rw [hj]; show _ = Outcome.returned (some (Value.int (nI (lkR f B n z j)))); unfold lkR; rw [hc, hg, if_pos (show f j / 2 ^ B = z from (nI_eq (Nat.lt_trans (hjq j hjn) (by decide)) (by omega)).mp c_65)]; rfl, hP⟩)
          · refine lv_iinc (v := (nI (8 * (f j % 2 ^ B) + 1 + 0 + 4))) (lv' := [(4, .int (nI (8 * (f j % 2 ^ B) + 1 + 0 + 4))), (3, .int (nI (quo f B j))), (2, .int (nI j)), (0, .ref h), (1, .int (nI z))]) hx hb d_R_look_68 hl (k := 0) rfl (nI_add _ 4) (by decide) rfl (fun ls hl => ?_)
            refine lv_iload hx hb d_R_look_71 (lv_at hl 0 rfl) ?_
            exact mx_iret hx hb hr hlk d_R_look_73 (Nat.le_of_ble_eq_true rfl) (Nat.le_of_ble_eq_true rfl) hS.2.2 (⟨by rw [hj]; show _ = Outcome.returned (some (Value.int (nI (lkR f B n z j)))); unfold lkR; rw [hc, hg, if_neg (show ¬ f j / 2 ^ B = z from fun h9 => c_65 (congrArg nI h9))]; rfl, hP⟩)
        · refine lv_iinc (v := (nI (8 * (f j % 2 ^ B) + 1 + 2))) (lv' := [(4, .int (nI (8 * (f j % 2 ^ B) + 1 + 2))), (3, .int (nI (quo f B j))), (2, .int (nI j)), (0, .ref h), (1, .int (nI z))]) hx hb d_R_look_60 hl (k := 0) rfl (nI_add _ 2) (by decide) rfl (fun ls hl => ?_)
          have hg : (decide (0 < j) && decide (f (j - 1) / 2 ^ B = f j / 2 ^ B)) = true := by rw [decide_eq_true hj0, decide_eq_true (show f (j - 1) / 2 ^ B = f j / 2 ^ B from (nI_eq (Nat.lt_trans (hjq (j - 1) (by omega)) (by decide)) (Nat.lt_trans (hjq j hjn) (by decide))).mp c_57)]; rfl
          refine lv_iload_n hx hb d_R_look_63 rfl (lv_at hl 1 rfl) ?_
          refine lv_iload_n hx hb d_R_look_64 rfl (lv_at hl 4 rfl) ?_
          refine lv_icmp_eq (tgt := 71) hx hb d_R_look_65 (by decide) (fun c_65 => ?_) (fun c_65 => ?_)
          · refine lv_iload hx hb d_R_look_71 (lv_at hl 0 rfl) ?_
            exact mx_iret hx hb hr hlk d_R_look_73 (Nat.le_of_ble_eq_true rfl) (Nat.le_of_ble_eq_true rfl) hS.2.2 (⟨by rw [hj]; show _ = Outcome.returned (some (Value.int (nI (lkR f B n z j)))); unfold lkR; rw [hc, hg, if_pos (show f j / 2 ^ B = z from (nI_eq (Nat.lt_trans (hjq j hjn) (by decide)) (by omega)).mp c_65)]; rfl, hP⟩)
          · refine lv_iinc (v := (nI (8 * (f j % 2 ^ B) + 1 + 2 + 4))) (lv' := [(4, .int (nI (8 * (f j % 2 ^ B) + 1 + 2 + 4))), (3, .int (nI (quo f B j))), (2, .int (nI j)), (0, .ref h), (1, .int (nI z))]) hx hb d_R_look_68 hl (k := 0) rfl (nI_add _ 4) (by decide) rfl (fun ls hl => ?_)
            refine lv_iload hx hb d_R_look_71 (lv_at hl 0 rfl) ?_
            exact mx_iret hx hb hr hlk d_R_look_73 (Nat.le_of_ble_eq_true rfl) (Nat.le_of_ble_eq_true rfl) hS.2.2 (⟨by rw [hj]; show _ = Outcome.returned (some (Value.int (nI (lkR f B n z j)))); unfold lkR; rw [hc, hg, if_neg (show ¬ f j / 2 ^ B = z from fun h9 => c_65 (congrArg nI h9))]; rfl, hP⟩)
  · refine lv_iconst (v := (nI 0)) hx hb d_R_look_16 (by decide) ?_
    exact mx_iret hx hb hr hlk d_R_look_17 (Nat.le_of_ble_eq_true rfl) (Nat.le_of_ble_eq_true rfl) hS.2.2 (⟨by rw [oI_none (fun j hj => by have := cirN_lt hj; omega) c_13], hP⟩)

set_option maxHeartbeats 4000000 in
set_option maxRecDepth 100000 in
theorem c_R_looksAlike {l : Launch} {s0 : State} {D : va_G} {cI cF cJ : ClassId} (G : Gx l s0 D cI cF cJ) (h h1 h2 A B n : Nat) (f : Nat → Nat) (g : Nat → Int32) (x y : Int64) {H0 : Heap} (hP : va_P D vcl [(h, .inr (2, [.int (nI A), .int (nI B), .int (nI n), .ref h1, .ref h2])), (h1, aN cI 256 f), (h2, aI cI 256 g)] H0) (hA : A ≤ 8) (hB1 : 1 ≤ B) (hB : B ≤ 20) : Mx l s0 y_R_looksAlike (.code y_R_looksAlike b_R_looksAlike 5 (some .boolean)) { frames := 2, cells := 0, slots := 0, locals := 46 } [.ref h, .long x, .long y] H0 (fun _ => False) (Rd H0 (.int (bI (decide (prN A B x = prN A B y))))) := by
  refine Mx.ofW (own := "FewBits$Runs") rfl rfl ?_
  rintro p e s m below meth c ⟨hx, hb, hml, hr, hown, hW, hlk⟩ hnm het hH
  have hK := G.k hW
  have hl := lv_entry ([.ref h, .long x, .long y]) (n := 5) (Nat.le_of_ble_eq_true rfl)
  rw [lg_entry_eq]
  generalize (lg_sl ([.ref h, .long x, .long y]) ++ List.replicate (5 - (lg_sl ([.ref h, .long x, .long y])).length) Slot.unset).toArray = ls at hl ⊢
  have hl : lv_has ls 5 [(0, .ref h), (1, .long x), (3, .long y)] := hl
  refine lv_aload_n hx hb d_R_looksAlike_0 rfl (lv_at hl 0 rfl) ?_
  refine lv_lload_n hx hb d_R_looksAlike_1 rfl (lv_at hl 1 rfl) ?_
  refine mx_callR (r := .int (nI (prN A B x))) (c_R_pairOf G h h1 h2 A B n f g x hP hA hB1 hB) hW (iv_R_looksAlike_2 G hx hb hown hW (va_recv hK hP (ci := 2) (q0 := 0) rfl rfl) [.long x] [] rfl) hml hl.1 (by rw [hb]; exact d_R_looksAlike_2) (cd_R_pairOf G hW) ⟨Nat.le_of_ble_eq_true rfl, Nat.le_of_ble_eq_true rfl⟩ rfl rfl (Nat.le_of_ble_eq_true rfl) (Nat.le_of_ble_eq_true rfl) (Nat.le_of_ble_eq_true rfl) ?_
  refine lv_aload_n hx hb d_R_looksAlike_5 rfl (lv_at hl 0 rfl) ?_
  refine lv_lload_n hx hb d_R_looksAlike_6 rfl (lv_at hl 2 rfl) ?_
  refine mx_callR (r := .int (nI (prN A B y))) (c_R_pairOf G h h1 h2 A B n f g y hP hA hB1 hB) hW (iv_R_looksAlike_7 G hx hb hown hW (va_recv hK hP (ci := 2) (q0 := 0) rfl rfl) [.long y] [.int (nI (prN A B x))] rfl) hml hl.1 (by rw [hb]; exact d_R_looksAlike_7) (cd_R_pairOf G hW) ⟨Nat.le_of_ble_eq_true rfl, Nat.le_of_ble_eq_true rfl⟩ rfl rfl (Nat.le_of_ble_eq_true rfl) (Nat.le_of_ble_eq_true rfl) (Nat.le_of_ble_eq_true rfl) ?_
  refine lv_icmp_ne (tgt := 17) hx hb d_R_looksAlike_10 (by decide) (fun c_10 => ?_) (fun c_10 => ?_)
  · refine lv_iconst (v := (nI 0)) hx hb d_R_looksAlike_17 (by decide) ?_
    exact mx_zret hx hb hr hlk d_R_looksAlike_18 (Nat.le_of_ble_eq_true rfl) (Nat.le_of_ble_eq_true rfl) (fun _ h => nomatch h) (rfl) (⟨by rw [decide_eq_false (fun h9 => c_10 (congrArg nI h9))]; rfl, rfl⟩)
  · refine lv_iconst (v := (nI 1)) hx hb d_R_looksAlike_13 (by decide) ?_
    refine lv_goto (tgt := 18) hx hb d_R_looksAlike_14 (by decide) ?_
    exact mx_zret hx hb hr hlk d_R_looksAlike_18 (Nat.le_of_ble_eq_true rfl) (Nat.le_of_ble_eq_true rfl) (fun _ h => nomatch h) (rfl) (⟨by rw [decide_eq_true ((nI_eq (by have := prN_28 hA hB x; omega) (by have := prN_28 hA hB y; omega)).mp c_10)]; rfl, rfl⟩)

set_option maxHeartbeats 4000000 in
set_option maxRecDepth 100000 in
theorem c_R_holds {l : Launch} {s0 : State} {D : va_G} {cI cF cJ : ClassId} (G : Gx l s0 D cI cF cJ) (h h1 h2 A B n : Nat) (f : Nat → Nat) (g : Nat → Int32) (x : Int64) {H0 : Heap} (hP : va_P D vcl [(h, .inr (2, [.int (nI A), .int (nI B), .int (nI n), .ref h1, .ref h2])), (h1, aN cI 256 f), (h2, aI cI 256 g)] H0) (hA : A ≤ 8) (hB1 : 1 ≤ B) (hB : B ≤ 20) (hn : n ≤ 256) (hf : ∀ i, i < n → f i < 2 ^ 28) (hsr : srt f n) : Mx l s0 y_R_holds (.code y_R_holds b_R_holds 5 (some .boolean)) { frames := 2, cells := 0, slots := 0, locals := 46 } [.ref h, .long x] H0 (fun _ => False) (Rd H0 (.int (bI (decide ((lo f (prN A B x) n) < n) && decide (f (lo f (prN A B x) n) = (prN A B x)))))) := by
  refine Mx.ofW (own := "FewBits$Runs") rfl rfl ?_
  rintro p e s m below meth c ⟨hx, hb, hml, hr, hown, hW, hlk⟩ hnm het hH
  have hK := G.k hW
  have hlo := lo_iff (v := (prN A B x)) hsr
  have hll := lo_le f (prN A B x) n
  have hp28 := prN_28 hA hB x
  have hl := lv_entry ([.ref h, .long x]) (n := 5) (Nat.le_of_ble_eq_true rfl)
  rw [lg_entry_eq]
  generalize (lg_sl ([.ref h, .long x]) ++ List.replicate (5 - (lg_sl ([.ref h, .long x])).length) Slot.unset).toArray = ls at hl ⊢
  have hl : lv_has ls 5 [(0, .ref h), (1, .long x)] := hl
  refine lv_aload_n hx hb d_R_holds_0 rfl (lv_at hl 0 rfl) ?_
  refine lv_lload_n hx hb d_R_holds_1 rfl (lv_at hl 1 rfl) ?_
  refine mx_callR (r := .int (nI (prN A B x))) (c_R_pairOf G h h1 h2 A B n f g x hP hA hB1 hB) hW (iv_R_holds_2 G hx hb hown hW (va_recv hK hP (ci := 2) (q0 := 0) rfl rfl) [.long x] [] rfl) hml hl.1 (by rw [hb]; exact d_R_holds_2) (cd_R_pairOf G hW) ⟨Nat.le_of_ble_eq_true rfl, Nat.le_of_ble_eq_true rfl⟩ rfl rfl (Nat.le_of_ble_eq_true rfl) (Nat.le_of_ble_eq_true rfl) (Nat.le_of_ble_eq_true rfl) ?_
  refine lv_istore_n (lv' := [(3, .int (nI (prN A B x))), (0, .ref h), (1, .long x)]) hx hb d_R_holds_5 rfl hl (by decide) rfl (fun ls hl => ?_)
  refine lv_aload_n hx hb d_R_holds_6 rfl (lv_at hl 1 rfl) ?_
  refine lv_iload_n hx hb d_R_holds_7 rfl (lv_at hl 0 rfl) ?_
  refine mx_callR (r := .int (nI (lo f (prN A B x) n))) (c_R_firstNotBelow G h h1 h2 A B n f g (prN A B x) hP hn hf hsr (by omega)) hW (iv_R_holds_8 G hx hb hown hW (va_recv hK hP (ci := 2) (q0 := 0) rfl rfl) [.int (nI (prN A B x))] [] rfl) hml hl.1 (by rw [hb]; exact d_R_holds_8) (cd_R_firstNotBelow G hW) ⟨Nat.le_of_ble_eq_true rfl, Nat.le_of_ble_eq_true rfl⟩ rfl rfl (Nat.le_of_ble_eq_true rfl) (Nat.le_of_ble_eq_true rfl) (Nat.le_of_ble_eq_true rfl) ?_
  refine lv_istore (lv' := [(4, .int (nI (lo f (prN A B x) n))), (3, .int (nI (prN A B x))), (0, .ref h), (1, .long x)]) hx hb d_R_holds_11 hl (by decide) rfl (fun ls hl => ?_)
  refine lv_iload hx hb d_R_holds_13 (lv_at hl 0 rfl) ?_
  refine lv_aload_n hx hb d_R_holds_15 rfl (lv_at hl 2 rfl) ?_
  refine va_get (D := D) (ci := 2) (v := .int (nI n)) (C := R_R) (T := T_R) (N := 5) hx hb (us_R G hW) (fun _ h => h) hown hK hP 0 rfl rfl 2 (by decide) (fl_R_18 G hW) (u_same (args := ([.ref h, .long x] : List Value).toArray) (G.1.at 187 rfl rfl _ hW)) rfl d_R_holds_16 ?_
  refine lv_icmp_ge (tgt := 37) hx hb d_R_holds_19 (by decide) (fun c_19 => ?_) (fun c_19 => ?_)
  · refine lv_iconst (v := (nI 0)) hx hb d_R_holds_37 (by decide) ?_
    exact mx_zret hx hb hr hlk d_R_holds_38 (Nat.le_of_ble_eq_true rfl) (Nat.le_of_ble_eq_true rfl) (fun _ h => nomatch h) (rfl) (⟨by rw [show (decide ((lo f (prN A B x) n) < n) && decide (f (lo f (prN A B x) n) = (prN A B x))) = false from by rw [decide_eq_false (Nat.not_lt.mpr ((nI_leI (by omega) (by omega)).mp c_19))]; rfl]; rfl, rfl⟩)
  · have hlt : (lo f (prN A B x) n) < n := Nat.not_le.mp (fun h9 => c_19 (nI_le h9 (by omega)))
    refine lv_aload_n hx hb d_R_holds_22 rfl (lv_at hl 2 rfl) ?_
    refine va_get (D := D) (ci := 2) (v := .ref h1) (C := R_R) (T := T_R) (N := 5) hx hb (us_R G hW) (fun _ h => h) hown hK hP 0 rfl rfl 3 (by decide) (fl_R_11 G hW) (fun _ h9 => h9) rfl d_R_holds_23 ?_
    refine lv_iload hx hb d_R_holds_26 (lv_at hl 0 rfl) ?_
    refine ia_ld hx hb hK hP 1 (j := (lo f (prN A B x) n)) rfl (by omega) (by decide) d_R_holds_28 ?_
    refine tp_i (y := (nI (f (lo f (prN A B x) n)))) rfl ?_
    refine lv_iload_n hx hb d_R_holds_29 rfl (lv_at hl 1 rfl) ?_
    refine lv_icmp_ne (tgt := 37) hx hb d_R_holds_30 (by decide) (fun c_30 => ?_) (fun c_30 => ?_)
    · refine lv_iconst (v := (nI 0)) hx hb d_R_holds_37 (by decide) ?_
      exact mx_zret hx hb hr hlk d_R_holds_38 (Nat.le_of_ble_eq_true rfl) (Nat.le_of_ble_eq_true rfl) (fun _ h => nomatch h) (rfl) (⟨by rw [show (decide ((lo f (prN A B x) n) < n) && decide (f (lo f (prN A B x) n) = (prN A B x))) = false from by rw [decide_eq_false (show ¬ f (lo f (prN A B x) n) = (prN A B x) from fun h9 => c_30 (congrArg nI h9))]; simp]; rfl, rfl⟩)
    · refine lv_iconst (v := (nI 1)) hx hb d_R_holds_33 (by decide) ?_
      refine lv_goto (tgt := 38) hx hb d_R_holds_34 (by decide) ?_
      exact mx_zret hx hb hr hlk d_R_holds_38 (Nat.le_of_ble_eq_true rfl) (Nat.le_of_ble_eq_true rfl) (fun _ h => nomatch h) (rfl) (⟨by rw [show (decide ((lo f (prN A B x) n) < n) && decide (f (lo f (prN A B x) n) = (prN A B x))) = true from by rw [decide_eq_true hlt, decide_eq_true (show f (lo f (prN A B x) n) = (prN A B x) from (nI_eq (by have := hf _ hlt; omega) (by omega)).mp c_30)]; rfl]; rfl, rfl⟩)

set_option maxHeartbeats 4000000 in
set_option maxRecDepth 100000 in
theorem c_R_take {l : Launch} {s0 : State} {D : va_G} {cI cF cJ : ClassId} (G : Gx l s0 D cI cF cJ) (h h1 h2 A B n : Nat) (f : Nat → Nat) (g : Nat → Int32) (x : Int64) {H0 : Heap} {A0 : Nat → Prop} (hP : va_P D vcl [(h, .inr (2, [.int (nI A), .int (nI B), .int (nI n), .ref h1, .ref h2])), (h1, aN cI 256 f), (h2, aI cI 256 g)] H0) (hD : va_D A0 [(h, .inr (2, [.int (nI A), .int (nI B), .int (nI n), .ref h1, .ref h2])), (h1, aN cI 256 f), (h2, aI cI 256 g)]) (hA : A ≤ 8) (hB1 : 1 ≤ B) (hB : B ≤ 20) (hn : n ≤ 256) (hf : ∀ i, i < n → f i < 2 ^ 28) (hsr : srt f n) : Mx l s0 y_R_take (.code y_R_take b_R_take 5 (some .boolean)) { frames := 2, cells := 0, slots := 0, locals := 46 } [.ref h, .long x] H0 (Aa [h, h1, h2] H0.size) (Rw (.int (bI (decide ((lo f (prN A B x) n) < n) && decide (f (lo f (prN A B x) n) = (prN A B x))))) (fun H1 => va_P D vcl [(h, .inr (2, [.int (nI A), .int (nI B), .int (nI n), .ref h1, .ref h2])), (h1, aN cI 256 (if (decide ((lo f (prN A B x) n) < n) && decide (f (lo f (prN A B x) n) = (prN A B x))) then va_cpy f f ((lo f (prN A B x) n) + 1) (lo f (prN A B x) n) (n - (lo f (prN A B x) n) - 1) else f)), (h2, aI cI 256 g)] H1)) := by
  refine Mx.ofW (own := "FewBits$Runs") rfl rfl ?_
  rintro p e s m below meth c ⟨hx, hb, hml, hr, hown, hW, hlk⟩ hnm het hH
  have hK := G.k hW
  have hD := hD.aa (sz := H0.size)
  have hD : va_D (Aa [h, h1, h2] H0.size) [(h, .inr (2, [.int (nI A), .int (nI B), .int (nI n), .ref h1, .ref h2])), (h1, aN cI 256 f), (h2, aI cI 256 g)] := hD
  have hS : va_S (Aa [h, h1, h2] H0.size) H0 H0 [] := va_S.rf
  have hlo := lo_iff (v := (prN A B x)) hsr
  have hll := lo_le f (prN A B x) n
  have hp28 := prN_28 hA hB x
  have hl := lv_entry ([.ref h, .long x]) (n := 5) (Nat.le_of_ble_eq_true rfl)
  rw [lg_entry_eq]
  generalize (lg_sl ([.ref h, .long x]) ++ List.replicate (5 - (lg_sl ([.ref h, .long x])).length) Slot.unset).toArray = ls at hl ⊢
  have hl : lv_has ls 5 [(0, .ref h), (1, .long x)] := hl
  refine lv_aload_n hx hb d_R_take_0 rfl (lv_at hl 0 rfl) ?_
  refine lv_lload_n hx hb d_R_take_1 rfl (lv_at hl 1 rfl) ?_
  refine mx_callR (r := .int (nI (prN A B x))) (c_R_pairOf G h h1 h2 A B n f g x hP hA hB1 hB) hW (iv_R_take_2 G hx hb hown hW (va_recv hK hP (ci := 2) (q0 := 0) rfl rfl) [.long x] [] rfl) hml hl.1 (by rw [hb]; exact d_R_take_2) (cd_R_pairOf G hW) ⟨Nat.le_of_ble_eq_true rfl, Nat.le_of_ble_eq_true rfl⟩ rfl rfl (Nat.le_of_ble_eq_true rfl) (Nat.le_of_ble_eq_true rfl) (Nat.le_of_ble_eq_true rfl) ?_
  refine lv_istore_n (lv' := [(3, .int (nI (prN A B x))), (0, .ref h), (1, .long x)]) hx hb d_R_take_5 rfl hl (by decide) rfl (fun ls hl => ?_)
  refine lv_aload_n hx hb d_R_take_6 rfl (lv_at hl 1 rfl) ?_
  refine lv_iload_n hx hb d_R_take_7 rfl (lv_at hl 0 rfl) ?_
  refine mx_callR (r := .int (nI (lo f (prN A B x) n))) (c_R_firstNotBelow G h h1 h2 A B n f g (prN A B x) hP hn hf hsr (by omega)) hW (iv_R_take_8 G hx hb hown hW (va_recv hK hP (ci := 2) (q0 := 0) rfl rfl) [.int (nI (prN A B x))] [] rfl) hml hl.1 (by rw [hb]; exact d_R_take_8) (cd_R_firstNotBelow G hW) ⟨Nat.le_of_ble_eq_true rfl, Nat.le_of_ble_eq_true rfl⟩ rfl rfl (Nat.le_of_ble_eq_true rfl) (Nat.le_of_ble_eq_true rfl) (Nat.le_of_ble_eq_true rfl) ?_
  refine lv_istore (lv' := [(4, .int (nI (lo f (prN A B x) n))), (3, .int (nI (prN A B x))), (0, .ref h), (1, .long x)]) hx hb d_R_take_11 hl (by decide) rfl (fun ls hl => ?_)
  refine lv_iload hx hb d_R_take_13 (lv_at hl 0 rfl) ?_
  refine lv_aload_n hx hb d_R_take_15 rfl (lv_at hl 2 rfl) ?_
  refine va_get (D := D) (ci := 2) (v := .int (nI n)) (C := R_R) (T := T_R) (N := 5) hx hb (us_R G hW) (fun _ h => h) hown hK hP 0 rfl rfl 2 (by decide) (fl_R_18 G hW) (u_same (args := ([.ref h, .long x] : List Value).toArray) (G.1.at 187 rfl rfl _ hW)) rfl d_R_take_16 ?_
  refine lv_icmp_ge (tgt := 33) hx hb d_R_take_19 (by decide) (fun c_19 => ?_) (fun c_19 => ?_)
  · refine lv_iconst (v := (nI 0)) hx hb d_R_take_33 (by decide) ?_
    exact mx_zret hx hb hr hlk d_R_take_34 (Nat.le_of_ble_eq_true rfl) (Nat.le_of_ble_eq_true rfl) (fun _ h => nomatch h) (rfl) (⟨by rw [show (decide ((lo f (prN A B x) n) < n) && decide (f (lo f (prN A B x) n) = (prN A B x))) = false from by rw [decide_eq_false (Nat.not_lt.mpr ((nI_leI (by omega) (by omega)).mp c_19))]; rfl]; rfl, by rw [show (decide ((lo f (prN A B x) n) < n) && decide (f (lo f (prN A B x) n) = (prN A B x))) = false from by rw [decide_eq_false (Nat.not_lt.mpr ((nI_leI (by omega) (by omega)).mp c_19))]; rfl]; exact hP⟩)
  · have hlt : (lo f (prN A B x) n) < n := Nat.not_le.mp (fun h9 => c_19 (nI_le h9 (by omega)))
    refine lv_aload_n hx hb d_R_take_22 rfl (lv_at hl 2 rfl) ?_
    refine va_get (D := D) (ci := 2) (v := .ref h1) (C := R_R) (T := T_R) (N := 5) hx hb (us_R G hW) (fun _ h => h) hown hK hP 0 rfl rfl 3 (by decide) (fl_R_11 G hW) (fun _ h9 => h9) rfl d_R_take_23 ?_
    refine lv_iload hx hb d_R_take_26 (lv_at hl 0 rfl) ?_
    refine ia_ld hx hb hK hP 1 (j := (lo f (prN A B x) n)) rfl (by omega) (by decide) d_R_take_28 ?_
    refine tp_i (y := (nI (f (lo f (prN A B x) n)))) rfl ?_
    refine lv_iload_n hx hb d_R_take_29 rfl (lv_at hl 1 rfl) ?_
    refine lv_icmp_eq (tgt := 35) hx hb d_R_take_30 (by decide) (fun c_30 => ?_) (fun c_30 => ?_)
    · refine lv_aload_n hx hb d_R_take_35 rfl (lv_at hl 2 rfl) ?_
      refine va_get (D := D) (ci := 2) (v := .ref h1) (C := R_R) (T := T_R) (N := 5) hx hb (us_R G hW) (fun _ h => h) hown hK hP 0 rfl rfl 3 (by decide) (fl_R_11 G hW) (fun _ h9 => h9) rfl d_R_take_36 ?_
      refine lv_iload hx hb d_R_take_39 (lv_at hl 0 rfl) ?_
      refine lv_iconst (v := (nI 1)) hx hb d_R_take_41 (by decide) ?_
      refine lv_iadd hx hb d_R_take_42 ?_
      refine tp_i (y := (nI ((lo f (prN A B x) n) + 1))) (nI_add _ _) ?_
      refine lv_aload_n hx hb d_R_take_43 rfl (lv_at hl 2 rfl) ?_
      refine va_get (D := D) (ci := 2) (v := .ref h1) (C := R_R) (T := T_R) (N := 5) hx hb (us_R G hW) (fun _ h => h) hown hK hP 0 rfl rfl 3 (by decide) (fl_R_11 G hW) (fun _ h9 => h9) rfl d_R_take_44 ?_
      refine lv_iload hx hb d_R_take_47 (lv_at hl 0 rfl) ?_
      refine lv_aload_n hx hb d_R_take_49 rfl (lv_at hl 2 rfl) ?_
      refine va_get (D := D) (ci := 2) (v := .int (nI n)) (C := R_R) (T := T_R) (N := 5) hx hb (us_R G hW) (fun _ h => h) hown hK hP 0 rfl rfl 2 (by decide) (fl_R_18 G hW) (u_same (args := ([.ref h, .long x] : List Value).toArray) (G.1.at 187 rfl rfl _ hW)) rfl d_R_take_50 ?_
      refine lv_iload hx hb d_R_take_53 (lv_at hl 0 rfl) ?_
      refine lv_isub hx hb d_R_take_55 ?_
      refine tp_i (y := (nI (n - (lo f (prN A B x) n)))) (pk_sub (by omega)) ?_
      refine lv_iconst (v := (nI 1)) hx hb d_R_take_56 (by decide) ?_
      refine lv_isub hx hb d_R_take_57 ?_
      refine tp_i (y := (nI (n - (lo f (prN A B x) n) - 1))) (pk_sub (by omega)) ?_
      refine ia_copy (sp := ((lo f (prN A B x) n) + 1)) (dp := (lo f (prN A B x) n)) (n := (n - (lo f (prN A B x) n) - 1)) hx hb (hml.trans hl.1.symm) hown (G.1.at 385 rfl rfl _ hW) (G.1.at 387 rfl rfl _ hW) (G.1.at 386 rfl rfl _ hW) (G.1.at 14 rfl rfl _ hW) hK hP hD hS 1 (f := f) rfl (by decide) (by omega) (by omega) (Nat.le_of_ble_eq_true rfl) (by decide +kernel) d_R_take_58 (fun H locs hP hD hS => ?_)
      have hP : va_P D vcl [(h, .inr (2, [.int (nI A), .int (nI B), .int (nI n), .ref h1, .ref h2])), (h1, aN cI 256 (va_cpy f f ((lo f (prN A B x) n) + 1) (lo f (prN A B x) n) (n - (lo f (prN A B x) n) - 1))), (h2, aI cI 256 g)] H := hP
      have hD : va_D (Aa [h, h1, h2] H0.size) [(h, .inr (2, [.int (nI A), .int (nI B), .int (nI n), .ref h1, .ref h2])), (h1, aN cI 256 (va_cpy f f ((lo f (prN A B x) n) + 1) (lo f (prN A B x) n) (n - (lo f (prN A B x) n) - 1))), (h2, aI cI 256 g)] := hD
      refine lv_iconst (v := (nI 1)) hx hb d_R_take_61 (by decide) ?_
      exact mx_zret hx hb hr hlk d_R_take_62 (Nat.le_of_ble_eq_true rfl) (Nat.le_of_ble_eq_true rfl) hS.2.2 (rfl) (⟨by rw [show (decide ((lo f (prN A B x) n) < n) && decide (f (lo f (prN A B x) n) = (prN A B x))) = true from by rw [decide_eq_true hlt, decide_eq_true (show f (lo f (prN A B x) n) = (prN A B x) from (nI_eq (by have := hf _ hlt; omega) (by omega)).mp c_30)]; rfl]; rfl, by rw [show (decide ((lo f (prN A B x) n) < n) && decide (f (lo f (prN A B x) n) = (prN A B x))) = true from by rw [decide_eq_true hlt, decide_eq_true (show f (lo f (prN A B x) n) = (prN A B x) from (nI_eq (by have := hf _ hlt; omega) (by omega)).mp c_30)]; rfl]; exact hP⟩)
    · refine lv_iconst (v := (nI 0)) hx hb d_R_take_33 (by decide) ?_
      exact mx_zret hx hb hr hlk d_R_take_34 (Nat.le_of_ble_eq_true rfl) (Nat.le_of_ble_eq_true rfl) (fun _ h => nomatch h) (rfl) (⟨by rw [show (decide ((lo f (prN A B x) n) < n) && decide (f (lo f (prN A B x) n) = (prN A B x))) = false from by rw [decide_eq_false (show ¬ f (lo f (prN A B x) n) = (prN A B x) from fun h9 => c_30 (congrArg nI h9))]; simp]; rfl, by rw [show (decide ((lo f (prN A B x) n) < n) && decide (f (lo f (prN A B x) n) = (prN A B x))) = false from by rw [decide_eq_false (show ¬ f (lo f (prN A B x) n) = (prN A B x) from fun h9 => c_30 (congrArg nI h9))]; simp]; exact hP⟩)

set_option maxHeartbeats 4000000 in
set_option maxRecDepth 100000 in
theorem c_R_put {l : Launch} {s0 : State} {D : va_G} {cI cF cJ : ClassId} (G : Gx l s0 D cI cF cJ) (h h1 h2 A B n : Nat) (f : Nat → Nat) (g : Nat → Int32) (x : Int64) {H0 : Heap} {A0 : Nat → Prop} (hP : va_P D vcl [(h, .inr (2, [.int (nI A), .int (nI B), .int (nI n), .ref h1, .ref h2])), (h1, aN cI 256 f), (h2, aI cI 256 g)] H0) (hD : va_D A0 [(h, .inr (2, [.int (nI A), .int (nI B), .int (nI n), .ref h1, .ref h2])), (h1, aN cI 256 f), (h2, aI cI 256 g)]) (hA : A ≤ 8) (hB1 : 1 ≤ B) (hB : B ≤ 20) (hn : n ≤ 256) (hf : ∀ i, i < n → f i < 2 ^ 28) (hsr : srt f n) : Mx l s0 y_R_put (.code y_R_put b_R_put 5 (some .boolean)) { frames := 2, cells := 0, slots := 0, locals := 46 } [.ref h, .long x] H0 (Aa [h, h1, h2] H0.size) (Rw (.int (bI (decide (n < 2 ^ A)))) (fun H1 => va_P D vcl [(h, .inr (2, [.int (nI A), .int (nI B), .int (nI n), .ref h1, .ref h2])), (h1, aN cI 256 (if n < 2 ^ A then va_up (va_cpy f f (lo f (prN A B x) n) ((lo f (prN A B x) n) + 1) (n - (lo f (prN A B x) n))) (lo f (prN A B x) n) (prN A B x) else f)), (h2, aI cI 256 g)] H1)) := by
  refine Mx.ofW (own := "FewBits$Runs") rfl rfl ?_
  rintro p e s m below meth c ⟨hx, hb, hml, hr, hown, hW, hlk⟩ hnm het hH
  have hK := G.k hW
  have hD := hD.aa (sz := H0.size)
  have hD : va_D (Aa [h, h1, h2] H0.size) [(h, .inr (2, [.int (nI A), .int (nI B), .int (nI n), .ref h1, .ref h2])), (h1, aN cI 256 f), (h2, aI cI 256 g)] := hD
  have hS : va_S (Aa [h, h1, h2] H0.size) H0 H0 [] := va_S.rf
  have h8 := p2_le hA
  have hlo := lo_iff (v := (prN A B x)) hsr
  have hll := lo_le f (prN A B x) n
  have hp28 := prN_28 hA hB x
  have hl := lv_entry ([.ref h, .long x]) (n := 5) (Nat.le_of_ble_eq_true rfl)
  rw [lg_entry_eq]
  generalize (lg_sl ([.ref h, .long x]) ++ List.replicate (5 - (lg_sl ([.ref h, .long x])).length) Slot.unset).toArray = ls at hl ⊢
  have hl : lv_has ls 5 [(0, .ref h), (1, .long x)] := hl
  refine lv_aload_n hx hb d_R_put_0 rfl (lv_at hl 0 rfl) ?_
  refine va_get (D := D) (ci := 2) (v := .int (nI n)) (C := R_R) (T := T_R) (N := 5) hx hb (us_R G hW) (fun _ h => h) hown hK hP 0 rfl rfl 2 (by decide) (fl_R_18 G hW) (u_same (args := ([.ref h, .long x] : List Value).toArray) (G.1.at 187 rfl rfl _ hW)) rfl d_R_put_1 ?_
  refine lv_aload_n hx hb d_R_put_4 rfl (lv_at hl 0 rfl) ?_
  refine mx_callR (r := .int (nI (2 ^ A))) (c_P_power_R G h h1 h2 A B n f g hP hA) hW (iv_R_put_5 G hx hb hown hW (va_recv hK hP (ci := 2) (q0 := 0) rfl rfl) [] [.int (nI n)] rfl) hml hl.1 (by rw [hb]; exact d_R_put_5) (cd_P_power G hW) ⟨Nat.le_of_ble_eq_true rfl, Nat.le_of_ble_eq_true rfl⟩ rfl rfl (Nat.le_of_ble_eq_true rfl) (Nat.le_of_ble_eq_true rfl) (Nat.le_of_ble_eq_true rfl) ?_
  refine lv_icmp_lt (tgt := 13) hx hb d_R_put_8 (by decide) (fun c_8 => ?_) (fun c_8 => ?_)
  · have hlt := (nI_ltI (by omega) (by omega)).mp c_8
    refine lv_aload_n hx hb d_R_put_13 rfl (lv_at hl 0 rfl) ?_
    refine lv_lload_n hx hb d_R_put_14 rfl (lv_at hl 1 rfl) ?_
    refine mx_callR (r := .int (nI (prN A B x))) (c_R_pairOf G h h1 h2 A B n f g x hP hA hB1 hB) hW (iv_R_put_15 G hx hb hown hW (va_recv hK hP (ci := 2) (q0 := 0) rfl rfl) [.long x] [] rfl) hml hl.1 (by rw [hb]; exact d_R_put_15) (cd_R_pairOf G hW) ⟨Nat.le_of_ble_eq_true rfl, Nat.le_of_ble_eq_true rfl⟩ rfl rfl (Nat.le_of_ble_eq_true rfl) (Nat.le_of_ble_eq_true rfl) (Nat.le_of_ble_eq_true rfl) ?_
    refine lv_istore_n (lv' := [(3, .int (nI (prN A B x))), (0, .ref h), (1, .long x)]) hx hb d_R_put_18 rfl hl (by decide) rfl (fun ls hl => ?_)
    refine lv_aload_n hx hb d_R_put_19 rfl (lv_at hl 1 rfl) ?_
    refine lv_iload_n hx hb d_R_put_20 rfl (lv_at hl 0 rfl) ?_
    refine mx_callR (r := .int (nI (lo f (prN A B x) n))) (c_R_firstNotBelow G h h1 h2 A B n f g (prN A B x) hP hn hf hsr (by omega)) hW (iv_R_put_21 G hx hb hown hW (va_recv hK hP (ci := 2) (q0 := 0) rfl rfl) [.int (nI (prN A B x))] [] rfl) hml hl.1 (by rw [hb]; exact d_R_put_21) (cd_R_firstNotBelow G hW) ⟨Nat.le_of_ble_eq_true rfl, Nat.le_of_ble_eq_true rfl⟩ rfl rfl (Nat.le_of_ble_eq_true rfl) (Nat.le_of_ble_eq_true rfl) (Nat.le_of_ble_eq_true rfl) ?_
    refine lv_istore (lv' := [(4, .int (nI (lo f (prN A B x) n))), (3, .int (nI (prN A B x))), (0, .ref h), (1, .long x)]) hx hb d_R_put_24 hl (by decide) rfl (fun ls hl => ?_)
    refine lv_aload_n hx hb d_R_put_26 rfl (lv_at hl 2 rfl) ?_
    refine va_get (D := D) (ci := 2) (v := .ref h1) (C := R_R) (T := T_R) (N := 5) hx hb (us_R G hW) (fun _ h => h) hown hK hP 0 rfl rfl 3 (by decide) (fl_R_11 G hW) (fun _ h9 => h9) rfl d_R_put_27 ?_
    refine lv_iload hx hb d_R_put_30 (lv_at hl 0 rfl) ?_
    refine lv_aload_n hx hb d_R_put_32 rfl (lv_at hl 2 rfl) ?_
    refine va_get (D := D) (ci := 2) (v := .ref h1) (C := R_R) (T := T_R) (N := 5) hx hb (us_R G hW) (fun _ h => h) hown hK hP 0 rfl rfl 3 (by decide) (fl_R_11 G hW) (fun _ h9 => h9) rfl d_R_put_33 ?_
    refine lv_iload hx hb d_R_put_36 (lv_at hl 0 rfl) ?_
    refine lv_iconst (v := (nI 1)) hx hb d_R_put_38 (by decide) ?_
    refine lv_iadd hx hb d_R_put_39 ?_
    refine tp_i (y := (nI ((lo f (prN A B x) n) + 1))) (nI_add _ _) ?_
    refine lv_aload_n hx hb d_R_put_40 rfl (lv_at hl 2 rfl) ?_
    refine va_get (D := D) (ci := 2) (v := .int (nI n)) (C := R_R) (T := T_R) (N := 5) hx hb (us_R G hW) (fun _ h => h) hown hK hP 0 rfl rfl 2 (by decide) (fl_R_18 G hW) (u_same (args := ([.ref h, .long x] : List Value).toArray) (G.1.at 187 rfl rfl _ hW)) rfl d_R_put_41 ?_
    refine lv_iload hx hb d_R_put_44 (lv_at hl 0 rfl) ?_
    refine lv_isub hx hb d_R_put_46 ?_
    refine tp_i (y := (nI (n - (lo f (prN A B x) n)))) (pk_sub (by omega)) ?_
    refine ia_copy (sp := (lo f (prN A B x) n)) (dp := ((lo f (prN A B x) n) + 1)) (n := (n - (lo f (prN A B x) n))) hx hb (hml.trans hl.1.symm) hown (G.1.at 385 rfl rfl _ hW) (G.1.at 387 rfl rfl _ hW) (G.1.at 386 rfl rfl _ hW) (G.1.at 14 rfl rfl _ hW) hK hP hD hS 1 (f := f) rfl (by decide) (by omega) (by omega) (Nat.le_of_ble_eq_true rfl) (by decide +kernel) d_R_put_47 (fun H locs hP hD hS => ?_)
    have hP : va_P D vcl [(h, .inr (2, [.int (nI A), .int (nI B), .int (nI n), .ref h1, .ref h2])), (h1, aN cI 256 (va_cpy f f (lo f (prN A B x) n) ((lo f (prN A B x) n) + 1) (n - (lo f (prN A B x) n)))), (h2, aI cI 256 g)] H := hP
    have hD : va_D (Aa [h, h1, h2] H0.size) [(h, .inr (2, [.int (nI A), .int (nI B), .int (nI n), .ref h1, .ref h2])), (h1, aN cI 256 (va_cpy f f (lo f (prN A B x) n) ((lo f (prN A B x) n) + 1) (n - (lo f (prN A B x) n)))), (h2, aI cI 256 g)] := hD
    refine lv_aload_n hx hb d_R_put_50 rfl (lv_at hl 2 rfl) ?_
    refine va_get (D := D) (ci := 2) (v := .ref h1) (C := R_R) (T := T_R) (N := 5) hx hb (us_R G hW) (fun _ h => h) hown hK hP 0 rfl rfl 3 (by decide) (fl_R_11 G hW) (fun _ h9 => h9) rfl d_R_put_51 ?_
    refine lv_iload hx hb d_R_put_54 (lv_at hl 0 rfl) ?_
    refine lv_iload_n hx hb d_R_put_56 rfl (lv_at hl 1 rfl) ?_
    refine ia_stN hx hb hK hP hD hS 1 (j := (lo f (prN A B x) n)) (x := (prN A B x)) (f := (va_cpy f f (lo f (prN A B x) n) ((lo f (prN A B x) n) + 1) (n - (lo f (prN A B x) n)))) rfl (by omega) (by decide) d_R_put_57 (fun H locs hP hD hS => ?_)
    have hP : va_P D vcl [(h, .inr (2, [.int (nI A), .int (nI B), .int (nI n), .ref h1, .ref h2])), (h1, aN cI 256 (va_up (va_cpy f f (lo f (prN A B x) n) ((lo f (prN A B x) n) + 1) (n - (lo f (prN A B x) n))) (lo f (prN A B x) n) (prN A B x))), (h2, aI cI 256 g)] H := hP
    have hD : va_D (Aa [h, h1, h2] H0.size) [(h, .inr (2, [.int (nI A), .int (nI B), .int (nI n), .ref h1, .ref h2])), (h1, aN cI 256 (va_up (va_cpy f f (lo f (prN A B x) n) ((lo f (prN A B x) n) + 1) (n - (lo f (prN A B x) n))) (lo f (prN A B x) n) (prN A B x))), (h2, aI cI 256 g)] := hD
    refine lv_iconst (v := (nI 1)) hx hb d_R_put_58 (by decide) ?_
    exact mx_zret hx hb hr hlk d_R_put_59 (Nat.le_of_ble_eq_true rfl) (Nat.le_of_ble_eq_true rfl) hS.2.2 (rfl) (⟨by rw [decide_eq_true hlt]; rfl, by rw [if_pos hlt]; exact hP⟩)
  · refine lv_iconst (v := (nI 0)) hx hb d_R_put_11 (by decide) ?_
    exact mx_zret hx hb hr hlk d_R_put_12 (Nat.le_of_ble_eq_true rfl) (Nat.le_of_ble_eq_true rfl) (fun _ h => nomatch h) (rfl) (⟨by rw [decide_eq_false (fun h9 => c_8 (nI_lt h9 (by omega)))]; rfl, by rw [if_neg (fun h9 => c_8 (nI_lt h9 (by omega)))]; exact hP⟩)

set_option maxHeartbeats 4000000 in
set_option maxRecDepth 100000 in
theorem c_R_strain {l : Launch} {s0 : State} {D : va_G} {cI cF cJ : ClassId} (G : Gx l s0 D cI cF cJ) (h h1 h2 A B n : Nat) (f : Nat → Nat) (g : Nat → Int32) {H0 : Heap} {A0 : Nat → Prop} (hP : va_P D vcl [(h, .inr (2, [.int (nI A), .int (nI B), .int (nI n), .ref h1, .ref h2])), (h1, aN cI 256 f), (h2, aI cI 256 g)] H0) (hD : va_D A0 [(h, .inr (2, [.int (nI A), .int (nI B), .int (nI n), .ref h1, .ref h2])), (h1, aN cI 256 f), (h2, aI cI 256 g)]) (hA : A ≤ 8) (hB1 : 1 ≤ B) (hB : B ≤ 20) (hn : n ≤ 256) (hf : ∀ i, i < n → f i < 2 ^ 28) (hfq : ∀ i, i < n → f i < 256 * 2 ^ B) : Mx l s0 y_R_strain (.code y_R_strain b_R_strain 4 (some .int)) { frames := 3, cells := 0, slots := 0, locals := 66 } [.ref h] H0 (Aa [h, h1, h2] H0.size) (Rw (.int (nI (if 2 ^ A < lngN (cirF f A B n) (2 ^ A) (2 * 2 ^ A) then 2 ^ A else lngN (cirF f A B n) (2 ^ A) (2 * 2 ^ A)))) (fun H1 => va_P D vcl [(h, .inr (2, [.int (nI A), .int (nI B), .int (nI n), .ref h1, .ref h2])), (h1, aN cI 256 f), (h2, aI cI 256 (fun z => oI (cirF f A B n z)))] H1)) := by
  refine Mx.ofW (own := "FewBits$Runs") rfl rfl ?_
  rintro p e s m below meth c ⟨hx, hb, hml, hr, hown, hW, hlk⟩ hnm het hH
  have hK := G.k hW
  have hD := hD.aa (sz := H0.size)
  have hD : va_D (Aa [h, h1, h2] H0.size) [(h, .inr (2, [.int (nI A), .int (nI B), .int (nI n), .ref h1, .ref h2])), (h1, aN cI 256 f), (h2, aI cI 256 g)] := hD
  have hS : va_S (Aa [h, h1, h2] H0.size) H0 H0 [] := va_S.rf
  have h8 := p2_le hA
  have hl := lv_entry ([.ref h]) (n := 4) (Nat.le_of_ble_eq_true rfl)
  rw [lg_entry_eq]
  generalize (lg_sl ([.ref h]) ++ List.replicate (4 - (lg_sl ([.ref h])).length) Slot.unset).toArray = ls at hl ⊢
  have hl : lv_has ls 4 [(0, .ref h)] := hl
  refine lv_aload_n hx hb d_R_strain_0 rfl (lv_at hl 0 rfl) ?_
  refine mx_callN (c_R_layOut G h h1 h2 A B n f g hP hD hA hB1 hB hn hf hfq) hW (iv_R_strain_1 G hx hb hown hW (va_recv hK hP (ci := 2) (q0 := 0) rfl rfl) [] [] rfl) hml hl.1 (by rw [hb]; exact d_R_strain_1) (cd_R_layOut G hW) ⟨Nat.le_of_ble_eq_true rfl, Nat.le_of_ble_eq_true rfl⟩ (Nat.le_of_ble_eq_true rfl) (Nat.le_of_ble_eq_true rfl) (Nat.le_of_ble_eq_true rfl) hS (Aa.mono (fun _ h => h) hS.1) (fun H locs hP _ _ hS => ?_)
  have hP : va_P D vcl [(h, .inr (2, [.int (nI A), .int (nI B), .int (nI n), .ref h1, .ref h2])), (h1, aN cI 256 f), (h2, aI cI 256 (fun z => oI (cirF f A B n z)))] H := hP
  have hD : va_D (Aa [h, h1, h2] H0.size) [(h, .inr (2, [.int (nI A), .int (nI B), .int (nI n), .ref h1, .ref h2])), (h1, aN cI 256 f), (h2, aI cI 256 (fun z => oI (cirF f A B n z)))] := va_D.same2 [h, h1, h2] hD rfl rfl
  refine lv_iconst (v := (nI 0)) hx hb d_R_strain_4 (by decide) ?_
  refine lv_istore_n (lv' := [(1, .int (nI 0)), (0, .ref h)]) hx hb d_R_strain_5 rfl hl (by decide) rfl (fun ls hl => ?_)
  refine lv_iconst (v := (nI 0)) hx hb d_R_strain_6 (by decide) ?_
  refine lv_istore_n (lv' := [(2, .int (nI 0)), (1, .int (nI 0)), (0, .ref h)]) hx hb d_R_strain_7 rfl hl (by decide) rfl (fun ls hl => ?_)
  refine lv_iconst (v := (nI 0)) hx hb d_R_strain_8 (by decide) ?_
  refine lv_istore_n (lv' := [(3, .int (nI 0)), (2, .int (nI 0)), (1, .int (nI 0)), (0, .ref h)]) hx hb d_R_strain_9 rfl hl (by decide) rfl (fun ls hl => ?_)
  have loop_10 : ∀ (k : Nat) (i : Nat) (t : Nat) (u : Nat), (i + k = 2 * 2 ^ A) → (t = (lngN (cirF f A B n) (2 ^ A) i)) → (u = (rowN (cirF f A B n) (2 ^ A) i)) → ∀ (ls : Array Slot), lv_has ls 4 [(3, .int (nI i)), (2, .int (nI u)), (1, .int (nI t)), (0, .ref h)] → W p l e { frames := 3, cells := 0, slots := 0, locals := 66 } s m ([.ref h] : List Value).toArray below meth c H locs 0 0 (MQx below (Rw (.int (nI (if 2 ^ A < lngN (cirF f A B n) (2 ^ A) (2 * 2 ^ A) then 2 ^ A else lngN (cirF f A B n) (2 ^ A) (2 * 2 ^ A)))) (fun H1 => va_P D vcl [(h, .inr (2, [.int (nI A), .int (nI B), .int (nI n), .ref h1, .ref h2])), (h1, aN cI 256 f), (h2, aI cI 256 (fun z => oI (cirF f A B n z)))] H1)) s 0 0 (Aa [h, h1, h2] H0.size)) (F0 m 10 ls []) := by
    intro k
    induction k with
    | zero =>
      intro i t u hk ht hu  ls hl
      refine lv_iload_n hx hb d_R_strain_10 rfl (lv_at hl 0 rfl) ?_
      refine lv_iconst (v := (nI 2)) hx hb d_R_strain_11 (by decide) ?_
      refine lv_aload_n hx hb d_R_strain_12 rfl (lv_at hl 3 rfl) ?_
      refine mx_callR (r := .int (nI (2 ^ A))) (c_P_power_R G h h1 h2 A B n f (fun z => oI (cirF f A B n z)) hP hA) hW (iv_R_strain_13 G hx hb hown hW (va_recv hK hP (ci := 2) (q0 := 0) rfl rfl) [] [.int (nI 2), .int (nI i)] rfl) hml hl.1 (by rw [hb]; exact d_R_strain_13) (cd_P_power G hW) ⟨Nat.le_of_ble_eq_true rfl, Nat.le_of_ble_eq_true rfl⟩ rfl rfl (Nat.le_of_ble_eq_true rfl) (Nat.le_of_ble_eq_true rfl) (Nat.le_of_ble_eq_true rfl) ?_
      refine lv_imul hx hb d_R_strain_16 ?_
      refine tp_i (y := (nI (2 * 2 ^ A))) (pk_mul _ _) ?_
      refine lv_icmp_ge (tgt := 57) hx hb d_R_strain_17 (by decide) (fun c_17 => ?_) (fun c_17 => absurd (nI_le (by omega) (by omega)) c_17)
      refine lv_iload_n hx hb d_R_strain_57 rfl (lv_at hl 2 rfl) ?_
      refine lv_aload_n hx hb d_R_strain_58 rfl (lv_at hl 3 rfl) ?_
      refine mx_callR (r := .int (nI (2 ^ A))) (c_P_power_R G h h1 h2 A B n f (fun z => oI (cirF f A B n z)) hP hA) hW (iv_R_strain_59 G hx hb hown hW (va_recv hK hP (ci := 2) (q0 := 0) rfl rfl) [] [.int (nI t)] rfl) hml hl.1 (by rw [hb]; exact d_R_strain_59) (cd_P_power G hW) ⟨Nat.le_of_ble_eq_true rfl, Nat.le_of_ble_eq_true rfl⟩ rfl rfl (Nat.le_of_ble_eq_true rfl) (Nat.le_of_ble_eq_true rfl) (Nat.le_of_ble_eq_true rfl) ?_
      refine va_mmin hx hb (hml.trans hl.1.symm) hown (G.1.at 567 rfl rfl _ hW) (G.1.at 568 rfl rfl _ hW) (G.1.at 17 rfl rfl _ hW) (G.1.at 569 rfl rfl _ hW) (Nat.le_of_ble_eq_true rfl) (Nat.le_of_ble_eq_true rfl) (Nat.le_of_ble_eq_true rfl) (Nat.le_of_ble_eq_true rfl) d_R_strain_62 ?_
      refine tp_i (y := (nI (if 2 ^ A < lngN (cirF f A B n) (2 ^ A) (2 * 2 ^ A) then 2 ^ A else lngN (cirF f A B n) (2 ^ A) (2 * 2 ^ A)))) (by subst ht; rw [show i = 2 * 2 ^ A by omega]; exact if_nI2 (by have := lngN_le (cirF f A B n) (2 ^ A) (2 * 2 ^ A); omega) (by omega)) ?_
      exact mx_iret hx hb hr hlk d_R_strain_65 (Nat.le_of_ble_eq_true rfl) (Nat.le_of_ble_eq_true rfl) hS.2.2 (⟨rfl, hP⟩)
    | succ k ih_10 =>
      intro i t u hk ht hu  ls hl
      refine lv_iload_n hx hb d_R_strain_10 rfl (lv_at hl 0 rfl) ?_
      refine lv_iconst (v := (nI 2)) hx hb d_R_strain_11 (by decide) ?_
      refine lv_aload_n hx hb d_R_strain_12 rfl (lv_at hl 3 rfl) ?_
      refine mx_callR (r := .int (nI (2 ^ A))) (c_P_power_R G h h1 h2 A B n f (fun z => oI (cirF f A B n z)) hP hA) hW (iv_R_strain_13 G hx hb hown hW (va_recv hK hP (ci := 2) (q0 := 0) rfl rfl) [] [.int (nI 2), .int (nI i)] rfl) hml hl.1 (by rw [hb]; exact d_R_strain_13) (cd_P_power G hW) ⟨Nat.le_of_ble_eq_true rfl, Nat.le_of_ble_eq_true rfl⟩ rfl rfl (Nat.le_of_ble_eq_true rfl) (Nat.le_of_ble_eq_true rfl) (Nat.le_of_ble_eq_true rfl) ?_
      refine lv_imul hx hb d_R_strain_16 ?_
      refine tp_i (y := (nI (2 * 2 ^ A))) (pk_mul _ _) ?_
      refine lv_icmp_ge (tgt := 57) hx hb d_R_strain_17 (by decide) (fun c_17 => absurd c_17 (nI_ge (by omega) (by omega))) (fun c_17 => ?_)
      refine lv_aload_n hx hb d_R_strain_20 rfl (lv_at hl 3 rfl) ?_
      refine va_get (D := D) (ci := 2) (v := .ref h2) (C := R_R) (T := T_R) (N := 5) hx hb (us_R G hW) (fun _ h => h) hown hK hP 0 rfl rfl 4 (by decide) (fl_R_15 G hW) (fun _ h9 => h9) rfl d_R_strain_21 ?_
      refine lv_iload_n hx hb d_R_strain_24 rfl (lv_at hl 0 rfl) ?_
      refine lv_aload_n hx hb d_R_strain_25 rfl (lv_at hl 3 rfl) ?_
      refine mx_callR (r := .int (nI (2 ^ A))) (c_P_power_R G h h1 h2 A B n f (fun z => oI (cirF f A B n z)) hP hA) hW (iv_R_strain_26 G hx hb hown hW (va_recv hK hP (ci := 2) (q0 := 0) rfl rfl) [] [.int (nI i), .ref h2] rfl) hml hl.1 (by rw [hb]; exact d_R_strain_26) (cd_P_power G hW) ⟨Nat.le_of_ble_eq_true rfl, Nat.le_of_ble_eq_true rfl⟩ rfl rfl (Nat.le_of_ble_eq_true rfl) (Nat.le_of_ble_eq_true rfl) (Nat.le_of_ble_eq_true rfl) ?_
      refine lv_iconst (v := (nI 1)) hx hb d_R_strain_29 (by decide) ?_
      refine lv_isub hx hb d_R_strain_30 ?_
      refine lv_iand hx hb d_R_strain_31 ?_
      refine tp_i (y := (nI (i % 2 ^ A))) (msk_B (by omega) (by omega)) ?_
      refine ia_ld hx hb hK hP 2 (j := (i % 2 ^ A)) rfl (Nat.lt_of_lt_of_le (Nat.mod_lt _ (Nat.two_pow_pos A)) (by omega)) (by decide) d_R_strain_32 ?_
      refine tp_i (y := (oI (cirF f A B n (i % 2 ^ A)))) rfl ?_
      refine lv_iconst (v := (-1)) hx hb d_R_strain_33 (by decide) ?_
      refine lv_icmp_ne (tgt := 41) hx hb d_R_strain_34 (by decide) (fun c_34 => ?_) (fun c_34 => ?_)
      · refine lv_iload_n hx hb d_R_strain_41 rfl (lv_at hl 1 rfl) ?_
        refine lv_iconst (v := (nI 1)) hx hb d_R_strain_42 (by decide) ?_
        refine lv_iadd hx hb d_R_strain_43 ?_
        refine tp_i (y := (nI (rowN (cirF f A B n) (2 ^ A) (i + 1)))) (by obtain ⟨j, hj⟩ := oI_some c_34; rw [rowN_s hj, hu, nI_add]) ?_
        refine lv_istore_n (lv' := [(2, .int (nI (rowN (cirF f A B n) (2 ^ A) (i + 1)))), (3, .int (nI i)), (1, .int (nI t)), (0, .ref h)]) hx hb d_R_strain_44 rfl hl (by decide) rfl (fun ls hl => ?_)
        refine lv_iload_n hx hb d_R_strain_45 rfl (lv_at hl 2 rfl) ?_
        refine lv_iload_n hx hb d_R_strain_46 rfl (lv_at hl 0 rfl) ?_
        refine va_mmax hx hb (hml.trans hl.1.symm) hown (G.1.at 566 rfl rfl _ hW) (G.1.at 548 rfl rfl _ hW) (G.1.at 17 rfl rfl _ hW) (G.1.at 549 rfl rfl _ hW) (Nat.le_of_ble_eq_true rfl) (Nat.le_of_ble_eq_true rfl) (Nat.le_of_ble_eq_true rfl) (Nat.le_of_ble_eq_true rfl) d_R_strain_47 ?_
        refine tp_i (y := (nI (lngN (cirF f A B n) (2 ^ A) (i + 1)))) (by subst ht; exact if_nI (by have := lngN_le (cirF f A B n) (2 ^ A) i; omega) (by have := rowN_le (cirF f A B n) (2 ^ A) (i + 1); omega)) ?_
        refine lv_istore_n (lv' := [(1, .int (nI (lngN (cirF f A B n) (2 ^ A) (i + 1)))), (2, .int (nI (rowN (cirF f A B n) (2 ^ A) (i + 1)))), (3, .int (nI i)), (0, .ref h)]) hx hb d_R_strain_50 rfl hl (by decide) rfl (fun ls hl => ?_)
        refine lv_iinc (v := (nI (i + 1))) (lv' := [(3, .int (nI (i + 1))), (1, .int (nI (lngN (cirF f A B n) (2 ^ A) (i + 1)))), (2, .int (nI (rowN (cirF f A B n) (2 ^ A) (i + 1)))), (0, .ref h)]) hx hb d_R_strain_51 hl (k := 2) rfl (nI_1 _) (by decide) rfl (fun ls hl => ?_)
        refine lv_goto (tgt := 10) hx hb d_R_strain_54 (by decide) ?_
        exact ih_10 (i + 1) ((lngN (cirF f A B n) (2 ^ A) (i + 1))) ((rowN (cirF f A B n) (2 ^ A) (i + 1))) (by omega) (rfl) (rfl) ls (lv_sub hl [0, 2, 1, 3] rfl)
      · refine lv_iconst (v := (nI 0)) hx hb d_R_strain_37 (by decide) ?_
        refine tp_i (y := (nI (rowN (cirF f A B n) (2 ^ A) (i + 1)))) (by rw [rowN_n (oI_none (fun j hj => by have := cirN_lt hj; omega) c_34)]) ?_
        refine lv_goto (tgt := 44) hx hb d_R_strain_38 (by decide) ?_
        refine lv_istore_n (lv' := [(2, .int (nI (rowN (cirF f A B n) (2 ^ A) (i + 1)))), (3, .int (nI i)), (1, .int (nI t)), (0, .ref h)]) hx hb d_R_strain_44 rfl hl (by decide) rfl (fun ls hl => ?_)
        refine lv_iload_n hx hb d_R_strain_45 rfl (lv_at hl 2 rfl) ?_
        refine lv_iload_n hx hb d_R_strain_46 rfl (lv_at hl 0 rfl) ?_
        refine va_mmax hx hb (hml.trans hl.1.symm) hown (G.1.at 566 rfl rfl _ hW) (G.1.at 548 rfl rfl _ hW) (G.1.at 17 rfl rfl _ hW) (G.1.at 549 rfl rfl _ hW) (Nat.le_of_ble_eq_true rfl) (Nat.le_of_ble_eq_true rfl) (Nat.le_of_ble_eq_true rfl) (Nat.le_of_ble_eq_true rfl) d_R_strain_47 ?_
        refine tp_i (y := (nI (lngN (cirF f A B n) (2 ^ A) (i + 1)))) (by subst ht; exact if_nI (by have := lngN_le (cirF f A B n) (2 ^ A) i; omega) (by have := rowN_le (cirF f A B n) (2 ^ A) (i + 1); omega)) ?_
        refine lv_istore_n (lv' := [(1, .int (nI (lngN (cirF f A B n) (2 ^ A) (i + 1)))), (2, .int (nI (rowN (cirF f A B n) (2 ^ A) (i + 1)))), (3, .int (nI i)), (0, .ref h)]) hx hb d_R_strain_50 rfl hl (by decide) rfl (fun ls hl => ?_)
        refine lv_iinc (v := (nI (i + 1))) (lv' := [(3, .int (nI (i + 1))), (1, .int (nI (lngN (cirF f A B n) (2 ^ A) (i + 1)))), (2, .int (nI (rowN (cirF f A B n) (2 ^ A) (i + 1)))), (0, .ref h)]) hx hb d_R_strain_51 hl (k := 2) rfl (nI_1 _) (by decide) rfl (fun ls hl => ?_)
        refine lv_goto (tgt := 10) hx hb d_R_strain_54 (by decide) ?_
        exact ih_10 (i + 1) ((lngN (cirF f A B n) (2 ^ A) (i + 1))) ((rowN (cirF f A B n) (2 ^ A) (i + 1))) (by omega) (rfl) (rfl) ls (lv_sub hl [0, 2, 1, 3] rfl)
  exact loop_10 (2 * 2 ^ A) (0) (0) (0) (by omega) (rfl) (rfl) ls (lv_sub hl [0, 1, 2, 3] rfl)

set_option maxHeartbeats 4000000 in
set_option maxRecDepth 100000 in
theorem c_R_moveOneBit {l : Launch} {s0 : State} {D : va_G} {cI cF cJ : ClassId} (G : Gx l s0 D cI cF cJ) (h h1 h2 A B n : Nat) (f : Nat → Nat) (g : Nat → Int32) {H0 : Heap} {A0 : Nat → Prop} (hP : va_P D vcl [(h, .inr (2, [.int (nI A), .int (nI B), .int (nI n), .ref h1, .ref h2])), (h1, aN cI 256 f), (h2, aI cI 256 g)] H0) (hD : va_D A0 [(h, .inr (2, [.int (nI A), .int (nI B), .int (nI n), .ref h1, .ref h2])), (h1, aN cI 256 f), (h2, aI cI 256 g)]) (hB1 : 1 ≤ B) : Mx l s0 y_R_moveOneBit (.code y_R_moveOneBit b_R_moveOneBit 1 none) { frames := 0, cells := 0, slots := 0, locals := 0 } [.ref h] H0 (Aa [h, h1, h2] H0.size) (Rn (fun H1 => va_P D vcl [(h, .inr (2, [.int (nI (A + 1)), .int (nI (B - 1)), .int (nI n), .ref h1, .ref h2])), (h1, aN cI 256 f), (h2, aI cI 256 g)] H1)) := by
  refine Mx.ofW (own := "FewBits$Runs") rfl rfl ?_
  rintro p e s m below meth c ⟨hx, hb, hml, hr, hown, hW, hlk⟩ hnm het hH
  have hK := G.k hW
  have hD := hD.aa (sz := H0.size)
  have hD : va_D (Aa [h, h1, h2] H0.size) [(h, .inr (2, [.int (nI A), .int (nI B), .int (nI n), .ref h1, .ref h2])), (h1, aN cI 256 f), (h2, aI cI 256 g)] := hD
  have hS : va_S (Aa [h, h1, h2] H0.size) H0 H0 [] := va_S.rf
  have hl := lv_entry ([.ref h]) (n := 1) (Nat.le_of_ble_eq_true rfl)
  rw [lg_entry_eq]
  generalize (lg_sl ([.ref h]) ++ List.replicate (1 - (lg_sl ([.ref h])).length) Slot.unset).toArray = ls at hl ⊢
  have hl : lv_has ls 1 [(0, .ref h)] := hl
  refine lv_aload_n hx hb d_R_moveOneBit_0 rfl (lv_at hl 0 rfl) ?_
  refine lv_dup hx hb d_R_moveOneBit_1 rfl ?_
  refine va_get (D := D) (ci := 2) (v := .int (nI A)) (C := R_R) (T := T_R) (N := 5) hx hb (us_R G hW) (fun _ h => h) hown hK hP 0 rfl rfl 0 (by decide) (fl_R_62 G hW) (u_same (args := ([.ref h] : List Value).toArray) (G.1.at 174 rfl rfl _ hW)) rfl d_R_moveOneBit_2 ?_
  refine lv_iconst (v := (nI 1)) hx hb d_R_moveOneBit_5 (by decide) ?_
  refine lv_iadd hx hb d_R_moveOneBit_6 ?_
  refine tp_i (y := (nI (A + 1))) (nI_add _ _) ?_
  refine va_put (D := D) (ci := 2) (v := .int (nI (A + 1))) (ty := .int) (C := R_R) (T := T_R) (N := 5) hx hb (us_R G hW) (fun _ h => h) t_R to_R nm_R hown hK hP hD hS 0 rfl rfl 0 (by decide) (fl_R_62 G hW) (u_same (args := ([.ref h] : List Value).toArray) (G.1.at 174 rfl rfl _ hW)) rfl (by decide +kernel) rfl rfl (Nat.le_of_ble_eq_true rfl) d_R_moveOneBit_7 (fun H locs hP hD hS => ?_)
  have hP : va_P D vcl [(h, .inr (2, [.int (nI (A + 1)), .int (nI B), .int (nI n), .ref h1, .ref h2])), (h1, aN cI 256 f), (h2, aI cI 256 g)] H := hP
  have hD : va_D (Aa [h, h1, h2] H0.size) [(h, .inr (2, [.int (nI (A + 1)), .int (nI B), .int (nI n), .ref h1, .ref h2])), (h1, aN cI 256 f), (h2, aI cI 256 g)] := hD
  refine lv_aload_n hx hb d_R_moveOneBit_10 rfl (lv_at hl 0 rfl) ?_
  refine lv_dup hx hb d_R_moveOneBit_11 rfl ?_
  refine va_get (D := D) (ci := 2) (v := .int (nI B)) (C := R_R) (T := T_R) (N := 5) hx hb (us_R G hW) (fun _ h => h) hown hK hP 0 rfl rfl 1 (by decide) (fl_R_65 G hW) (u_same (args := ([.ref h] : List Value).toArray) (G.1.at 183 rfl rfl _ hW)) rfl d_R_moveOneBit_12 ?_
  refine lv_iconst (v := (nI 1)) hx hb d_R_moveOneBit_15 (by decide) ?_
  refine lv_isub hx hb d_R_moveOneBit_16 ?_
  refine tp_i (y := (nI (B - 1))) (pk_sub hB1) ?_
  refine va_put (D := D) (ci := 2) (v := .int (nI (B - 1))) (ty := .int) (C := R_R) (T := T_R) (N := 5) hx hb (us_R G hW) (fun _ h => h) t_R to_R nm_R hown hK hP hD hS 0 rfl rfl 1 (by decide) (fl_R_65 G hW) (u_same (args := ([.ref h] : List Value).toArray) (G.1.at 183 rfl rfl _ hW)) rfl (by decide +kernel) rfl rfl (Nat.le_of_ble_eq_true rfl) d_R_moveOneBit_17 (fun H locs hP hD hS => ?_)
  have hP : va_P D vcl [(h, .inr (2, [.int (nI (A + 1)), .int (nI (B - 1)), .int (nI n), .ref h1, .ref h2])), (h1, aN cI 256 f), (h2, aI cI 256 g)] H := hP
  have hD : va_D (Aa [h, h1, h2] H0.size) [(h, .inr (2, [.int (nI (A + 1)), .int (nI (B - 1)), .int (nI n), .ref h1, .ref h2])), (h1, aN cI 256 f), (h2, aI cI 256 g)] := hD
  exact mx_vret hx hb hr hlk d_R_moveOneBit_20 (Nat.le_of_ble_eq_true rfl) (Nat.le_of_ble_eq_true rfl) hS.2.2 (⟨rfl, hP⟩)
