set_option maxHeartbeats 4000000 in
set_option maxRecDepth 100000 in
theorem c_P_power_B {l : Launch} {s0 : State} {D : va_G} {cI cF cJ : ClassId} (G : Gx l s0 D cI cF cJ) (h h1 h2 A B : Nat) (hd pu : Int32) (sl pt : Nat → Nat) {H0 : Heap} (hP : va_P D vcl [(h, .inr (1, [.int (nI A), .int (nI B), .int hd, .ref h1, .ref h2, .int pu])), (h1, aN cI 1024 sl), (h2, aN cI 64 pt)] H0) (hA : A ≤ 8) : Mx l s0 y_P_power (.code y_P_power b_P_power 1 (some .int)) { frames := 0, cells := 0, slots := 0, locals := 0 } [.ref h] H0 (fun _ => False) (Rd H0 (.int (nI (2 ^ A)))) := by
  refine Mx.ofW (own := "FewBits$Filter") rfl rfl ?_
  rintro p e s m below meth c ⟨hx, hb, hml, hr, hown, hW, hlk⟩ hnm het hH
  have hK := G.k hW
  have hl := lv_entry ([.ref h]) (n := 1) (Nat.le_of_ble_eq_true rfl)
  rw [lg_entry_eq]
  generalize (lg_sl ([.ref h]) ++ List.replicate (1 - (lg_sl ([.ref h])).length) Slot.unset).toArray = ls at hl ⊢
  have hl : lv_has ls 1 [(0, .ref h)] := hl
  refine lv_iconst (v := (nI 1)) hx hb d_P_power_0 (by decide) ?_
  refine lv_aload_n hx hb d_P_power_1 rfl (lv_at hl 0 rfl) ?_
  refine va_get (D := D) (ci := 1) (v := .int (nI A)) (C := R_B) (T := T_B) (N := 6) hx hb (us_B G hW) (fun _ h => h) hown hK hP 0 rfl rfl 0 (by decide) (fl_P_7 G hW) (fun _ h9 => h9) rfl d_P_power_2 ?_
  refine lv_ishl hx hb d_P_power_5 ?_
  refine tp_i (y := (nI (2 ^ A))) (pw_shl A (by omega)) ?_
  exact mx_iret hx hb hr hlk d_P_power_6 (Nat.le_of_ble_eq_true rfl) (Nat.le_of_ble_eq_true rfl) (fun _ h => nomatch h) (⟨rfl, rfl⟩)

set_option maxHeartbeats 4000000 in
set_option maxRecDepth 100000 in
theorem c_P_lowestBits_B {l : Launch} {s0 : State} {D : va_G} {cI cF cJ : ClassId} (G : Gx l s0 D cI cF cJ) (h h1 h2 A B : Nat) (hd pu : Int32) (sl pt : Nat → Nat) (z : Int64) {H0 : Heap} (hP : va_P D vcl [(h, .inr (1, [.int (nI A), .int (nI B), .int hd, .ref h1, .ref h2, .int pu])), (h1, aN cI 1024 sl), (h2, aN cI 64 pt)] H0) (hA : A ≤ 8) : Mx l s0 y_P_lowestBits (.code y_P_lowestBits b_P_lowestBits 3 (some .int)) { frames := 1, cells := 0, slots := 0, locals := 20 } [.ref h, .long z] H0 (fun _ => False) (Rd H0 (.int (nI (z.toBitVec.toNat % 2 ^ A)))) := by
  refine Mx.ofW (own := "FewBits$Filter") rfl rfl ?_
  rintro p e s m below meth c ⟨hx, hb, hml, hr, hown, hW, hlk⟩ hnm het hH
  have hK := G.k hW
  have hl := lv_entry ([.ref h, .long z]) (n := 3) (Nat.le_of_ble_eq_true rfl)
  rw [lg_entry_eq]
  generalize (lg_sl ([.ref h, .long z]) ++ List.replicate (3 - (lg_sl ([.ref h, .long z])).length) Slot.unset).toArray = ls at hl ⊢
  have hl : lv_has ls 3 [(0, .ref h), (1, .long z)] := hl
  refine lv_lload_n hx hb d_P_lowestBits_0 rfl (lv_at hl 1 rfl) ?_
  refine lv_l2i hx hb d_P_lowestBits_1 rfl ?_
  refine lv_aload_n hx hb d_P_lowestBits_2 rfl (lv_at hl 0 rfl) ?_
  refine mx_callR (r := .int (nI (2 ^ A))) (c_P_power_B G h h1 h2 A B hd pu sl pt hP hA) hW (iv_P_lowestBits_3_B G hx hb hown hW (va_recv hK hP (ci := 1) (q0 := 0) rfl rfl) [] [.int (Int64.toInt32 z)] rfl) hml hl.1 (by rw [hb]; exact d_P_lowestBits_3) (cd_P_power G hW) ⟨Nat.le_of_ble_eq_true rfl, Nat.le_of_ble_eq_true rfl⟩ rfl rfl (Nat.le_of_ble_eq_true rfl) (Nat.le_of_ble_eq_true rfl) (Nat.le_of_ble_eq_true rfl) ?_
  refine lv_iconst (v := (nI 1)) hx hb d_P_lowestBits_6 (by decide) ?_
  refine lv_isub hx hb d_P_lowestBits_7 ?_
  refine lv_iand hx hb d_P_lowestBits_8 ?_
  refine tp_i (y := (nI (z.toBitVec.toNat % 2 ^ A))) (low_bv z A (by omega)) ?_
  exact mx_iret hx hb hr hlk d_P_lowestBits_9 (Nat.le_of_ble_eq_true rfl) (Nat.le_of_ble_eq_true rfl) (fun _ h => nomatch h) (⟨rfl, rfl⟩)

set_option maxHeartbeats 4000000 in
set_option maxRecDepth 100000 in
theorem c_P_filledCells_B {l : Launch} {s0 : State} {D : va_G} {cI cF cJ : ClassId} (G : Gx l s0 D cI cF cJ) (h h1 h2 A B : Nat) (hd pu : Int32) (sl pt : Nat → Nat) {H0 : Heap} (hP : va_P D vcl [(h, .inr (1, [.int (nI A), .int (nI B), .int hd, .ref h1, .ref h2, .int pu])), (h1, aN cI 1024 sl), (h2, aN cI 64 pt)] H0) : Mx l s0 y_P_filledCells (.code y_P_filledCells b_P_filledCells 1 (some .int)) { frames := 0, cells := 0, slots := 0, locals := 0 } [.ref h] H0 (fun _ => False) (Rd H0 (.int hd)) := by
  refine Mx.ofW (own := "FewBits$Filter") rfl rfl ?_
  rintro p e s m below meth c ⟨hx, hb, hml, hr, hown, hW, hlk⟩ hnm het hH
  have hK := G.k hW
  have hl := lv_entry ([.ref h]) (n := 1) (Nat.le_of_ble_eq_true rfl)
  rw [lg_entry_eq]
  generalize (lg_sl ([.ref h]) ++ List.replicate (1 - (lg_sl ([.ref h])).length) Slot.unset).toArray = ls at hl ⊢
  have hl : lv_has ls 1 [(0, .ref h)] := hl
  refine lv_aload_n hx hb d_P_filledCells_0 rfl (lv_at hl 0 rfl) ?_
  refine va_get (D := D) (ci := 1) (v := .int hd) (C := R_B) (T := T_B) (N := 6) hx hb (us_B G hW) (fun _ h => h) hown hK hP 0 rfl rfl 2 (by decide) (fl_P_16 G hW) (fun _ h9 => h9) rfl d_P_filledCells_1 ?_
  exact mx_iret hx hb hr hlk d_P_filledCells_4 (Nat.le_of_ble_eq_true rfl) (Nat.le_of_ble_eq_true rfl) (fun _ h => nomatch h) (⟨rfl, rfl⟩)

set_option maxHeartbeats 4000000 in
set_option maxRecDepth 100000 in
theorem c_B_kind {l : Launch} {s0 : State} {D : va_G} {cI cF cJ : ClassId} (G : Gx l s0 D cI cF cJ) (h h1 h2 A B : Nat) (hd pu : Int32) (sl pt : Nat → Nat) {H0 : Heap}  : Mx l s0 y_B_kind (.code y_B_kind b_B_kind 1 (some .int)) { frames := 0, cells := 0, slots := 0, locals := 0 } [.ref h] H0 (fun _ => False) (Rd H0 (.int (nI 2))) := by
  refine Mx.ofW (own := "FewBits$Buckets") rfl rfl ?_
  rintro p e s m below meth c ⟨hx, hb, hml, hr, hown, hW, hlk⟩ hnm het hH
  have hK := G.k hW
  have hl := lv_entry ([.ref h]) (n := 1) (Nat.le_of_ble_eq_true rfl)
  rw [lg_entry_eq]
  generalize (lg_sl ([.ref h]) ++ List.replicate (1 - (lg_sl ([.ref h])).length) Slot.unset).toArray = ls at hl ⊢
  have hl : lv_has ls 1 [(0, .ref h)] := hl
  refine lv_iconst (v := (nI 2)) hx hb d_B_kind_0 (by decide) ?_
  exact mx_iret hx hb hr hlk d_B_kind_1 (Nat.le_of_ble_eq_true rfl) (Nat.le_of_ble_eq_true rfl) (fun _ h => nomatch h) (⟨rfl, rfl⟩)

set_option maxHeartbeats 4000000 in
set_option maxRecDepth 100000 in
theorem c_B_cells {l : Launch} {s0 : State} {D : va_G} {cI cF cJ : ClassId} (G : Gx l s0 D cI cF cJ) (h h1 h2 A B : Nat) (hd pu : Int32) (sl pt : Nat → Nat) {H0 : Heap} (hP : va_P D vcl [(h, .inr (1, [.int (nI A), .int (nI B), .int hd, .ref h1, .ref h2, .int pu])), (h1, aN cI 1024 sl), (h2, aN cI 64 pt)] H0) (hA : A ≤ 8) : Mx l s0 y_B_cells (.code y_B_cells b_B_cells 1 (some .int)) { frames := 1, cells := 0, slots := 0, locals := 20 } [.ref h] H0 (fun _ => False) (Rd H0 (.int (nI (4 * 2 ^ A)))) := by
  refine Mx.ofW (own := "FewBits$Buckets") rfl rfl ?_
  rintro p e s m below meth c ⟨hx, hb, hml, hr, hown, hW, hlk⟩ hnm het hH
  have hK := G.k hW
  have hl := lv_entry ([.ref h]) (n := 1) (Nat.le_of_ble_eq_true rfl)
  rw [lg_entry_eq]
  generalize (lg_sl ([.ref h]) ++ List.replicate (1 - (lg_sl ([.ref h])).length) Slot.unset).toArray = ls at hl ⊢
  have hl : lv_has ls 1 [(0, .ref h)] := hl
  refine lv_iconst (v := (nI 4)) hx hb d_B_cells_0 (by decide) ?_
  refine lv_aload_n hx hb d_B_cells_1 rfl (lv_at hl 0 rfl) ?_
  refine mx_callR (r := .int (nI (2 ^ A))) (c_P_power_B G h h1 h2 A B hd pu sl pt hP hA) hW (iv_B_cells_2 G hx hb hown hW (va_recv hK hP (ci := 1) (q0 := 0) rfl rfl) [] [.int (nI 4)] rfl) hml hl.1 (by rw [hb]; exact d_B_cells_2) (cd_P_power G hW) ⟨Nat.le_of_ble_eq_true rfl, Nat.le_of_ble_eq_true rfl⟩ rfl rfl (Nat.le_of_ble_eq_true rfl) (Nat.le_of_ble_eq_true rfl) (Nat.le_of_ble_eq_true rfl) ?_
  refine lv_imul hx hb d_B_cells_5 ?_
  refine tp_i (y := (nI (4 * 2 ^ A))) (pk_mul _ _) ?_
  exact mx_iret hx hb hr hlk d_B_cells_6 (Nat.le_of_ble_eq_true rfl) (Nat.le_of_ble_eq_true rfl) (fun _ h => nomatch h) (⟨rfl, rfl⟩)

set_option maxHeartbeats 4000000 in
set_option maxRecDepth 100000 in
theorem c_B_strain {l : Launch} {s0 : State} {D : va_G} {cI cF cJ : ClassId} (G : Gx l s0 D cI cF cJ) (h h1 h2 A B : Nat) (hd pu : Int32) (sl pt : Nat → Nat) {H0 : Heap} (hP : va_P D vcl [(h, .inr (1, [.int (nI A), .int (nI B), .int hd, .ref h1, .ref h2, .int pu])), (h1, aN cI 1024 sl), (h2, aN cI 64 pt)] H0) : Mx l s0 y_B_strain (.code y_B_strain b_B_strain 1 (some .int)) { frames := 0, cells := 0, slots := 0, locals := 0 } [.ref h] H0 (fun _ => False) (Rd H0 (.int pu)) := by
  refine Mx.ofW (own := "FewBits$Buckets") rfl rfl ?_
  rintro p e s m below meth c ⟨hx, hb, hml, hr, hown, hW, hlk⟩ hnm het hH
  have hK := G.k hW
  have hl := lv_entry ([.ref h]) (n := 1) (Nat.le_of_ble_eq_true rfl)
  rw [lg_entry_eq]
  generalize (lg_sl ([.ref h]) ++ List.replicate (1 - (lg_sl ([.ref h])).length) Slot.unset).toArray = ls at hl ⊢
  have hl : lv_has ls 1 [(0, .ref h)] := hl
  refine lv_aload_n hx hb d_B_strain_0 rfl (lv_at hl 0 rfl) ?_
  refine va_get (D := D) (ci := 1) (v := .int pu) (C := R_B) (T := T_B) (N := 6) hx hb (us_B G hW) (fun _ h => h) hown hK hP 0 rfl rfl 5 (by decide) (fl_B_28 G hW) (fun _ h9 => h9) rfl d_B_strain_1 ?_
  exact mx_iret hx hb hr hlk d_B_strain_4 (Nat.le_of_ble_eq_true rfl) (Nat.le_of_ble_eq_true rfl) (fun _ h => nomatch h) (⟨rfl, rfl⟩)

set_option maxHeartbeats 4000000 in
set_option maxRecDepth 100000 in
theorem c_B_look {l : Launch} {s0 : State} {D : va_G} {cI cF cJ : ClassId} (G : Gx l s0 D cI cF cJ) (h h1 h2 A B : Nat) (hd pu : Int32) (sl pt : Nat → Nat) (j : Nat) {H0 : Heap} (hP : va_P D vcl [(h, .inr (1, [.int (nI A), .int (nI B), .int hd, .ref h1, .ref h2, .int pu])), (h1, aN cI 1024 sl), (h2, aN cI 64 pt)] H0) (hj : j < 1024) : Mx l s0 y_B_look (.code y_B_look b_B_look 2 (some .int)) { frames := 0, cells := 0, slots := 0, locals := 0 } [.ref h, .int (nI j)] H0 (fun _ => False) (Rd H0 (.int (nI (sl j)))) := by
  refine Mx.ofW (own := "FewBits$Buckets") rfl rfl ?_
  rintro p e s m below meth c ⟨hx, hb, hml, hr, hown, hW, hlk⟩ hnm het hH
  have hK := G.k hW
  have hl := lv_entry ([.ref h, .int (nI j)]) (n := 2) (Nat.le_of_ble_eq_true rfl)
  rw [lg_entry_eq]
  generalize (lg_sl ([.ref h, .int (nI j)]) ++ List.replicate (2 - (lg_sl ([.ref h, .int (nI j)])).length) Slot.unset).toArray = ls at hl ⊢
  have hl : lv_has ls 2 [(0, .ref h), (1, .int (nI j))] := hl
  refine lv_aload_n hx hb d_B_look_0 rfl (lv_at hl 0 rfl) ?_
  refine va_get (D := D) (ci := 1) (v := .ref h1) (C := R_B) (T := T_B) (N := 6) hx hb (us_B G hW) (fun _ h => h) hown hK hP 0 rfl rfl 3 (by decide) (fl_B_11 G hW) (fun _ h9 => h9) rfl d_B_look_1 ?_
  refine lv_iload_n hx hb d_B_look_4 rfl (lv_at hl 1 rfl) ?_
  refine ia_ld hx hb hK hP 1 (j := j) rfl (hj) (by decide) d_B_look_5 ?_
  refine tp_i (y := (nI (sl j))) rfl ?_
  exact mx_iret hx hb hr hlk d_B_look_6 (Nat.le_of_ble_eq_true rfl) (Nat.le_of_ble_eq_true rfl) (fun _ h => nomatch h) (⟨rfl, rfl⟩)

set_option maxHeartbeats 4000000 in
set_option maxRecDepth 100000 in
theorem c_B_fingerprint {l : Launch} {s0 : State} {D : va_G} {cI cF cJ : ClassId} (G : Gx l s0 D cI cF cJ) (h h1 h2 A B : Nat) (hd pu : Int32) (sl pt : Nat → Nat) (x : Int64) {H0 : Heap} (hP : va_P D vcl [(h, .inr (1, [.int (nI A), .int (nI B), .int hd, .ref h1, .ref h2, .int pu])), (h1, aN cI 1024 sl), (h2, aN cI 64 pt)] H0) (hA : A ≤ 8) (hB4 : 4 ≤ B) (hB : B ≤ 16) : Mx l s0 y_B_fingerprint (.code y_B_fingerprint b_B_fingerprint 4 (some .int)) { frames := 1, cells := 0, slots := 0, locals := 24 } [.ref h, .long x] H0 (fun _ => False) (Rd H0 (.int (nI (fpN B x)))) := by
  refine Mx.ofW (own := "FewBits$Buckets") rfl rfl ?_
  rintro p e s m below meth c ⟨hx, hb, hml, hr, hown, hW, hlk⟩ hnm het hH
  have hK := G.k hW
  have hl := lv_entry ([.ref h, .long x]) (n := 4) (Nat.le_of_ble_eq_true rfl)
  rw [lg_entry_eq]
  generalize (lg_sl ([.ref h, .long x]) ++ List.replicate (4 - (lg_sl ([.ref h, .long x])).length) Slot.unset).toArray = ls at hl ⊢
  have hl : lv_has ls 4 [(0, .ref h), (1, .long x)] := hl
  refine lv_lload_n hx hb d_B_fingerprint_0 rfl (lv_at hl 1 rfl) ?_
  refine lv_iconst (v := (nI 0)) hx hb d_B_fingerprint_1 (by decide) ?_
  refine mx_callR (r := .long (mx x (nI 0).toInt64)) (c_F_mixed G x (nI 0)) hW (iv_B_fingerprint_2 G hx hb hown hW [.long x, .int (nI 0)] [] rfl) hml hl.1 (by rw [hb]; exact d_B_fingerprint_2) (cd_F_mixed G hW) ⟨Nat.le_of_ble_eq_true rfl, Nat.le_of_ble_eq_true rfl⟩ rfl rfl (Nat.le_of_ble_eq_true rfl) (Nat.le_of_ble_eq_true rfl) (Nat.le_of_ble_eq_true rfl) ?_
  refine lv_bipush (v := (nI 64)) hx hb d_B_fingerprint_5 (by decide) ?_
  refine lv_aload_n hx hb d_B_fingerprint_7 rfl (lv_at hl 0 rfl) ?_
  refine va_get (D := D) (ci := 1) (v := .int (nI B)) (C := R_B) (T := T_B) (N := 6) hx hb (us_B G hW) (fun _ h => h) hown hK hP 0 rfl rfl 1 (by decide) (fl_B_57 G hW) (u_same (args := ([.ref h, .long x] : List Value).toArray) (G.1.at 181 rfl rfl _ hW)) rfl d_B_fingerprint_8 ?_
  refine lv_isub hx hb d_B_fingerprint_11 ?_
  refine tp_i (y := (nI (64 - B))) (pk_sub (by omega)) ?_
  refine lv_lushr hx hb d_B_fingerprint_12 rfl ?_
  refine tp_l (y := (lN (mxN x (nI 0).toInt64 / 2 ^ (64 - B)))) (lshr_N _ (by omega)) ?_
  refine lv_l2i hx hb d_B_fingerprint_13 rfl ?_
  refine tp_i (y := (nI (mxN x (nI 0).toInt64 / 2 ^ (64 - B)))) (lN_i _) ?_
  refine lv_istore_n (lv' := [(3, .int (nI (mxN x (nI 0).toInt64 / 2 ^ (64 - B)))), (0, .ref h), (1, .long x)]) hx hb d_B_fingerprint_14 rfl hl (by decide) rfl (fun ls hl => ?_)
  refine lv_iload_n hx hb d_B_fingerprint_15 rfl (lv_at hl 0 rfl) ?_
  refine lv_if_ne (tgt := 23) hx hb d_B_fingerprint_16 (by decide) (fun c_16 => ?_) (fun c_16 => ?_)
  · refine lv_iload_n hx hb d_B_fingerprint_23 rfl (lv_at hl 0 rfl) ?_
    exact mx_iret hx hb hr hlk d_B_fingerprint_24 (Nat.le_of_ble_eq_true rfl) (Nat.le_of_ble_eq_true rfl) (fun _ h => nomatch h) (⟨by unfold fpN; rw [if_neg (fun h9 => c_16 (by rw [h9]; rfl))], rfl⟩)
  · refine lv_iconst (v := (nI 1)) hx hb d_B_fingerprint_19 (by decide) ?_
    refine lv_goto (tgt := 24) hx hb d_B_fingerprint_20 (by decide) ?_
    exact mx_iret hx hb hr hlk d_B_fingerprint_24 (Nat.le_of_ble_eq_true rfl) (Nat.le_of_ble_eq_true rfl) (fun _ h => nomatch h) (⟨by unfold fpN; rw [if_pos ((nI_eq (b := 0) (by have h1 := hi_lt x (nI 0).toInt64 (show B ≤ 64 by omega); have h2 := p2_le hB; exact Nat.lt_trans h1 (by omega)) (by decide)).mp c_16)], rfl⟩)

set_option maxHeartbeats 4000000 in
set_option maxRecDepth 100000 in
theorem c_B_firstBucket {l : Launch} {s0 : State} {D : va_G} {cI cF cJ : ClassId} (G : Gx l s0 D cI cF cJ) (h h1 h2 A B : Nat) (hd pu : Int32) (sl pt : Nat → Nat) (x : Int64) {H0 : Heap} (hP : va_P D vcl [(h, .inr (1, [.int (nI A), .int (nI B), .int hd, .ref h1, .ref h2, .int pu])), (h1, aN cI 1024 sl), (h2, aN cI 64 pt)] H0) (hA : A ≤ 8) : Mx l s0 y_B_firstBucket (.code y_B_firstBucket b_B_firstBucket 3 (some .int)) { frames := 2, cells := 0, slots := 0, locals := 42 } [.ref h, .long x] H0 (fun _ => False) (Rd H0 (.int (nI (fbN A x)))) := by
  refine Mx.ofW (own := "FewBits$Buckets") rfl rfl ?_
  rintro p e s m below meth c ⟨hx, hb, hml, hr, hown, hW, hlk⟩ hnm het hH
  have hK := G.k hW
  have hl := lv_entry ([.ref h, .long x]) (n := 3) (Nat.le_of_ble_eq_true rfl)
  rw [lg_entry_eq]
  generalize (lg_sl ([.ref h, .long x]) ++ List.replicate (3 - (lg_sl ([.ref h, .long x])).length) Slot.unset).toArray = ls at hl ⊢
  have hl : lv_has ls 3 [(0, .ref h), (1, .long x)] := hl
  refine lv_aload_n hx hb d_B_firstBucket_0 rfl (lv_at hl 0 rfl) ?_
  refine lv_lload_n hx hb d_B_firstBucket_1 rfl (lv_at hl 1 rfl) ?_
  refine lv_iconst (v := (nI 1)) hx hb d_B_firstBucket_2 (by decide) ?_
  refine mx_callR (r := .long (mx x (nI 1).toInt64)) (c_F_mixed G x (nI 1)) hW (iv_B_firstBucket_3 G hx hb hown hW [.long x, .int (nI 1)] [.ref h] rfl) hml hl.1 (by rw [hb]; exact d_B_firstBucket_3) (cd_F_mixed G hW) ⟨Nat.le_of_ble_eq_true rfl, Nat.le_of_ble_eq_true rfl⟩ rfl rfl (Nat.le_of_ble_eq_true rfl) (Nat.le_of_ble_eq_true rfl) (Nat.le_of_ble_eq_true rfl) ?_
  refine mx_callR (r := .int (nI (fbN A x))) (c_P_lowestBits_B G h h1 h2 A B hd pu sl pt (mx x (nI 1).toInt64) hP hA) hW (iv_B_firstBucket_6 G hx hb hown hW (va_recv hK hP (ci := 1) (q0 := 0) rfl rfl) [.long (mx x (nI 1).toInt64)] [] rfl) hml hl.1 (by rw [hb]; exact d_B_firstBucket_6) (cd_P_lowestBits G hW) ⟨Nat.le_of_ble_eq_true rfl, Nat.le_of_ble_eq_true rfl⟩ rfl rfl (Nat.le_of_ble_eq_true rfl) (Nat.le_of_ble_eq_true rfl) (Nat.le_of_ble_eq_true rfl) ?_
  exact mx_iret hx hb hr hlk d_B_firstBucket_9 (Nat.le_of_ble_eq_true rfl) (Nat.le_of_ble_eq_true rfl) (fun _ h => nomatch h) (⟨rfl, rfl⟩)

set_option maxHeartbeats 4000000 in
set_option maxRecDepth 100000 in
theorem c_B_otherBucket {l : Launch} {s0 : State} {D : va_G} {cI cF cJ : ClassId} (G : Gx l s0 D cI cF cJ) (h h1 h2 A B : Nat) (hd pu : Int32) (sl pt : Nat → Nat) (bk q : Nat) {H0 : Heap} (hP : va_P D vcl [(h, .inr (1, [.int (nI A), .int (nI B), .int hd, .ref h1, .ref h2, .int pu])), (h1, aN cI 1024 sl), (h2, aN cI 64 pt)] H0) (hA : A ≤ 8) : Mx l s0 y_B_otherBucket (.code y_B_otherBucket b_B_otherBucket 3 (some .int)) { frames := 2, cells := 0, slots := 0, locals := 42 } [.ref h, .int (nI bk), .int (nI q)] H0 (fun _ => False) (Rd H0 (.int (nI (obN A bk q)))) := by
  refine Mx.ofW (own := "FewBits$Buckets") rfl rfl ?_
  rintro p e s m below meth c ⟨hx, hb, hml, hr, hown, hW, hlk⟩ hnm het hH
  have hK := G.k hW
  have hl := lv_entry ([.ref h, .int (nI bk), .int (nI q)]) (n := 3) (Nat.le_of_ble_eq_true rfl)
  rw [lg_entry_eq]
  generalize (lg_sl ([.ref h, .int (nI bk), .int (nI q)]) ++ List.replicate (3 - (lg_sl ([.ref h, .int (nI bk), .int (nI q)])).length) Slot.unset).toArray = ls at hl ⊢
  have hl : lv_has ls 3 [(0, .ref h), (1, .int (nI bk)), (2, .int (nI q))] := hl
  refine lv_iload_n hx hb d_B_otherBucket_0 rfl (lv_at hl 1 rfl) ?_
  refine lv_aload_n hx hb d_B_otherBucket_1 rfl (lv_at hl 0 rfl) ?_
  refine lv_iload_n hx hb d_B_otherBucket_2 rfl (lv_at hl 2 rfl) ?_
  refine lv_i2l hx hb d_B_otherBucket_3 rfl ?_
  refine lv_iconst (v := (nI 2)) hx hb d_B_otherBucket_4 (by decide) ?_
  refine mx_callR (r := .long (mx (nI q).toInt64 (nI 2).toInt64)) (c_F_mixed G (nI q).toInt64 (nI 2)) hW (iv_B_otherBucket_5 G hx hb hown hW [.long (Int32.toInt64 (nI q)), .int (nI 2)] [.ref h, .int (nI bk)] rfl) hml hl.1 (by rw [hb]; exact d_B_otherBucket_5) (cd_F_mixed G hW) ⟨Nat.le_of_ble_eq_true rfl, Nat.le_of_ble_eq_true rfl⟩ rfl rfl (Nat.le_of_ble_eq_true rfl) (Nat.le_of_ble_eq_true rfl) (Nat.le_of_ble_eq_true rfl) ?_
  refine mx_callR (r := .int (nI (mxN (nI q).toInt64 (nI 2).toInt64 % 2 ^ A))) (c_P_lowestBits_B G h h1 h2 A B hd pu sl pt (mx (nI q).toInt64 (nI 2).toInt64) hP hA) hW (iv_B_otherBucket_8 G hx hb hown hW (va_recv hK hP (ci := 1) (q0 := 0) rfl rfl) [.long (mx (nI q).toInt64 (nI 2).toInt64)] [.int (nI bk)] rfl) hml hl.1 (by rw [hb]; exact d_B_otherBucket_8) (cd_P_lowestBits G hW) ⟨Nat.le_of_ble_eq_true rfl, Nat.le_of_ble_eq_true rfl⟩ rfl rfl (Nat.le_of_ble_eq_true rfl) (Nat.le_of_ble_eq_true rfl) (Nat.le_of_ble_eq_true rfl) ?_
  refine lv_ixor hx hb d_B_otherBucket_11 ?_
  refine tp_i (y := (nI (obN A bk q))) (nx_xor _ _) ?_
  exact mx_iret hx hb hr hlk d_B_otherBucket_12 (Nat.le_of_ble_eq_true rfl) (Nat.le_of_ble_eq_true rfl) (fun _ h => nomatch h) (⟨rfl, rfl⟩)

set_option maxHeartbeats 4000000 in
set_option maxRecDepth 100000 in
theorem c_B_slotWith {l : Launch} {s0 : State} {D : va_G} {cI cF cJ : ClassId} (G : Gx l s0 D cI cF cJ) (h h1 h2 A B : Nat) (hd pu : Int32) (sl pt : Nat → Nat) (bk v : Nat) {H0 : Heap} (hP : va_P D vcl [(h, .inr (1, [.int (nI A), .int (nI B), .int hd, .ref h1, .ref h2, .int pu])), (h1, aN cI 1024 sl), (h2, aN cI 64 pt)] H0) (hA : A ≤ 8) (hs : ∀ j, j < 1024 → sl j < 65536) (hbk : bk < 2 ^ A) (hv : v < 65536) : Mx l s0 y_B_slotWith (.code y_B_slotWith b_B_slotWith 5 (some .int)) { frames := 0, cells := 0, slots := 0, locals := 0 } [.ref h, .int (nI bk), .int (nI v)] H0 (fun _ => False) (Rd H0 (.int (oI (fnd sl v (4 * bk) 4)))) := by
  refine Mx.ofW (own := "FewBits$Buckets") rfl rfl ?_
  rintro p e s m below meth c ⟨hx, hb, hml, hr, hown, hW, hlk⟩ hnm het hH
  have hK := G.k hW
  have h8 := p2_le hA
  have hl := lv_entry ([.ref h, .int (nI bk), .int (nI v)]) (n := 5) (Nat.le_of_ble_eq_true rfl)
  rw [lg_entry_eq]
  generalize (lg_sl ([.ref h, .int (nI bk), .int (nI v)]) ++ List.replicate (5 - (lg_sl ([.ref h, .int (nI bk), .int (nI v)])).length) Slot.unset).toArray = ls at hl ⊢
  have hl : lv_has ls 5 [(0, .ref h), (1, .int (nI bk)), (2, .int (nI v))] := hl
  refine lv_iload_n hx hb d_B_slotWith_0 rfl (lv_at hl 1 rfl) ?_
  refine lv_iconst (v := (nI 4)) hx hb d_B_slotWith_1 (by decide) ?_
  refine lv_imul hx hb d_B_slotWith_2 ?_
  refine tp_i (y := (nI (4 * bk))) (by rw [pk_mul, Nat.mul_comm]) ?_
  refine lv_istore_n (lv' := [(3, .int (nI (4 * bk))), (0, .ref h), (1, .int (nI bk)), (2, .int (nI v))]) hx hb d_B_slotWith_3 rfl hl (by decide) rfl (fun ls hl => ?_)
  refine lv_iload_n hx hb d_B_slotWith_4 rfl (lv_at hl 0 rfl) ?_
  refine lv_istore (lv' := [(4, .int (nI (4 * bk))), (3, .int (nI (4 * bk))), (0, .ref h), (1, .int (nI bk)), (2, .int (nI v))]) hx hb d_B_slotWith_5 hl (by decide) rfl (fun ls hl => ?_)
  have loop_7 : ∀ (k : Nat) (i : Nat), (i + k = 4 * bk + 4) → (fnd sl v (4 * bk) 4 = fnd sl v i k) → ∀ (ls : Array Slot), lv_has ls 5 [(4, .int (nI i)), (3, .int (nI (4 * bk))), (0, .ref h), (1, .int (nI bk)), (2, .int (nI v))] → W p l e { frames := 0, cells := 0, slots := 0, locals := 0 } s m ([.ref h, .int (nI bk), .int (nI v)] : List Value).toArray below meth c H0 [] 0 0 (MQx below (Rd H0 (.int (oI (fnd sl v (4 * bk) 4)))) s 0 0 (fun _ => False)) (F0 m 7 ls []) := by
    intro k
    induction k with
    | zero =>
      intro i hk hf  ls hl
      refine lv_iload hx hb d_B_slotWith_7 (lv_at hl 0 rfl) ?_
      refine lv_iload_n hx hb d_B_slotWith_9 rfl (lv_at hl 1 rfl) ?_
      refine lv_iconst (v := (nI 4)) hx hb d_B_slotWith_10 (by decide) ?_
      refine lv_iadd hx hb d_B_slotWith_11 ?_
      refine tp_i (y := (nI (4 * bk + 4))) (nI_add _ _) ?_
      refine lv_icmp_ge (tgt := 35) hx hb d_B_slotWith_12 (by decide) (fun c_12 => ?_) (fun c_12 => absurd (nI_le (by omega) (by omega)) c_12)
      refine lv_iconst (v := (-1)) hx hb d_B_slotWith_35 (by decide) ?_
      exact mx_iret hx hb hr hlk d_B_slotWith_36 (Nat.le_of_ble_eq_true rfl) (Nat.le_of_ble_eq_true rfl) (fun _ h => nomatch h) (⟨by rw [hf]; rfl, rfl⟩)
    | succ k ih_7 =>
      intro i hk hf  ls hl
      refine lv_iload hx hb d_B_slotWith_7 (lv_at hl 0 rfl) ?_
      refine lv_iload_n hx hb d_B_slotWith_9 rfl (lv_at hl 1 rfl) ?_
      refine lv_iconst (v := (nI 4)) hx hb d_B_slotWith_10 (by decide) ?_
      refine lv_iadd hx hb d_B_slotWith_11 ?_
      refine tp_i (y := (nI (4 * bk + 4))) (nI_add _ _) ?_
      refine lv_icmp_ge (tgt := 35) hx hb d_B_slotWith_12 (by decide) (fun c_12 => absurd c_12 (nI_ge (by omega) (by omega))) (fun c_12 => ?_)
      refine lv_aload_n hx hb d_B_slotWith_15 rfl (lv_at hl 2 rfl) ?_
      refine va_get (D := D) (ci := 1) (v := .ref h1) (C := R_B) (T := T_B) (N := 6) hx hb (us_B G hW) (fun _ h => h) hown hK hP 0 rfl rfl 3 (by decide) (fl_B_11 G hW) (fun _ h9 => h9) rfl d_B_slotWith_16 ?_
      refine lv_iload hx hb d_B_slotWith_19 (lv_at hl 0 rfl) ?_
      refine ia_ld hx hb hK hP 1 (j := i) rfl (by omega) (by decide) d_B_slotWith_21 ?_
      refine tp_i (y := (nI (sl i))) rfl ?_
      refine lv_iload_n hx hb d_B_slotWith_22 rfl (lv_at hl 4 rfl) ?_
      refine lv_icmp_ne (tgt := 29) hx hb d_B_slotWith_23 (by decide) (fun c_23 => ?_) (fun c_23 => ?_)
      · refine lv_iinc (v := (nI (i + 1))) (lv' := [(4, .int (nI (i + 1))), (3, .int (nI (4 * bk))), (0, .ref h), (1, .int (nI bk)), (2, .int (nI v))]) hx hb d_B_slotWith_29 hl (k := 0) rfl (nI_1 _) (by decide) rfl (fun ls hl => ?_)
        refine lv_goto (tgt := 7) hx hb d_B_slotWith_32 (by decide) ?_
        exact ih_7 (i + 1) (by omega) (by rw [hf, fnd_f (fun h9 => c_23 (by rw [h9]))]) ls (lv_sub hl [0, 1, 2, 3, 4] rfl)
      · refine lv_iload hx hb d_B_slotWith_26 (lv_at hl 0 rfl) ?_
        exact mx_iret hx hb hr hlk d_B_slotWith_28 (Nat.le_of_ble_eq_true rfl) (Nat.le_of_ble_eq_true rfl) (fun _ h => nomatch h) (⟨by rw [hf, fnd_t ((nI_eq (by have := hs i (by omega); omega) (by omega)).mp c_23)]; rfl, rfl⟩)
  exact loop_7 (4) (4 * bk) (by omega) (rfl) ls (lv_sub hl [0, 1, 2, 3, 4] rfl)

set_option maxHeartbeats 4000000 in
set_option maxRecDepth 100000 in
theorem c_B_putFree {l : Launch} {s0 : State} {D : va_G} {cI cF cJ : ClassId} (G : Gx l s0 D cI cF cJ) (h h1 h2 A B : Nat) (hd pu : Int32) (sl pt : Nat → Nat) (bk q : Nat) {H0 : Heap} {A0 : Nat → Prop} (hP : va_P D vcl [(h, .inr (1, [.int (nI A), .int (nI B), .int hd, .ref h1, .ref h2, .int pu])), (h1, aN cI 1024 sl), (h2, aN cI 64 pt)] H0) (hD : va_D A0 [(h, .inr (1, [.int (nI A), .int (nI B), .int hd, .ref h1, .ref h2, .int pu])), (h1, aN cI 1024 sl), (h2, aN cI 64 pt)]) (hA : A ≤ 8) (hs : ∀ j, j < 1024 → sl j < 65536) (hbk : bk < 2 ^ A) : Mx l s0 y_B_putFree (.code y_B_putFree b_B_putFree 4 (some .boolean)) { frames := 1, cells := 0, slots := 0, locals := 24 } [.ref h, .int (nI bk), .int (nI q)] H0 (Aa [h, h1, h2] H0.size) (Rw (.int (bI (fnd sl 0 (4 * bk) 4).isSome)) (fun H1 => va_P D vcl [(h, .inr (1, [.int (nI A), .int (nI B), .int hd, .ref h1, .ref h2, .int pu])), (h1, aN cI 1024 (pfB sl bk q)), (h2, aN cI 64 pt)] H1)) := by
  refine Mx.ofW (own := "FewBits$Buckets") rfl rfl ?_
  rintro p e s m below meth c ⟨hx, hb, hml, hr, hown, hW, hlk⟩ hnm het hH
  have hK := G.k hW
  have hD := hD.aa (sz := H0.size)
  have hD : va_D (Aa [h, h1, h2] H0.size) [(h, .inr (1, [.int (nI A), .int (nI B), .int hd, .ref h1, .ref h2, .int pu])), (h1, aN cI 1024 sl), (h2, aN cI 64 pt)] := hD
  have hS : va_S (Aa [h, h1, h2] H0.size) H0 H0 [] := va_S.rf
  have h8 := p2_le hA
  have hl := lv_entry ([.ref h, .int (nI bk), .int (nI q)]) (n := 4) (Nat.le_of_ble_eq_true rfl)
  rw [lg_entry_eq]
  generalize (lg_sl ([.ref h, .int (nI bk), .int (nI q)]) ++ List.replicate (4 - (lg_sl ([.ref h, .int (nI bk), .int (nI q)])).length) Slot.unset).toArray = ls at hl ⊢
  have hl : lv_has ls 4 [(0, .ref h), (1, .int (nI bk)), (2, .int (nI q))] := hl
  refine lv_aload_n hx hb d_B_putFree_0 rfl (lv_at hl 0 rfl) ?_
  refine lv_iload_n hx hb d_B_putFree_1 rfl (lv_at hl 1 rfl) ?_
  refine lv_iconst (v := (nI 0)) hx hb d_B_putFree_2 (by decide) ?_
  refine mx_callR (r := .int (oI (fnd sl 0 (4 * bk) 4))) (c_B_slotWith G h h1 h2 A B hd pu sl pt bk 0 hP hA hs hbk (by decide)) hW (iv_B_putFree_3 G hx hb hown hW (va_recv hK hP (ci := 1) (q0 := 0) rfl rfl) [.int (nI bk), .int (nI 0)] [] rfl) hml hl.1 (by rw [hb]; exact d_B_putFree_3) (cd_B_slotWith G hW) ⟨Nat.le_of_ble_eq_true rfl, Nat.le_of_ble_eq_true rfl⟩ rfl rfl (Nat.le_of_ble_eq_true rfl) (Nat.le_of_ble_eq_true rfl) (Nat.le_of_ble_eq_true rfl) ?_
  refine lv_istore_n (lv' := [(3, .int (oI (fnd sl 0 (4 * bk) 4))), (0, .ref h), (1, .int (nI bk)), (2, .int (nI q))]) hx hb d_B_putFree_6 rfl hl (by decide) rfl (fun ls hl => ?_)
  refine lv_iload_n hx hb d_B_putFree_7 rfl (lv_at hl 0 rfl) ?_
  refine lv_iconst (v := (-1)) hx hb d_B_putFree_8 (by decide) ?_
  refine lv_icmp_ne (tgt := 14) hx hb d_B_putFree_9 (by decide) (fun c_9 => ?_) (fun c_9 => ?_)
  · obtain ⟨j, hj⟩ := oI_some c_9
    have hj2 := fnd_in hj
    rw [hj] at hl
    have hl : lv_has ls 4 [(3, .int (nI j)), (0, .ref h), (1, .int (nI bk)), (2, .int (nI q))] := hl
    refine lv_aload_n hx hb d_B_putFree_14 rfl (lv_at hl 1 rfl) ?_
    refine va_get (D := D) (ci := 1) (v := .ref h1) (C := R_B) (T := T_B) (N := 6) hx hb (us_B G hW) (fun _ h => h) hown hK hP 0 rfl rfl 3 (by decide) (fl_B_11 G hW) (fun _ h9 => h9) rfl d_B_putFree_15 ?_
    refine lv_iload_n hx hb d_B_putFree_18 rfl (lv_at hl 0 rfl) ?_
    refine lv_iload_n hx hb d_B_putFree_19 rfl (lv_at hl 3 rfl) ?_
    refine ia_stN hx hb hK hP hD hS 1 (j := j) (x := q) (f := sl) rfl (by omega) (by decide) d_B_putFree_20 (fun H locs hP hD hS => ?_)
    have hP : va_P D vcl [(h, .inr (1, [.int (nI A), .int (nI B), .int hd, .ref h1, .ref h2, .int pu])), (h1, aN cI 1024 (va_up sl j q)), (h2, aN cI 64 pt)] H := hP
    have hD : va_D (Aa [h, h1, h2] H0.size) [(h, .inr (1, [.int (nI A), .int (nI B), .int hd, .ref h1, .ref h2, .int pu])), (h1, aN cI 1024 (va_up sl j q)), (h2, aN cI 64 pt)] := hD
    refine lv_iconst (v := (nI 1)) hx hb d_B_putFree_21 (by decide) ?_
    exact mx_zret hx hb hr hlk d_B_putFree_22 (Nat.le_of_ble_eq_true rfl) (Nat.le_of_ble_eq_true rfl) hS.2.2 (rfl) (⟨by rw [hj]; rfl, by rw [pfB_s hj]; exact hP⟩)
  · refine lv_iconst (v := (nI 0)) hx hb d_B_putFree_12 (by decide) ?_
    exact mx_zret hx hb hr hlk d_B_putFree_13 (Nat.le_of_ble_eq_true rfl) (Nat.le_of_ble_eq_true rfl) (fun _ h => nomatch h) (rfl) (⟨by rw [(oI_none (fun j hj => by have := fnd_in hj; omega) c_9)]; rfl, by rw [pfB_n (oI_none (fun j hj => by have := fnd_in hj; omega) c_9)]; exact hP⟩)

set_option maxHeartbeats 4000000 in
set_option maxRecDepth 100000 in
theorem c_B_exchange {l : Launch} {s0 : State} {D : va_G} {cI cF cJ : ClassId} (G : Gx l s0 D cI cF cJ) (h h1 h2 A B : Nat) (hd pu : Int32) (sl pt : Nat → Nat) (j q : Nat) {H0 : Heap} {A0 : Nat → Prop} (hP : va_P D vcl [(h, .inr (1, [.int (nI A), .int (nI B), .int hd, .ref h1, .ref h2, .int pu])), (h1, aN cI 1024 sl), (h2, aN cI 64 pt)] H0) (hD : va_D A0 [(h, .inr (1, [.int (nI A), .int (nI B), .int hd, .ref h1, .ref h2, .int pu])), (h1, aN cI 1024 sl), (h2, aN cI 64 pt)]) (hj : j < 1024) : Mx l s0 y_B_exchange (.code y_B_exchange b_B_exchange 4 (some .int)) { frames := 0, cells := 0, slots := 0, locals := 0 } [.ref h, .int (nI j), .int (nI q)] H0 (Aa [h, h1, h2] H0.size) (Rw (.int (nI (sl j))) (fun H1 => va_P D vcl [(h, .inr (1, [.int (nI A), .int (nI B), .int hd, .ref h1, .ref h2, .int pu])), (h1, aN cI 1024 (va_up sl j q)), (h2, aN cI 64 pt)] H1)) := by
  refine Mx.ofW (own := "FewBits$Buckets") rfl rfl ?_
  rintro p e s m below meth c ⟨hx, hb, hml, hr, hown, hW, hlk⟩ hnm het hH
  have hK := G.k hW
  have hD := hD.aa (sz := H0.size)
  have hD : va_D (Aa [h, h1, h2] H0.size) [(h, .inr (1, [.int (nI A), .int (nI B), .int hd, .ref h1, .ref h2, .int pu])), (h1, aN cI 1024 sl), (h2, aN cI 64 pt)] := hD
  have hS : va_S (Aa [h, h1, h2] H0.size) H0 H0 [] := va_S.rf
  have hl := lv_entry ([.ref h, .int (nI j), .int (nI q)]) (n := 4) (Nat.le_of_ble_eq_true rfl)
  rw [lg_entry_eq]
  generalize (lg_sl ([.ref h, .int (nI j), .int (nI q)]) ++ List.replicate (4 - (lg_sl ([.ref h, .int (nI j), .int (nI q)])).length) Slot.unset).toArray = ls at hl ⊢
  have hl : lv_has ls 4 [(0, .ref h), (1, .int (nI j)), (2, .int (nI q))] := hl
  refine lv_aload_n hx hb d_B_exchange_0 rfl (lv_at hl 0 rfl) ?_
  refine va_get (D := D) (ci := 1) (v := .ref h1) (C := R_B) (T := T_B) (N := 6) hx hb (us_B G hW) (fun _ h => h) hown hK hP 0 rfl rfl 3 (by decide) (fl_B_11 G hW) (fun _ h9 => h9) rfl d_B_exchange_1 ?_
  refine lv_iload_n hx hb d_B_exchange_4 rfl (lv_at hl 1 rfl) ?_
  refine ia_ld hx hb hK hP 1 (j := j) rfl (hj) (by decide) d_B_exchange_5 ?_
  refine tp_i (y := (nI (sl j))) rfl ?_
  refine lv_istore_n (lv' := [(3, .int (nI (sl j))), (0, .ref h), (1, .int (nI j)), (2, .int (nI q))]) hx hb d_B_exchange_6 rfl hl (by decide) rfl (fun ls hl => ?_)
  refine lv_aload_n hx hb d_B_exchange_7 rfl (lv_at hl 1 rfl) ?_
  refine va_get (D := D) (ci := 1) (v := .ref h1) (C := R_B) (T := T_B) (N := 6) hx hb (us_B G hW) (fun _ h => h) hown hK hP 0 rfl rfl 3 (by decide) (fl_B_11 G hW) (fun _ h9 => h9) rfl d_B_exchange_8 ?_
  refine lv_iload_n hx hb d_B_exchange_11 rfl (lv_at hl 2 rfl) ?_
  refine lv_iload_n hx hb d_B_exchange_12 rfl (lv_at hl 3 rfl) ?_
  refine ia_stN hx hb hK hP hD hS 1 (j := j) (x := q) (f := sl) rfl (hj) (by decide) d_B_exchange_13 (fun H locs hP hD hS => ?_)
  have hP : va_P D vcl [(h, .inr (1, [.int (nI A), .int (nI B), .int hd, .ref h1, .ref h2, .int pu])), (h1, aN cI 1024 (va_up sl j q)), (h2, aN cI 64 pt)] H := hP
  have hD : va_D (Aa [h, h1, h2] H0.size) [(h, .inr (1, [.int (nI A), .int (nI B), .int hd, .ref h1, .ref h2, .int pu])), (h1, aN cI 1024 (va_up sl j q)), (h2, aN cI 64 pt)] := hD
  refine lv_iload_n hx hb d_B_exchange_14 rfl (lv_at hl 0 rfl) ?_
  exact mx_iret hx hb hr hlk d_B_exchange_15 (Nat.le_of_ble_eq_true rfl) (Nat.le_of_ble_eq_true rfl) hS.2.2 (⟨rfl, hP⟩)

set_option maxHeartbeats 4000000 in
set_option maxRecDepth 100000 in
theorem c_B_pushBack {l : Launch} {s0 : State} {D : va_G} {cI cF cJ : ClassId} (G : Gx l s0 D cI cF cJ) (h h1 h2 A B : Nat) (hd pu : Int32) (sl pt : Nat → Nat) (q : Nat) {H0 : Heap} {A0 : Nat → Prop} (hP : va_P D vcl [(h, .inr (1, [.int (nI A), .int (nI B), .int hd, .ref h1, .ref h2, .int pu])), (h1, aN cI 1024 sl), (h2, aN cI 64 pt)] H0) (hD : va_D A0 [(h, .inr (1, [.int (nI A), .int (nI B), .int hd, .ref h1, .ref h2, .int pu])), (h1, aN cI 1024 sl), (h2, aN cI 64 pt)]) (hpt : ∀ i, i < 64 → pt i < 1024) : Mx l s0 y_B_pushBack (.code y_B_pushBack b_B_pushBack 4 none) { frames := 1, cells := 0, slots := 0, locals := 23 } [.ref h, .int (nI q)] H0 (Aa [h, h1, h2] H0.size) (Rn (fun H1 => va_P D vcl [(h, .inr (1, [.int (nI A), .int (nI B), .int hd, .ref h1, .ref h2, .int pu])), (h1, aN cI 1024 (bck pt 64 q sl)), (h2, aN cI 64 pt)] H1)) := by
  refine Mx.ofW (own := "FewBits$Buckets") rfl rfl ?_
  rintro p e s m below meth c ⟨hx, hb, hml, hr, hown, hW, hlk⟩ hnm het hH
  have hK := G.k hW
  have hD := hD.aa (sz := H0.size)
  have hD : va_D (Aa [h, h1, h2] H0.size) [(h, .inr (1, [.int (nI A), .int (nI B), .int hd, .ref h1, .ref h2, .int pu])), (h1, aN cI 1024 sl), (h2, aN cI 64 pt)] := hD
  have hS : va_S (Aa [h, h1, h2] H0.size) H0 H0 [] := va_S.rf
  have hl := lv_entry ([.ref h, .int (nI q)]) (n := 4) (Nat.le_of_ble_eq_true rfl)
  rw [lg_entry_eq]
  generalize (lg_sl ([.ref h, .int (nI q)]) ++ List.replicate (4 - (lg_sl ([.ref h, .int (nI q)])).length) Slot.unset).toArray = ls at hl ⊢
  have hl : lv_has ls 4 [(0, .ref h), (1, .int (nI q))] := hl
  refine lv_iload_n hx hb d_B_pushBack_0 rfl (lv_at hl 1 rfl) ?_
  refine lv_istore_n (lv' := [(2, .int (nI q)), (0, .ref h), (1, .int (nI q))]) hx hb d_B_pushBack_1 rfl hl (by decide) rfl (fun ls hl => ?_)
  refine lv_bipush (v := (nI 64 - nI 1)) hx hb d_B_pushBack_2 (by decide) ?_
  refine lv_istore_n (lv' := [(3, .int (nI 64 - nI 1)), (2, .int (nI q)), (0, .ref h), (1, .int (nI q))]) hx hb d_B_pushBack_4 rfl hl (by decide) rfl (fun ls hl => ?_)
  have loop_5 : ∀ (k : Nat) (g : Nat) (f : Nat → Nat), (k ≤ 64) → (bck pt 64 q sl = bck pt k g f) → ∀ (H : Heap) (locs : List Loc), va_P D vcl [(h, .inr (1, [.int (nI A), .int (nI B), .int hd, .ref h1, .ref h2, .int pu])), (h1, aN cI 1024 f), (h2, aN cI 64 pt)] H → va_D (Aa [h, h1, h2] H0.size) [(h, .inr (1, [.int (nI A), .int (nI B), .int hd, .ref h1, .ref h2, .int pu])), (h1, aN cI 1024 f), (h2, aN cI 64 pt)] → va_S (Aa [h, h1, h2] H0.size) H0 H locs → ∀ (ls : Array Slot), lv_has ls 4 [(3, .int (nI k - nI 1)), (2, .int (nI g)), (0, .ref h), (1, .int (nI q))] → W p l e { frames := 1, cells := 0, slots := 0, locals := 23 } s m ([.ref h, .int (nI q)] : List Value).toArray below meth c H locs 0 0 (MQx below (Rn (fun H1 => va_P D vcl [(h, .inr (1, [.int (nI A), .int (nI B), .int hd, .ref h1, .ref h2, .int pu])), (h1, aN cI 1024 (bck pt 64 q sl)), (h2, aN cI 64 pt)] H1)) s 0 0 (Aa [h, h1, h2] H0.size)) (F0 m 5 ls []) := by
    intro k
    induction k with
    | zero =>
      intro g f hk hf H locs hP hD hS ls hl
      refine lv_iload_n hx hb d_B_pushBack_5 rfl (lv_at hl 0 rfl) ?_
      refine lv_if_lt (tgt := 27) hx hb d_B_pushBack_6 (by decide) (fun c_6 => ?_) (fun c_6 => absurd (by decide) c_6)
      exact mx_vret hx hb hr hlk d_B_pushBack_27 (Nat.le_of_ble_eq_true rfl) (Nat.le_of_ble_eq_true rfl) hS.2.2 (⟨rfl, by rw [hf]; exact hP⟩)
    | succ k ih_5 =>
      intro g f hk hf H locs hP hD hS ls hl
      rw [show nI (k + 1) - nI 1 = nI k from pk_sub (by omega)] at hl
      have hl : lv_has ls 4 [(3, .int (nI k)), (2, .int (nI g)), (0, .ref h), (1, .int (nI q))] := hl
      refine lv_iload_n hx hb d_B_pushBack_5 rfl (lv_at hl 0 rfl) ?_
      refine lv_if_lt (tgt := 27) hx hb d_B_pushBack_6 (by decide) (fun c_6 => absurd c_6 (nI_pos (by omega))) (fun c_6 => ?_)
      refine lv_aload_n hx hb d_B_pushBack_9 rfl (lv_at hl 2 rfl) ?_
      refine lv_aload_n hx hb d_B_pushBack_10 rfl (lv_at hl 2 rfl) ?_
      refine va_get (D := D) (ci := 1) (v := .ref h2) (C := R_B) (T := T_B) (N := 6) hx hb (us_B G hW) (fun _ h => h) hown hK hP 0 rfl rfl 4 (by decide) (fl_B_15 G hW) (fun _ h9 => h9) rfl d_B_pushBack_11 ?_
      refine lv_iload_n hx hb d_B_pushBack_14 rfl (lv_at hl 0 rfl) ?_
      refine ia_ld hx hb hK hP 2 (j := k) rfl (by omega) (by decide) d_B_pushBack_15 ?_
      refine tp_i (y := (nI (pt k))) rfl ?_
      refine lv_iload_n hx hb d_B_pushBack_16 rfl (lv_at hl 1 rfl) ?_
      refine mx_callW (r := .int (nI (f (pt k)))) (c_B_exchange G h h1 h2 A B hd pu f pt (pt k) g hP hD (hpt k (by omega))) hW (iv_B_pushBack_17 G hx hb hown hW (va_recv hK hP (ci := 1) (q0 := 0) rfl rfl) [.int (nI (pt k)), .int (nI g)] [] rfl) hml hl.1 (by rw [hb]; exact d_B_pushBack_17) (cd_B_exchange G hW) ⟨Nat.le_of_ble_eq_true rfl, Nat.le_of_ble_eq_true rfl⟩ (Nat.le_of_ble_eq_true rfl) (Nat.le_of_ble_eq_true rfl) (Nat.le_of_ble_eq_true rfl) hS (Aa.mono (fun _ h => h) hS.1) (fun H locs hP _ _ hS => ?_)
      have hP : va_P D vcl [(h, .inr (1, [.int (nI A), .int (nI B), .int hd, .ref h1, .ref h2, .int pu])), (h1, aN cI 1024 (va_up f (pt k) g)), (h2, aN cI 64 pt)] H := hP
      have hD : va_D (Aa [h, h1, h2] H0.size) [(h, .inr (1, [.int (nI A), .int (nI B), .int hd, .ref h1, .ref h2, .int pu])), (h1, aN cI 1024 (va_up f (pt k) g)), (h2, aN cI 64 pt)] := va_D.same2 [h, h1, h2] hD rfl rfl
      refine lv_istore_n (lv' := [(2, .int (nI (f (pt k)))), (3, .int (nI k)), (0, .ref h), (1, .int (nI q))]) hx hb d_B_pushBack_20 rfl hl (by decide) rfl (fun ls hl => ?_)
      refine lv_iinc (v := (nI k - nI 1)) (lv' := [(3, .int (nI k - nI 1)), (2, .int (nI (f (pt k)))), (0, .ref h), (1, .int (nI q))]) hx hb d_B_pushBack_21 hl (k := 1) rfl (by rw [Int32.sub_eq_add_neg]; rfl) (by decide) rfl (fun ls hl => ?_)
      refine lv_goto (tgt := 5) hx hb d_B_pushBack_24 (by decide) ?_
      exact ih_5 (f (pt k)) (va_up f (pt k) g) (by omega) (hf) H locs hP hD hS ls (lv_sub hl [0, 1, 2, 3] rfl)
  exact loop_5 (64) (q) (sl) (by decide) (rfl) H0 [] hP hD hS ls (lv_sub hl [0, 1, 2, 3] rfl)

set_option maxHeartbeats 4000000 in
set_option maxRecDepth 100000 in
theorem c_B_pushInto {l : Launch} {s0 : State} {D : va_G} {cI cF cJ : ClassId} (G : Gx l s0 D cI cF cJ) (h h1 h2 A B : Nat) (hd pu : Int32) (sl pt : Nat → Nat) (bk q : Nat) {H0 : Heap} {A0 : Nat → Prop} (hP : va_P D vcl [(h, .inr (1, [.int (nI A), .int (nI B), .int hd, .ref h1, .ref h2, .int pu])), (h1, aN cI 1024 sl), (h2, aN cI 64 pt)] H0) (hD : va_D A0 [(h, .inr (1, [.int (nI A), .int (nI B), .int hd, .ref h1, .ref h2, .int pu])), (h1, aN cI 1024 sl), (h2, aN cI 64 pt)]) (hA : A ≤ 8) (hs : ∀ j, j < 1024 → sl j < 65536) (hbk : bk < 2 ^ A) (hq : q < 65536) : Mx l s0 y_B_pushInto (.code y_B_pushInto b_B_pushInto 6 (some .boolean)) { frames := 3, cells := 0, slots := 0, locals := 64 } [.ref h, .int (nI bk), .int (nI q)] H0 (Aa [h, h1, h2] H0.size) (Rw (.int (bI (psh A 64 0 bk q sl).1.isSome)) (fun H1 => ∃ pt1, va_P D vcl [(h, .inr (1, [.int (nI A), .int (nI B), .int hd, .ref h1, .ref h2, .int (pu + nI (psh A 64 0 bk q sl).2)])), (h1, aN cI 1024 ((psh A 64 0 bk q sl).1.getD sl)), (h2, aN cI 64 pt1)] H1)) := by
  refine Mx.ofW (own := "FewBits$Buckets") rfl rfl ?_
  rintro p e s m below meth c ⟨hx, hb, hml, hr, hown, hW, hlk⟩ hnm het hH
  have hK := G.k hW
  have hD := hD.aa (sz := H0.size)
  have hD : va_D (Aa [h, h1, h2] H0.size) [(h, .inr (1, [.int (nI A), .int (nI B), .int hd, .ref h1, .ref h2, .int pu])), (h1, aN cI 1024 sl), (h2, aN cI 64 pt)] := hD
  have hS : va_S (Aa [h, h1, h2] H0.size) H0 H0 [] := va_S.rf
  have h8 := p2_le hA
  have hpu : pu + nI 0 = pu := by rw [nI_0, Int32.add_zero]
  have hl := lv_entry ([.ref h, .int (nI bk), .int (nI q)]) (n := 6) (Nat.le_of_ble_eq_true rfl)
  rw [lg_entry_eq]
  generalize (lg_sl ([.ref h, .int (nI bk), .int (nI q)]) ++ List.replicate (6 - (lg_sl ([.ref h, .int (nI bk), .int (nI q)])).length) Slot.unset).toArray = ls at hl ⊢
  have hl : lv_has ls 6 [(0, .ref h), (1, .int (nI bk)), (2, .int (nI q))] := hl
  refine lv_iload_n hx hb d_B_pushInto_0 rfl (lv_at hl 1 rfl) ?_
  refine lv_istore_n (lv' := [(3, .int (nI bk)), (0, .ref h), (1, .int (nI bk)), (2, .int (nI q))]) hx hb d_B_pushInto_1 rfl hl (by decide) rfl (fun ls hl => ?_)
  refine lv_iload_n hx hb d_B_pushInto_2 rfl (lv_at hl 3 rfl) ?_
  refine lv_istore (lv' := [(4, .int (nI q)), (3, .int (nI bk)), (0, .ref h), (1, .int (nI bk)), (2, .int (nI q))]) hx hb d_B_pushInto_3 hl (by decide) rfl (fun ls hl => ?_)
  refine lv_iconst (v := (nI 0)) hx hb d_B_pushInto_5 (by decide) ?_
  refine lv_istore (lv' := [(5, .int (nI 0)), (4, .int (nI q)), (3, .int (nI bk)), (0, .ref h), (1, .int (nI bk)), (2, .int (nI q))]) hx hb d_B_pushInto_6 hl (by decide) rfl (fun ls hl => ?_)
  have loop_8 : ∀ (k : Nat) (i : Nat) (av : Nat) (g : Nat) (f : Nat → Nat) (r : Nat → Nat), (i + k = 64) → (av < 2 ^ A) → (g < 65536) → (∀ j, j < 1024 → f j < 65536) → (∀ j, j < i → r j < 1024) → ((psh A 64 0 bk q sl) = psh A k i av g f) → (bck r i g f = sl) → ∀ (H : Heap) (locs : List Loc), va_P D vcl [(h, .inr (1, [.int (nI A), .int (nI B), .int hd, .ref h1, .ref h2, .int (pu + nI i)])), (h1, aN cI 1024 f), (h2, aN cI 64 r)] H → va_D (Aa [h, h1, h2] H0.size) [(h, .inr (1, [.int (nI A), .int (nI B), .int hd, .ref h1, .ref h2, .int (pu + nI i)])), (h1, aN cI 1024 f), (h2, aN cI 64 r)] → va_S (Aa [h, h1, h2] H0.size) H0 H locs → ∀ (ls : Array Slot), lv_has ls 6 [(5, .int (nI i)), (4, .int (nI g)), (3, .int (nI av)), (0, .ref h), (1, .int (nI bk)), (2, .int (nI q))] → W p l e { frames := 3, cells := 0, slots := 0, locals := 64 } s m ([.ref h, .int (nI bk), .int (nI q)] : List Value).toArray below meth c H locs 0 0 (MQx below (Rw (.int (bI (psh A 64 0 bk q sl).1.isSome)) (fun H1 => ∃ pt1, va_P D vcl [(h, .inr (1, [.int (nI A), .int (nI B), .int hd, .ref h1, .ref h2, .int (pu + nI (psh A 64 0 bk q sl).2)])), (h1, aN cI 1024 ((psh A 64 0 bk q sl).1.getD sl)), (h2, aN cI 64 pt1)] H1)) s 0 0 (Aa [h, h1, h2] H0.size)) (F0 m 8 ls []) := by
    intro k
    induction k with
    | zero =>
      intro i av g f r hk hav hg hfs hrs hps hbk2 H locs hP hD hS ls hl
      refine lv_iload hx hb d_B_pushInto_8 (lv_at hl 0 rfl) ?_
      refine lv_bipush (v := (nI 64)) hx hb d_B_pushInto_10 (by decide) ?_
      refine lv_icmp_ge (tgt := 81) hx hb d_B_pushInto_12 (by decide) (fun c_12 => ?_) (fun c_12 => absurd (nI_le (by omega) (by omega)) c_12)
      obtain rfl : i = 64 := by omega
      refine lv_aload_n hx hb d_B_pushInto_81 rfl (lv_at hl 3 rfl) ?_
      refine lv_iload hx hb d_B_pushInto_82 (lv_at hl 1 rfl) ?_
      refine mx_callN (c_B_pushBack G h h1 h2 A B hd (pu + nI 64) f r g hP hD hrs) hW (iv_B_pushInto_84 G hx hb hown hW (va_recv hK hP (ci := 1) (q0 := 0) rfl rfl) [.int (nI g)] [] rfl) hml hl.1 (by rw [hb]; exact d_B_pushInto_84) (cd_B_pushBack G hW) ⟨Nat.le_of_ble_eq_true rfl, Nat.le_of_ble_eq_true rfl⟩ (Nat.le_of_ble_eq_true rfl) (Nat.le_of_ble_eq_true rfl) (Nat.le_of_ble_eq_true rfl) hS (Aa.mono (fun _ h => h) hS.1) (fun H locs hP _ _ hS => ?_)
      have hP : va_P D vcl [(h, .inr (1, [.int (nI A), .int (nI B), .int hd, .ref h1, .ref h2, .int (pu + nI 64)])), (h1, aN cI 1024 (bck r 64 g f)), (h2, aN cI 64 r)] H := hP
      have hD : va_D (Aa [h, h1, h2] H0.size) [(h, .inr (1, [.int (nI A), .int (nI B), .int hd, .ref h1, .ref h2, .int (pu + nI 64)])), (h1, aN cI 1024 (bck r 64 g f)), (h2, aN cI 64 r)] := va_D.same2 [h, h1, h2] hD rfl rfl
      refine lv_iconst (v := (nI 0)) hx hb d_B_pushInto_87 (by decide) ?_
      exact mx_zret hx hb hr hlk d_B_pushInto_88 (Nat.le_of_ble_eq_true rfl) (Nat.le_of_ble_eq_true rfl) hS.2.2 (rfl) (⟨by rw [hps]; rfl, r, by rw [hps]; rw [hbk2] at hP; exact hP⟩)
    | succ k ih_8 =>
      intro i av g f r hk hav hg hfs hrs hps hbk2 H locs hP hD hS ls hl
      refine lv_iload hx hb d_B_pushInto_8 (lv_at hl 0 rfl) ?_
      refine lv_bipush (v := (nI 64)) hx hb d_B_pushInto_10 (by decide) ?_
      refine lv_icmp_ge (tgt := 81) hx hb d_B_pushInto_12 (by decide) (fun c_12 => absurd c_12 (nI_ge (by omega) (by omega))) (fun c_12 => ?_)
      refine lv_aload_n hx hb d_B_pushInto_15 rfl (lv_at hl 3 rfl) ?_
      refine va_get (D := D) (ci := 1) (v := .ref h2) (C := R_B) (T := T_B) (N := 6) hx hb (us_B G hW) (fun _ h => h) hown hK hP 0 rfl rfl 4 (by decide) (fl_B_15 G hW) (fun _ h9 => h9) rfl d_B_pushInto_16 ?_
      refine lv_iload hx hb d_B_pushInto_19 (lv_at hl 0 rfl) ?_
      refine lv_iload_n hx hb d_B_pushInto_21 rfl (lv_at hl 2 rfl) ?_
      refine lv_iconst (v := (nI 4)) hx hb d_B_pushInto_22 (by decide) ?_
      refine lv_imul hx hb d_B_pushInto_23 ?_
      refine tp_i (y := (nI (4 * av))) (by rw [pk_mul, Nat.mul_comm]) ?_
      refine lv_iload hx hb d_B_pushInto_24 (lv_at hl 0 rfl) ?_
      refine lv_iconst (v := (nI 4)) hx hb d_B_pushInto_26 (by decide) ?_
      refine lv_irem hx hb d_B_pushInto_27 (by decide) ?_
      refine tp_i (y := (nI (i % 4))) (pk_rem (by omega) (by decide) (by decide)) ?_
      refine lv_iadd hx hb d_B_pushInto_28 ?_
      refine tp_i (y := (nI (4 * av + i % 4))) (nI_add _ _) ?_
      refine ia_stN hx hb hK hP hD hS 2 (j := i) (x := (4 * av + i % 4)) (f := r) rfl (by omega) (by decide) d_B_pushInto_29 (fun H locs hP hD hS => ?_)
      have hP : va_P D vcl [(h, .inr (1, [.int (nI A), .int (nI B), .int hd, .ref h1, .ref h2, .int (pu + nI i)])), (h1, aN cI 1024 f), (h2, aN cI 64 (va_up r i (4 * av + i % 4)))] H := hP
      have hD : va_D (Aa [h, h1, h2] H0.size) [(h, .inr (1, [.int (nI A), .int (nI B), .int hd, .ref h1, .ref h2, .int (pu + nI i)])), (h1, aN cI 1024 f), (h2, aN cI 64 (va_up r i (4 * av + i % 4)))] := hD
      refine lv_aload_n hx hb d_B_pushInto_30 rfl (lv_at hl 3 rfl) ?_
      refine lv_aload_n hx hb d_B_pushInto_31 rfl (lv_at hl 3 rfl) ?_
      refine va_get (D := D) (ci := 1) (v := .ref h2) (C := R_B) (T := T_B) (N := 6) hx hb (us_B G hW) (fun _ h => h) hown hK hP 0 rfl rfl 4 (by decide) (fl_B_15 G hW) (fun _ h9 => h9) rfl d_B_pushInto_32 ?_
      refine lv_iload hx hb d_B_pushInto_35 (lv_at hl 0 rfl) ?_
      refine ia_ld hx hb hK hP 2 (j := i) rfl (by omega) (by decide) d_B_pushInto_37 ?_
      refine tp_i (y := (nI ((va_up r i (4 * av + i % 4)) i))) rfl ?_
      refine tp_i (y := (nI (4 * av + i % 4))) (by rw [va_up_self]) ?_
      refine lv_iload hx hb d_B_pushInto_38 (lv_at hl 1 rfl) ?_
      refine mx_callW (r := .int (nI (f (4 * av + i % 4)))) (c_B_exchange G h h1 h2 A B hd (pu + nI i) f (va_up r i (4 * av + i % 4)) (4 * av + i % 4) g hP hD (by omega)) hW (iv_B_pushInto_40 G hx hb hown hW (va_recv hK hP (ci := 1) (q0 := 0) rfl rfl) [.int (nI (4 * av + i % 4)), .int (nI g)] [] rfl) hml hl.1 (by rw [hb]; exact d_B_pushInto_40) (cd_B_exchange G hW) ⟨Nat.le_of_ble_eq_true rfl, Nat.le_of_ble_eq_true rfl⟩ (Nat.le_of_ble_eq_true rfl) (Nat.le_of_ble_eq_true rfl) (Nat.le_of_ble_eq_true rfl) hS (Aa.mono (fun _ h => h) hS.1) (fun H locs hP _ _ hS => ?_)
      have hP : va_P D vcl [(h, .inr (1, [.int (nI A), .int (nI B), .int hd, .ref h1, .ref h2, .int (pu + nI i)])), (h1, aN cI 1024 (va_up f (4 * av + i % 4) g)), (h2, aN cI 64 (va_up r i (4 * av + i % 4)))] H := hP
      have hD : va_D (Aa [h, h1, h2] H0.size) [(h, .inr (1, [.int (nI A), .int (nI B), .int hd, .ref h1, .ref h2, .int (pu + nI i)])), (h1, aN cI 1024 (va_up f (4 * av + i % 4) g)), (h2, aN cI 64 (va_up r i (4 * av + i % 4)))] := va_D.same2 [h, h1, h2] hD rfl rfl
      refine lv_istore (lv' := [(4, .int (nI (f (4 * av + i % 4)))), (5, .int (nI i)), (3, .int (nI av)), (0, .ref h), (1, .int (nI bk)), (2, .int (nI q))]) hx hb d_B_pushInto_43 hl (by decide) rfl (fun ls hl => ?_)
      refine lv_aload_n hx hb d_B_pushInto_45 rfl (lv_at hl 3 rfl) ?_
      refine lv_dup hx hb d_B_pushInto_46 rfl ?_
      refine va_get (D := D) (ci := 1) (v := .int (pu + nI i)) (C := R_B) (T := T_B) (N := 6) hx hb (us_B G hW) (fun _ h => h) hown hK hP 0 rfl rfl 5 (by decide) (fl_B_28 G hW) (fun _ h9 => h9) rfl d_B_pushInto_47 ?_
      refine lv_iconst (v := (nI 1)) hx hb d_B_pushInto_50 (by decide) ?_
      refine lv_iadd hx hb d_B_pushInto_51 ?_
      refine tp_i (y := (pu + nI (i + 1))) (by rw [Int32.add_assoc, nI_add]) ?_
      refine va_put (D := D) (ci := 1) (v := .int (pu + nI (i + 1))) (ty := .int) (C := R_B) (T := T_B) (N := 6) hx hb (us_B G hW) (fun _ h => h) t_B to_B nm_B hown hK hP hD hS 0 rfl rfl 5 (by decide) (fl_B_28 G hW) (fun _ h9 => h9) rfl (by decide +kernel) rfl rfl (Nat.le_of_ble_eq_true rfl) d_B_pushInto_52 (fun H locs hP hD hS => ?_)
      have hP : va_P D vcl [(h, .inr (1, [.int (nI A), .int (nI B), .int hd, .ref h1, .ref h2, .int (pu + nI (i + 1))])), (h1, aN cI 1024 (va_up f (4 * av + i % 4) g)), (h2, aN cI 64 (va_up r i (4 * av + i % 4)))] H := hP
      have hD : va_D (Aa [h, h1, h2] H0.size) [(h, .inr (1, [.int (nI A), .int (nI B), .int hd, .ref h1, .ref h2, .int (pu + nI (i + 1))])), (h1, aN cI 1024 (va_up f (4 * av + i % 4) g)), (h2, aN cI 64 (va_up r i (4 * av + i % 4)))] := hD
      refine lv_aload_n hx hb d_B_pushInto_55 rfl (lv_at hl 3 rfl) ?_
      refine lv_iload_n hx hb d_B_pushInto_56 rfl (lv_at hl 2 rfl) ?_
      refine lv_iload hx hb d_B_pushInto_57 (lv_at hl 0 rfl) ?_
      refine mx_callR (r := .int (nI (obN A av (f (4 * av + i % 4))))) (c_B_otherBucket G h h1 h2 A B hd (pu + nI (i + 1)) (va_up f (4 * av + i % 4) g) (va_up r i (4 * av + i % 4)) av (f (4 * av + i % 4)) hP hA) hW (iv_B_pushInto_59 G hx hb hown hW (va_recv hK hP (ci := 1) (q0 := 0) rfl rfl) [.int (nI av), .int (nI (f (4 * av + i % 4)))] [] rfl) hml hl.1 (by rw [hb]; exact d_B_pushInto_59) (cd_B_otherBucket G hW) ⟨Nat.le_of_ble_eq_true rfl, Nat.le_of_ble_eq_true rfl⟩ rfl rfl (Nat.le_of_ble_eq_true rfl) (Nat.le_of_ble_eq_true rfl) (Nat.le_of_ble_eq_true rfl) ?_
      refine lv_istore_n (lv' := [(3, .int (nI (obN A av (f (4 * av + i % 4))))), (4, .int (nI (f (4 * av + i % 4)))), (5, .int (nI i)), (0, .ref h), (1, .int (nI bk)), (2, .int (nI q))]) hx hb d_B_pushInto_62 rfl hl (by decide) rfl (fun ls hl => ?_)
      refine lv_aload_n hx hb d_B_pushInto_63 rfl (lv_at hl 3 rfl) ?_
      refine lv_iload_n hx hb d_B_pushInto_64 rfl (lv_at hl 0 rfl) ?_
      refine lv_iload hx hb d_B_pushInto_65 (lv_at hl 1 rfl) ?_
      refine mx_callW (r := .int (bI (fnd (va_up f (4 * av + i % 4) g) 0 (4 * (obN A av (f (4 * av + i % 4)))) 4).isSome)) (c_B_putFree G h h1 h2 A B hd (pu + nI (i + 1)) (va_up f (4 * av + i % 4) g) (va_up r i (4 * av + i % 4)) (obN A av (f (4 * av + i % 4))) (f (4 * av + i % 4)) hP hD hA (up_lt hfs hg) (obN_lt hav _)) hW (iv_B_pushInto_67 G hx hb hown hW (va_recv hK hP (ci := 1) (q0 := 0) rfl rfl) [.int (nI (obN A av (f (4 * av + i % 4)))), .int (nI (f (4 * av + i % 4)))] [] rfl) hml hl.1 (by rw [hb]; exact d_B_pushInto_67) (cd_B_putFree G hW) ⟨Nat.le_of_ble_eq_true rfl, Nat.le_of_ble_eq_true rfl⟩ (Nat.le_of_ble_eq_true rfl) (Nat.le_of_ble_eq_true rfl) (Nat.le_of_ble_eq_true rfl) hS (Aa.mono (fun _ h => h) hS.1) (fun H locs hP _ _ hS => ?_)
      have hP : va_P D vcl [(h, .inr (1, [.int (nI A), .int (nI B), .int hd, .ref h1, .ref h2, .int (pu + nI (i + 1))])), (h1, aN cI 1024 (pfB (va_up f (4 * av + i % 4) g) (obN A av (f (4 * av + i % 4))) (f (4 * av + i % 4)))), (h2, aN cI 64 (va_up r i (4 * av + i % 4)))] H := hP
      have hD : va_D (Aa [h, h1, h2] H0.size) [(h, .inr (1, [.int (nI A), .int (nI B), .int hd, .ref h1, .ref h2, .int (pu + nI (i + 1))])), (h1, aN cI 1024 (pfB (va_up f (4 * av + i % 4) g) (obN A av (f (4 * av + i % 4))) (f (4 * av + i % 4)))), (h2, aN cI 64 (va_up r i (4 * av + i % 4)))] := va_D.same2 [h, h1, h2] hD rfl rfl
      refine lv_if_eq (tgt := 75) hx hb d_B_pushInto_70 (by decide) (fun c_70 => ?_) (fun c_70 => ?_)
      · have hn := sm_f (bI_f c_70)
        rw [pfB_n hn] at hP hD
        have hP : va_P D vcl [(h, .inr (1, [.int (nI A), .int (nI B), .int hd, .ref h1, .ref h2, .int (pu + nI (i + 1))])), (h1, aN cI 1024 (va_up f (4 * av + i % 4) g)), (h2, aN cI 64 (va_up r i (4 * av + i % 4)))] H := hP
        have hD : va_D (Aa [h, h1, h2] H0.size) [(h, .inr (1, [.int (nI A), .int (nI B), .int hd, .ref h1, .ref h2, .int (pu + nI (i + 1))])), (h1, aN cI 1024 (va_up f (4 * av + i % 4) g)), (h2, aN cI 64 (va_up r i (4 * av + i % 4)))] := hD
        refine lv_iinc (v := (nI (i + 1))) (lv' := [(5, .int (nI (i + 1))), (3, .int (nI (obN A av (f (4 * av + i % 4))))), (4, .int (nI (f (4 * av + i % 4)))), (0, .ref h), (1, .int (nI bk)), (2, .int (nI q))]) hx hb d_B_pushInto_75 hl (k := 2) rfl (nI_1 _) (by decide) rfl (fun ls hl => ?_)
        refine lv_goto (tgt := 8) hx hb d_B_pushInto_78 (by decide) ?_
        exact ih_8 (i + 1) ((obN A av (f (4 * av + i % 4)))) (f (4 * av + i % 4)) ((va_up f (4 * av + i % 4) g)) ((va_up r i (4 * av + i % 4))) (by omega) (obN_lt hav _) (hfs _ (by omega)) (up_lt hfs hg) (up_lt2 hrs (by omega)) (by rw [hps, psh_n hn]) (by rw [bck_step]; exact hbk2) H locs hP hD hS ls (lv_sub hl [0, 2, 1, 3, 4, 5] rfl)
      · obtain ⟨j, hj⟩ := sm_t (bI_t c_70)
        refine lv_iconst (v := (nI 1)) hx hb d_B_pushInto_73 (by decide) ?_
        exact mx_zret hx hb hr hlk d_B_pushInto_74 (Nat.le_of_ble_eq_true rfl) (Nat.le_of_ble_eq_true rfl) hS.2.2 (rfl) (⟨by rw [hps, psh_s hj]; rfl, _, by rw [hps, psh_s hj]; rw [pfB_s hj] at hP; exact hP⟩)
  rw [← hpu] at hP hD
  exact loop_8 (64) (0) (bk) (q) (sl) (pt) (by omega) (hbk) (hq) (hs) (fun j hj => absurd hj (by omega)) (rfl) (rfl) H0 [] hP hD hS ls (lv_sub hl [0, 1, 2, 3, 4, 5] rfl)

set_option maxHeartbeats 4000000 in
set_option maxRecDepth 100000 in
theorem c_B_put {l : Launch} {s0 : State} {D : va_G} {cI cF cJ : ClassId} (G : Gx l s0 D cI cF cJ) (h h1 h2 A B : Nat) (hd pu : Int32) (sl pt : Nat → Nat) (x : Int64) {H0 : Heap} {A0 : Nat → Prop} (hP : va_P D vcl [(h, .inr (1, [.int (nI A), .int (nI B), .int hd, .ref h1, .ref h2, .int pu])), (h1, aN cI 1024 sl), (h2, aN cI 64 pt)] H0) (hD : va_D A0 [(h, .inr (1, [.int (nI A), .int (nI B), .int hd, .ref h1, .ref h2, .int pu])), (h1, aN cI 1024 sl), (h2, aN cI 64 pt)]) (hA : A ≤ 8) (hB4 : 4 ≤ B) (hB : B ≤ 16) (hs : ∀ j, j < 1024 → sl j < 65536) : Mx l s0 y_B_put (.code y_B_put b_B_put 6 (some .boolean)) { frames := 4, cells := 0, slots := 0, locals := 89 } [.ref h, .long x] H0 (Aa [h, h1, h2] H0.size) (Rw (.int (bI (putB A B x sl).1.isSome)) (fun H1 => ∃ pt1, va_P D vcl [(h, .inr (1, [.int (nI A), .int (nI B), .int hd, .ref h1, .ref h2, .int (pu + nI (putB A B x sl).2)])), (h1, aN cI 1024 ((putB A B x sl).1.getD sl)), (h2, aN cI 64 pt1)] H1)) := by
  refine Mx.ofW (own := "FewBits$Buckets") rfl rfl ?_
  rintro p e s m below meth c ⟨hx, hb, hml, hr, hown, hW, hlk⟩ hnm het hH
  have hK := G.k hW
  have hD := hD.aa (sz := H0.size)
  have hD : va_D (Aa [h, h1, h2] H0.size) [(h, .inr (1, [.int (nI A), .int (nI B), .int hd, .ref h1, .ref h2, .int pu])), (h1, aN cI 1024 sl), (h2, aN cI 64 pt)] := hD
  have hS : va_S (Aa [h, h1, h2] H0.size) H0 H0 [] := va_S.rf
  have h8 := p2_le hA
  have hpu : pu + nI 0 = pu := by rw [nI_0, Int32.add_zero]
  have hl := lv_entry ([.ref h, .long x]) (n := 6) (Nat.le_of_ble_eq_true rfl)
  rw [lg_entry_eq]
  generalize (lg_sl ([.ref h, .long x]) ++ List.replicate (6 - (lg_sl ([.ref h, .long x])).length) Slot.unset).toArray = ls at hl ⊢
  have hl : lv_has ls 6 [(0, .ref h), (1, .long x)] := hl
  refine lv_aload_n hx hb d_B_put_0 rfl (lv_at hl 0 rfl) ?_
  refine lv_lload_n hx hb d_B_put_1 rfl (lv_at hl 1 rfl) ?_
  refine mx_callR (r := .int (nI (fpN B x))) (c_B_fingerprint G h h1 h2 A B hd pu sl pt x hP hA hB4 hB) hW (iv_B_put_2 G hx hb hown hW (va_recv hK hP (ci := 1) (q0 := 0) rfl rfl) [.long x] [] rfl) hml hl.1 (by rw [hb]; exact d_B_put_2) (cd_B_fingerprint G hW) ⟨Nat.le_of_ble_eq_true rfl, Nat.le_of_ble_eq_true rfl⟩ rfl rfl (Nat.le_of_ble_eq_true rfl) (Nat.le_of_ble_eq_true rfl) (Nat.le_of_ble_eq_true rfl) ?_
  refine lv_istore_n (lv' := [(3, .int (nI (fpN B x))), (0, .ref h), (1, .long x)]) hx hb d_B_put_5 rfl hl (by decide) rfl (fun ls hl => ?_)
  refine lv_aload_n hx hb d_B_put_6 rfl (lv_at hl 1 rfl) ?_
  refine lv_lload_n hx hb d_B_put_7 rfl (lv_at hl 2 rfl) ?_
  refine mx_callR (r := .int (nI (fbN A x))) (c_B_firstBucket G h h1 h2 A B hd pu sl pt x hP hA) hW (iv_B_put_8 G hx hb hown hW (va_recv hK hP (ci := 1) (q0 := 0) rfl rfl) [.long x] [] rfl) hml hl.1 (by rw [hb]; exact d_B_put_8) (cd_B_firstBucket G hW) ⟨Nat.le_of_ble_eq_true rfl, Nat.le_of_ble_eq_true rfl⟩ rfl rfl (Nat.le_of_ble_eq_true rfl) (Nat.le_of_ble_eq_true rfl) (Nat.le_of_ble_eq_true rfl) ?_
  refine lv_istore (lv' := [(4, .int (nI (fbN A x))), (3, .int (nI (fpN B x))), (0, .ref h), (1, .long x)]) hx hb d_B_put_11 hl (by decide) rfl (fun ls hl => ?_)
  refine lv_aload_n hx hb d_B_put_13 rfl (lv_at hl 2 rfl) ?_
  refine lv_iload hx hb d_B_put_14 (lv_at hl 0 rfl) ?_
  refine lv_iload_n hx hb d_B_put_16 rfl (lv_at hl 1 rfl) ?_
  refine mx_callR (r := .int (nI (obN A (fbN A x) (fpN B x)))) (c_B_otherBucket G h h1 h2 A B hd pu sl pt (fbN A x) (fpN B x) hP hA) hW (iv_B_put_17 G hx hb hown hW (va_recv hK hP (ci := 1) (q0 := 0) rfl rfl) [.int (nI (fbN A x)), .int (nI (fpN B x))] [] rfl) hml hl.1 (by rw [hb]; exact d_B_put_17) (cd_B_otherBucket G hW) ⟨Nat.le_of_ble_eq_true rfl, Nat.le_of_ble_eq_true rfl⟩ rfl rfl (Nat.le_of_ble_eq_true rfl) (Nat.le_of_ble_eq_true rfl) (Nat.le_of_ble_eq_true rfl) ?_
  refine lv_istore (lv' := [(5, .int (nI (obN A (fbN A x) (fpN B x)))), (4, .int (nI (fbN A x))), (3, .int (nI (fpN B x))), (0, .ref h), (1, .long x)]) hx hb d_B_put_20 hl (by decide) rfl (fun ls hl => ?_)
  refine lv_aload_n hx hb d_B_put_22 rfl (lv_at hl 3 rfl) ?_
  refine lv_iload hx hb d_B_put_23 (lv_at hl 1 rfl) ?_
  refine lv_iload_n hx hb d_B_put_25 rfl (lv_at hl 2 rfl) ?_
  refine mx_callW (r := .int (bI (fnd sl 0 (4 * (fbN A x)) 4).isSome)) (c_B_putFree G h h1 h2 A B hd pu sl pt (fbN A x) (fpN B x) hP hD hA hs (fbN_lt A x)) hW (iv_B_put_26 G hx hb hown hW (va_recv hK hP (ci := 1) (q0 := 0) rfl rfl) [.int (nI (fbN A x)), .int (nI (fpN B x))] [] rfl) hml hl.1 (by rw [hb]; exact d_B_put_26) (cd_B_putFree G hW) ⟨Nat.le_of_ble_eq_true rfl, Nat.le_of_ble_eq_true rfl⟩ (Nat.le_of_ble_eq_true rfl) (Nat.le_of_ble_eq_true rfl) (Nat.le_of_ble_eq_true rfl) hS (Aa.mono (fun _ h => h) hS.1) (fun H locs hP _ _ hS => ?_)
  have hP : va_P D vcl [(h, .inr (1, [.int (nI A), .int (nI B), .int hd, .ref h1, .ref h2, .int pu])), (h1, aN cI 1024 (pfB sl (fbN A x) (fpN B x))), (h2, aN cI 64 pt)] H := hP
  have hD : va_D (Aa [h, h1, h2] H0.size) [(h, .inr (1, [.int (nI A), .int (nI B), .int hd, .ref h1, .ref h2, .int pu])), (h1, aN cI 1024 (pfB sl (fbN A x) (fpN B x))), (h2, aN cI 64 pt)] := va_D.same2 [h, h1, h2] hD rfl rfl
  refine lv_if_ne (tgt := 52) hx hb d_B_put_29 (by decide) (fun c_29 => ?_) (fun c_29 => ?_)
  · refine lv_iconst (v := (nI 1)) hx hb d_B_put_52 (by decide) ?_
    refine lv_goto (tgt := 57) hx hb d_B_put_53 (by decide) ?_
    exact mx_zret hx hb hr hlk d_B_put_57 (Nat.le_of_ble_eq_true rfl) (Nat.le_of_ble_eq_true rfl) hS.2.2 (rfl) (by obtain ⟨j, hj⟩ := sm_t (bI_t c_29); exact ⟨by rw [putB_1 hj]; rfl, pt, by rw [putB_1 hj]; rw [pfB_s hj] at hP; show va_P D vcl [(h, .inr (1, [.int (nI A), .int (nI B), .int hd, .ref h1, .ref h2, .int (pu + nI 0)])), (h1, aN cI 1024 (va_up sl j (fpN B x))), (h2, aN cI 64 pt)] H; rw [hpu]; exact hP⟩)
  · have hn := sm_f (bI_f c_29)
    rw [pfB_n hn] at hP hD
    have hP : va_P D vcl [(h, .inr (1, [.int (nI A), .int (nI B), .int hd, .ref h1, .ref h2, .int pu])), (h1, aN cI 1024 sl), (h2, aN cI 64 pt)] H := hP
    have hD : va_D (Aa [h, h1, h2] H0.size) [(h, .inr (1, [.int (nI A), .int (nI B), .int hd, .ref h1, .ref h2, .int pu])), (h1, aN cI 1024 sl), (h2, aN cI 64 pt)] := hD
    refine lv_aload_n hx hb d_B_put_32 rfl (lv_at hl 3 rfl) ?_
    refine lv_iload hx hb d_B_put_33 (lv_at hl 0 rfl) ?_
    refine lv_iload_n hx hb d_B_put_35 rfl (lv_at hl 2 rfl) ?_
    refine mx_callW (r := .int (bI (fnd sl 0 (4 * (obN A (fbN A x) (fpN B x))) 4).isSome)) (c_B_putFree G h h1 h2 A B hd pu sl pt (obN A (fbN A x) (fpN B x)) (fpN B x) hP hD hA hs (obN_lt (fbN_lt A x) _)) hW (iv_B_put_36 G hx hb hown hW (va_recv hK hP (ci := 1) (q0 := 0) rfl rfl) [.int (nI (obN A (fbN A x) (fpN B x))), .int (nI (fpN B x))] [] rfl) hml hl.1 (by rw [hb]; exact d_B_put_36) (cd_B_putFree G hW) ⟨Nat.le_of_ble_eq_true rfl, Nat.le_of_ble_eq_true rfl⟩ (Nat.le_of_ble_eq_true rfl) (Nat.le_of_ble_eq_true rfl) (Nat.le_of_ble_eq_true rfl) hS (Aa.mono (fun _ h => h) hS.1) (fun H locs hP _ _ hS => ?_)
    have hP : va_P D vcl [(h, .inr (1, [.int (nI A), .int (nI B), .int hd, .ref h1, .ref h2, .int pu])), (h1, aN cI 1024 (pfB sl (obN A (fbN A x) (fpN B x)) (fpN B x))), (h2, aN cI 64 pt)] H := hP
    have hD : va_D (Aa [h, h1, h2] H0.size) [(h, .inr (1, [.int (nI A), .int (nI B), .int hd, .ref h1, .ref h2, .int pu])), (h1, aN cI 1024 (pfB sl (obN A (fbN A x) (fpN B x)) (fpN B x))), (h2, aN cI 64 pt)] := va_D.same2 [h, h1, h2] hD rfl rfl
    refine lv_if_ne (tgt := 52) hx hb d_B_put_39 (by decide) (fun c_39 => ?_) (fun c_39 => ?_)
    · refine lv_iconst (v := (nI 1)) hx hb d_B_put_52 (by decide) ?_
      refine lv_goto (tgt := 57) hx hb d_B_put_53 (by decide) ?_
      exact mx_zret hx hb hr hlk d_B_put_57 (Nat.le_of_ble_eq_true rfl) (Nat.le_of_ble_eq_true rfl) hS.2.2 (rfl) (by obtain ⟨j, hj⟩ := sm_t (bI_t c_39); exact ⟨by rw [putB_2 hn hj]; rfl, pt, by rw [putB_2 hn hj]; rw [pfB_s hj] at hP; show va_P D vcl [(h, .inr (1, [.int (nI A), .int (nI B), .int hd, .ref h1, .ref h2, .int (pu + nI 0)])), (h1, aN cI 1024 (va_up sl j (fpN B x))), (h2, aN cI 64 pt)] H; rw [hpu]; exact hP⟩)
    · have hn2 := sm_f (bI_f c_39)
      rw [pfB_n hn2] at hP hD
      have hP : va_P D vcl [(h, .inr (1, [.int (nI A), .int (nI B), .int hd, .ref h1, .ref h2, .int pu])), (h1, aN cI 1024 sl), (h2, aN cI 64 pt)] H := hP
      have hD : va_D (Aa [h, h1, h2] H0.size) [(h, .inr (1, [.int (nI A), .int (nI B), .int hd, .ref h1, .ref h2, .int pu])), (h1, aN cI 1024 sl), (h2, aN cI 64 pt)] := hD
      refine lv_aload_n hx hb d_B_put_42 rfl (lv_at hl 3 rfl) ?_
      refine lv_iload hx hb d_B_put_43 (lv_at hl 0 rfl) ?_
      refine lv_iload_n hx hb d_B_put_45 rfl (lv_at hl 2 rfl) ?_
      refine mx_callW (r := .int (bI (psh A 64 0 (obN A (fbN A x) (fpN B x)) (fpN B x) sl).1.isSome)) (c_B_pushInto G h h1 h2 A B hd pu sl pt (obN A (fbN A x) (fpN B x)) (fpN B x) hP hD hA hs (obN_lt (fbN_lt A x) _) (fpN_lt hB4 hB x)) hW (iv_B_put_46 G hx hb hown hW (va_recv hK hP (ci := 1) (q0 := 0) rfl rfl) [.int (nI (obN A (fbN A x) (fpN B x))), .int (nI (fpN B x))] [] rfl) hml hl.1 (by rw [hb]; exact d_B_put_46) (cd_B_pushInto G hW) ⟨Nat.le_of_ble_eq_true rfl, Nat.le_of_ble_eq_true rfl⟩ (Nat.le_of_ble_eq_true rfl) (Nat.le_of_ble_eq_true rfl) (Nat.le_of_ble_eq_true rfl) hS (Aa.mono (fun _ h => h) hS.1) (fun H locs hP _ _ hS => ?_)
      obtain ⟨pt1, hP⟩ := hP
      have hP : va_P D vcl [(h, .inr (1, [.int (nI A), .int (nI B), .int hd, .ref h1, .ref h2, .int (pu + nI (psh A 64 0 (obN A (fbN A x) (fpN B x)) (fpN B x) sl).2)])), (h1, aN cI 1024 ((psh A 64 0 (obN A (fbN A x) (fpN B x)) (fpN B x) sl).1.getD sl)), (h2, aN cI 64 pt1)] H := hP
      have hD : va_D (Aa [h, h1, h2] H0.size) [(h, .inr (1, [.int (nI A), .int (nI B), .int hd, .ref h1, .ref h2, .int (pu + nI (psh A 64 0 (obN A (fbN A x) (fpN B x)) (fpN B x) sl).2)])), (h1, aN cI 1024 ((psh A 64 0 (obN A (fbN A x) (fpN B x)) (fpN B x) sl).1.getD sl)), (h2, aN cI 64 pt1)] := va_D.same2 [h, h1, h2] hD rfl rfl
      refine lv_if_eq (tgt := 56) hx hb d_B_put_49 (by decide) (fun c_49 => ?_) (fun c_49 => ?_)
      · refine lv_iconst (v := (nI 0)) hx hb d_B_put_56 (by decide) ?_
        exact mx_zret hx hb hr hlk d_B_put_57 (Nat.le_of_ble_eq_true rfl) (Nat.le_of_ble_eq_true rfl) hS.2.2 (rfl) (⟨by rw [putB_3 hn hn2, bI_f c_49]; rfl, pt1, by rw [putB_3 hn hn2]; exact hP⟩)
      · refine lv_iconst (v := (nI 1)) hx hb d_B_put_52 (by decide) ?_
        refine lv_goto (tgt := 57) hx hb d_B_put_53 (by decide) ?_
        exact mx_zret hx hb hr hlk d_B_put_57 (Nat.le_of_ble_eq_true rfl) (Nat.le_of_ble_eq_true rfl) hS.2.2 (rfl) (⟨by rw [putB_3 hn hn2, bI_t c_49]; rfl, pt1, by rw [putB_3 hn hn2]; exact hP⟩)

set_option maxHeartbeats 4000000 in
set_option maxRecDepth 100000 in
theorem c_B_slotOf {l : Launch} {s0 : State} {D : va_G} {cI cF cJ : ClassId} (G : Gx l s0 D cI cF cJ) (h h1 h2 A B : Nat) (hd pu : Int32) (sl pt : Nat → Nat) (x : Int64) {H0 : Heap} (hP : va_P D vcl [(h, .inr (1, [.int (nI A), .int (nI B), .int hd, .ref h1, .ref h2, .int pu])), (h1, aN cI 1024 sl), (h2, aN cI 64 pt)] H0) (hA : A ≤ 8) (hB4 : 4 ≤ B) (hB : B ≤ 16) (hs : ∀ j, j < 1024 → sl j < 65536) : Mx l s0 y_B_slotOf (.code y_B_slotOf b_B_slotOf 6 (some .int)) { frames := 3, cells := 0, slots := 0, locals := 64 } [.ref h, .long x] H0 (fun _ => False) (Rd H0 (.int (oI (slotB A B x sl)))) := by
  refine Mx.ofW (own := "FewBits$Buckets") rfl rfl ?_
  rintro p e s m below meth c ⟨hx, hb, hml, hr, hown, hW, hlk⟩ hnm het hH
  have hK := G.k hW
  have h8 := p2_le hA
  have h91 := fbN_lt A x
  have hl := lv_entry ([.ref h, .long x]) (n := 6) (Nat.le_of_ble_eq_true rfl)
  rw [lg_entry_eq]
  generalize (lg_sl ([.ref h, .long x]) ++ List.replicate (6 - (lg_sl ([.ref h, .long x])).length) Slot.unset).toArray = ls at hl ⊢
  have hl : lv_has ls 6 [(0, .ref h), (1, .long x)] := hl
  refine lv_aload_n hx hb d_B_slotOf_0 rfl (lv_at hl 0 rfl) ?_
  refine lv_lload_n hx hb d_B_slotOf_1 rfl (lv_at hl 1 rfl) ?_
  refine mx_callR (r := .int (nI (fpN B x))) (c_B_fingerprint G h h1 h2 A B hd pu sl pt x hP hA hB4 hB) hW (iv_B_slotOf_2 G hx hb hown hW (va_recv hK hP (ci := 1) (q0 := 0) rfl rfl) [.long x] [] rfl) hml hl.1 (by rw [hb]; exact d_B_slotOf_2) (cd_B_fingerprint G hW) ⟨Nat.le_of_ble_eq_true rfl, Nat.le_of_ble_eq_true rfl⟩ rfl rfl (Nat.le_of_ble_eq_true rfl) (Nat.le_of_ble_eq_true rfl) (Nat.le_of_ble_eq_true rfl) ?_
  refine lv_istore_n (lv' := [(3, .int (nI (fpN B x))), (0, .ref h), (1, .long x)]) hx hb d_B_slotOf_5 rfl hl (by decide) rfl (fun ls hl => ?_)
  refine lv_aload_n hx hb d_B_slotOf_6 rfl (lv_at hl 1 rfl) ?_
  refine lv_lload_n hx hb d_B_slotOf_7 rfl (lv_at hl 2 rfl) ?_
  refine mx_callR (r := .int (nI (fbN A x))) (c_B_firstBucket G h h1 h2 A B hd pu sl pt x hP hA) hW (iv_B_slotOf_8 G hx hb hown hW (va_recv hK hP (ci := 1) (q0 := 0) rfl rfl) [.long x] [] rfl) hml hl.1 (by rw [hb]; exact d_B_slotOf_8) (cd_B_firstBucket G hW) ⟨Nat.le_of_ble_eq_true rfl, Nat.le_of_ble_eq_true rfl⟩ rfl rfl (Nat.le_of_ble_eq_true rfl) (Nat.le_of_ble_eq_true rfl) (Nat.le_of_ble_eq_true rfl) ?_
  refine lv_istore (lv' := [(4, .int (nI (fbN A x))), (3, .int (nI (fpN B x))), (0, .ref h), (1, .long x)]) hx hb d_B_slotOf_11 hl (by decide) rfl (fun ls hl => ?_)
  refine lv_aload_n hx hb d_B_slotOf_13 rfl (lv_at hl 2 rfl) ?_
  refine lv_iload hx hb d_B_slotOf_14 (lv_at hl 0 rfl) ?_
  refine lv_iload_n hx hb d_B_slotOf_16 rfl (lv_at hl 1 rfl) ?_
  refine mx_callR (r := .int (oI (fnd sl (fpN B x) (4 * (fbN A x)) 4))) (c_B_slotWith G h h1 h2 A B hd pu sl pt (fbN A x) (fpN B x) hP hA hs (fbN_lt A x) (fpN_lt hB4 hB x)) hW (iv_B_slotOf_17 G hx hb hown hW (va_recv hK hP (ci := 1) (q0 := 0) rfl rfl) [.int (nI (fbN A x)), .int (nI (fpN B x))] [] rfl) hml hl.1 (by rw [hb]; exact d_B_slotOf_17) (cd_B_slotWith G hW) ⟨Nat.le_of_ble_eq_true rfl, Nat.le_of_ble_eq_true rfl⟩ rfl rfl (Nat.le_of_ble_eq_true rfl) (Nat.le_of_ble_eq_true rfl) (Nat.le_of_ble_eq_true rfl) ?_
  refine lv_istore (lv' := [(5, .int (oI (fnd sl (fpN B x) (4 * (fbN A x)) 4))), (4, .int (nI (fbN A x))), (3, .int (nI (fpN B x))), (0, .ref h), (1, .long x)]) hx hb d_B_slotOf_20 hl (by decide) rfl (fun ls hl => ?_)
  refine lv_iload hx hb d_B_slotOf_22 (lv_at hl 0 rfl) ?_
  refine lv_iconst (v := (-1)) hx hb d_B_slotOf_24 (by decide) ?_
  refine lv_icmp_eq (tgt := 33) hx hb d_B_slotOf_25 (by decide) (fun c_25 => ?_) (fun c_25 => ?_)
  · refine lv_aload_n hx hb d_B_slotOf_33 rfl (lv_at hl 3 rfl) ?_
    refine lv_aload_n hx hb d_B_slotOf_34 rfl (lv_at hl 3 rfl) ?_
    refine lv_iload hx hb d_B_slotOf_35 (lv_at hl 1 rfl) ?_
    refine lv_iload_n hx hb d_B_slotOf_37 rfl (lv_at hl 2 rfl) ?_
    refine mx_callR (r := .int (nI (obN A (fbN A x) (fpN B x)))) (c_B_otherBucket G h h1 h2 A B hd pu sl pt (fbN A x) (fpN B x) hP hA) hW (iv_B_slotOf_38 G hx hb hown hW (va_recv hK hP (ci := 1) (q0 := 0) rfl rfl) [.int (nI (fbN A x)), .int (nI (fpN B x))] [.ref h] rfl) hml hl.1 (by rw [hb]; exact d_B_slotOf_38) (cd_B_otherBucket G hW) ⟨Nat.le_of_ble_eq_true rfl, Nat.le_of_ble_eq_true rfl⟩ rfl rfl (Nat.le_of_ble_eq_true rfl) (Nat.le_of_ble_eq_true rfl) (Nat.le_of_ble_eq_true rfl) ?_
    refine lv_iload_n hx hb d_B_slotOf_41 rfl (lv_at hl 2 rfl) ?_
    refine mx_callR (r := .int (oI (fnd sl (fpN B x) (4 * (obN A (fbN A x) (fpN B x))) 4))) (c_B_slotWith G h h1 h2 A B hd pu sl pt (obN A (fbN A x) (fpN B x)) (fpN B x) hP hA hs (obN_lt (fbN_lt A x) _) (fpN_lt hB4 hB x)) hW (iv_B_slotOf_42 G hx hb hown hW (va_recv hK hP (ci := 1) (q0 := 0) rfl rfl) [.int (nI (obN A (fbN A x) (fpN B x))), .int (nI (fpN B x))] [] rfl) hml hl.1 (by rw [hb]; exact d_B_slotOf_42) (cd_B_slotWith G hW) ⟨Nat.le_of_ble_eq_true rfl, Nat.le_of_ble_eq_true rfl⟩ rfl rfl (Nat.le_of_ble_eq_true rfl) (Nat.le_of_ble_eq_true rfl) (Nat.le_of_ble_eq_true rfl) ?_
    exact mx_iret hx hb hr hlk d_B_slotOf_45 (Nat.le_of_ble_eq_true rfl) (Nat.le_of_ble_eq_true rfl) (fun _ h => nomatch h) (⟨by rw [slotB_2 (oI_none (fun j hj => by have := fnd_in hj; omega) c_25)], rfl⟩)
  · refine lv_iload hx hb d_B_slotOf_28 (lv_at hl 0 rfl) ?_
    refine lv_goto (tgt := 45) hx hb d_B_slotOf_30 (by decide) ?_
    exact mx_iret hx hb hr hlk d_B_slotOf_45 (Nat.le_of_ble_eq_true rfl) (Nat.le_of_ble_eq_true rfl) (fun _ h => nomatch h) (by obtain ⟨j, hj⟩ := oI_some c_25; exact ⟨by rw [slotB_1 hj, hj], rfl⟩)

set_option maxHeartbeats 4000000 in
set_option maxRecDepth 100000 in
theorem c_B_take {l : Launch} {s0 : State} {D : va_G} {cI cF cJ : ClassId} (G : Gx l s0 D cI cF cJ) (h h1 h2 A B : Nat) (hd pu : Int32) (sl pt : Nat → Nat) (x : Int64) {H0 : Heap} {A0 : Nat → Prop} (hP : va_P D vcl [(h, .inr (1, [.int (nI A), .int (nI B), .int hd, .ref h1, .ref h2, .int pu])), (h1, aN cI 1024 sl), (h2, aN cI 64 pt)] H0) (hD : va_D A0 [(h, .inr (1, [.int (nI A), .int (nI B), .int hd, .ref h1, .ref h2, .int pu])), (h1, aN cI 1024 sl), (h2, aN cI 64 pt)]) (hA : A ≤ 8) (hB4 : 4 ≤ B) (hB : B ≤ 16) (hs : ∀ j, j < 1024 → sl j < 65536) : Mx l s0 y_B_take (.code y_B_take b_B_take 4 (some .boolean)) { frames := 4, cells := 0, slots := 0, locals := 89 } [.ref h, .long x] H0 (Aa [h, h1, h2] H0.size) (Rw (.int (bI (slotB A B x sl).isSome)) (fun H1 => va_P D vcl [(h, .inr (1, [.int (nI A), .int (nI B), .int hd, .ref h1, .ref h2, .int pu])), (h1, aN cI 1024 (tkB A B x sl)), (h2, aN cI 64 pt)] H1)) := by
  refine Mx.ofW (own := "FewBits$Buckets") rfl rfl ?_
  rintro p e s m below meth c ⟨hx, hb, hml, hr, hown, hW, hlk⟩ hnm het hH
  have hK := G.k hW
  have hD := hD.aa (sz := H0.size)
  have hD : va_D (Aa [h, h1, h2] H0.size) [(h, .inr (1, [.int (nI A), .int (nI B), .int hd, .ref h1, .ref h2, .int pu])), (h1, aN cI 1024 sl), (h2, aN cI 64 pt)] := hD
  have hS : va_S (Aa [h, h1, h2] H0.size) H0 H0 [] := va_S.rf
  have hl := lv_entry ([.ref h, .long x]) (n := 4) (Nat.le_of_ble_eq_true rfl)
  rw [lg_entry_eq]
  generalize (lg_sl ([.ref h, .long x]) ++ List.replicate (4 - (lg_sl ([.ref h, .long x])).length) Slot.unset).toArray = ls at hl ⊢
  have hl : lv_has ls 4 [(0, .ref h), (1, .long x)] := hl
  refine lv_aload_n hx hb d_B_take_0 rfl (lv_at hl 0 rfl) ?_
  refine lv_lload_n hx hb d_B_take_1 rfl (lv_at hl 1 rfl) ?_
  refine mx_callR (r := .int (oI (slotB A B x sl))) (c_B_slotOf G h h1 h2 A B hd pu sl pt x hP hA hB4 hB hs) hW (iv_B_take_2 G hx hb hown hW (va_recv hK hP (ci := 1) (q0 := 0) rfl rfl) [.long x] [] rfl) hml hl.1 (by rw [hb]; exact d_B_take_2) (cd_B_slotOf G hW) ⟨Nat.le_of_ble_eq_true rfl, Nat.le_of_ble_eq_true rfl⟩ rfl rfl (Nat.le_of_ble_eq_true rfl) (Nat.le_of_ble_eq_true rfl) (Nat.le_of_ble_eq_true rfl) ?_
  refine lv_istore_n (lv' := [(3, .int (oI (slotB A B x sl))), (0, .ref h), (1, .long x)]) hx hb d_B_take_5 rfl hl (by decide) rfl (fun ls hl => ?_)
  refine lv_iload_n hx hb d_B_take_6 rfl (lv_at hl 0 rfl) ?_
  refine lv_iconst (v := (-1)) hx hb d_B_take_7 (by decide) ?_
  refine lv_icmp_ne (tgt := 13) hx hb d_B_take_8 (by decide) (fun c_8 => ?_) (fun c_8 => ?_)
  · obtain ⟨j, hj⟩ := oI_some c_8
    have hj2 := slotB_in hA hj
    rw [hj] at hl
    have hl : lv_has ls 4 [(3, .int (nI j)), (0, .ref h), (1, .long x)] := hl
    refine lv_aload_n hx hb d_B_take_13 rfl (lv_at hl 1 rfl) ?_
    refine va_get (D := D) (ci := 1) (v := .ref h1) (C := R_B) (T := T_B) (N := 6) hx hb (us_B G hW) (fun _ h => h) hown hK hP 0 rfl rfl 3 (by decide) (fl_B_11 G hW) (fun _ h9 => h9) rfl d_B_take_14 ?_
    refine lv_iload_n hx hb d_B_take_17 rfl (lv_at hl 0 rfl) ?_
    refine lv_iconst (v := (nI 0)) hx hb d_B_take_18 (by decide) ?_
    refine ia_stN hx hb hK hP hD hS 1 (j := j) (x := 0) (f := sl) rfl (hj2.1) (by decide) d_B_take_19 (fun H locs hP hD hS => ?_)
    have hP : va_P D vcl [(h, .inr (1, [.int (nI A), .int (nI B), .int hd, .ref h1, .ref h2, .int pu])), (h1, aN cI 1024 (va_up sl j 0)), (h2, aN cI 64 pt)] H := hP
    have hD : va_D (Aa [h, h1, h2] H0.size) [(h, .inr (1, [.int (nI A), .int (nI B), .int hd, .ref h1, .ref h2, .int pu])), (h1, aN cI 1024 (va_up sl j 0)), (h2, aN cI 64 pt)] := hD
    refine lv_iconst (v := (nI 1)) hx hb d_B_take_20 (by decide) ?_
    exact mx_zret hx hb hr hlk d_B_take_21 (Nat.le_of_ble_eq_true rfl) (Nat.le_of_ble_eq_true rfl) hS.2.2 (rfl) (⟨by rw [hj]; rfl, by rw [tkB_s hj]; exact hP⟩)
  · refine lv_iconst (v := (nI 0)) hx hb d_B_take_11 (by decide) ?_
    exact mx_zret hx hb hr hlk d_B_take_12 (Nat.le_of_ble_eq_true rfl) (Nat.le_of_ble_eq_true rfl) (fun _ h => nomatch h) (rfl) (⟨by rw [(oI_none (fun j hj => by have := slotB_in hA hj; omega) c_8)]; rfl, by rw [tkB_n (oI_none (fun j hj => by have := slotB_in hA hj; omega) c_8)]; exact hP⟩)

set_option maxHeartbeats 4000000 in
set_option maxRecDepth 100000 in
theorem c_B_holds {l : Launch} {s0 : State} {D : va_G} {cI cF cJ : ClassId} (G : Gx l s0 D cI cF cJ) (h h1 h2 A B : Nat) (hd pu : Int32) (sl pt : Nat → Nat) (x : Int64) {H0 : Heap} (hP : va_P D vcl [(h, .inr (1, [.int (nI A), .int (nI B), .int hd, .ref h1, .ref h2, .int pu])), (h1, aN cI 1024 sl), (h2, aN cI 64 pt)] H0) (hA : A ≤ 8) (hB4 : 4 ≤ B) (hB : B ≤ 16) (hs : ∀ j, j < 1024 → sl j < 65536) : Mx l s0 y_B_holds (.code y_B_holds b_B_holds 3 (some .boolean)) { frames := 4, cells := 0, slots := 0, locals := 89 } [.ref h, .long x] H0 (fun _ => False) (Rd H0 (.int (bI (slotB A B x sl).isSome))) := by
  refine Mx.ofW (own := "FewBits$Buckets") rfl rfl ?_
  rintro p e s m below meth c ⟨hx, hb, hml, hr, hown, hW, hlk⟩ hnm het hH
  have hK := G.k hW
  have hl := lv_entry ([.ref h, .long x]) (n := 3) (Nat.le_of_ble_eq_true rfl)
  rw [lg_entry_eq]
  generalize (lg_sl ([.ref h, .long x]) ++ List.replicate (3 - (lg_sl ([.ref h, .long x])).length) Slot.unset).toArray = ls at hl ⊢
  have hl : lv_has ls 3 [(0, .ref h), (1, .long x)] := hl
  refine lv_aload_n hx hb d_B_holds_0 rfl (lv_at hl 0 rfl) ?_
  refine lv_lload_n hx hb d_B_holds_1 rfl (lv_at hl 1 rfl) ?_
  refine mx_callR (r := .int (oI (slotB A B x sl))) (c_B_slotOf G h h1 h2 A B hd pu sl pt x hP hA hB4 hB hs) hW (iv_B_holds_2 G hx hb hown hW (va_recv hK hP (ci := 1) (q0 := 0) rfl rfl) [.long x] [] rfl) hml hl.1 (by rw [hb]; exact d_B_holds_2) (cd_B_slotOf G hW) ⟨Nat.le_of_ble_eq_true rfl, Nat.le_of_ble_eq_true rfl⟩ rfl rfl (Nat.le_of_ble_eq_true rfl) (Nat.le_of_ble_eq_true rfl) (Nat.le_of_ble_eq_true rfl) ?_
  refine lv_iconst (v := (-1)) hx hb d_B_holds_5 (by decide) ?_
  refine lv_icmp_eq (tgt := 13) hx hb d_B_holds_6 (by decide) (fun c_6 => ?_) (fun c_6 => ?_)
  · refine lv_iconst (v := (nI 0)) hx hb d_B_holds_13 (by decide) ?_
    exact mx_zret hx hb hr hlk d_B_holds_14 (Nat.le_of_ble_eq_true rfl) (Nat.le_of_ble_eq_true rfl) (fun _ h => nomatch h) (rfl) (⟨by rw [(oI_none (fun j hj => by have := slotB_in hA hj; omega) c_6)]; rfl, rfl⟩)
  · refine lv_iconst (v := (nI 1)) hx hb d_B_holds_9 (by decide) ?_
    refine lv_goto (tgt := 14) hx hb d_B_holds_10 (by decide) ?_
    exact mx_zret hx hb hr hlk d_B_holds_14 (Nat.le_of_ble_eq_true rfl) (Nat.le_of_ble_eq_true rfl) (fun _ h => nomatch h) (rfl) (by obtain ⟨j, hj⟩ := oI_some c_6; exact ⟨by rw [hj]; rfl, rfl⟩)

set_option maxHeartbeats 4000000 in
set_option maxRecDepth 100000 in
theorem c_B_looksAlike {l : Launch} {s0 : State} {D : va_G} {cI cF cJ : ClassId} (G : Gx l s0 D cI cF cJ) (h h1 h2 A B : Nat) (hd pu : Int32) (sl pt : Nat → Nat) (x y : Int64) {H0 : Heap} (hP : va_P D vcl [(h, .inr (1, [.int (nI A), .int (nI B), .int hd, .ref h1, .ref h2, .int pu])), (h1, aN cI 1024 sl), (h2, aN cI 64 pt)] H0) (hA : A ≤ 8) (hB4 : 4 ≤ B) (hB : B ≤ 16) : Mx l s0 y_B_looksAlike (.code y_B_looksAlike b_B_looksAlike 8 (some .boolean)) { frames := 3, cells := 0, slots := 0, locals := 64 } [.ref h, .long x, .long y] H0 (fun _ => False) (Rd H0 (.int (bI (sameB A B x y)))) := by
  refine Mx.ofW (own := "FewBits$Buckets") rfl rfl ?_
  rintro p e s m below meth c ⟨hx, hb, hml, hr, hown, hW, hlk⟩ hnm het hH
  have hK := G.k hW
  have h8 := p2_le hA
  have hl := lv_entry ([.ref h, .long x, .long y]) (n := 8) (Nat.le_of_ble_eq_true rfl)
  rw [lg_entry_eq]
  generalize (lg_sl ([.ref h, .long x, .long y]) ++ List.replicate (8 - (lg_sl ([.ref h, .long x, .long y])).length) Slot.unset).toArray = ls at hl ⊢
  have hl : lv_has ls 8 [(0, .ref h), (1, .long x), (3, .long y)] := hl
  refine lv_aload_n hx hb d_B_looksAlike_0 rfl (lv_at hl 0 rfl) ?_
  refine lv_lload_n hx hb d_B_looksAlike_1 rfl (lv_at hl 1 rfl) ?_
  refine mx_callR (r := .int (nI (fpN B x))) (c_B_fingerprint G h h1 h2 A B hd pu sl pt x hP hA hB4 hB) hW (iv_B_looksAlike_2 G hx hb hown hW (va_recv hK hP (ci := 1) (q0 := 0) rfl rfl) [.long x] [] rfl) hml hl.1 (by rw [hb]; exact d_B_looksAlike_2) (cd_B_fingerprint G hW) ⟨Nat.le_of_ble_eq_true rfl, Nat.le_of_ble_eq_true rfl⟩ rfl rfl (Nat.le_of_ble_eq_true rfl) (Nat.le_of_ble_eq_true rfl) (Nat.le_of_ble_eq_true rfl) ?_
  refine lv_istore (lv' := [(5, .int (nI (fpN B x))), (0, .ref h), (1, .long x), (3, .long y)]) hx hb d_B_looksAlike_5 hl (by decide) rfl (fun ls hl => ?_)
  refine lv_iload hx hb d_B_looksAlike_7 (lv_at hl 0 rfl) ?_
  refine lv_aload_n hx hb d_B_looksAlike_9 rfl (lv_at hl 1 rfl) ?_
  refine lv_lload_n hx hb d_B_looksAlike_10 rfl (lv_at hl 3 rfl) ?_
  refine mx_callR (r := .int (nI (fpN B y))) (c_B_fingerprint G h h1 h2 A B hd pu sl pt y hP hA hB4 hB) hW (iv_B_looksAlike_11 G hx hb hown hW (va_recv hK hP (ci := 1) (q0 := 0) rfl rfl) [.long y] [.int (nI (fpN B x))] rfl) hml hl.1 (by rw [hb]; exact d_B_looksAlike_11) (cd_B_fingerprint G hW) ⟨Nat.le_of_ble_eq_true rfl, Nat.le_of_ble_eq_true rfl⟩ rfl rfl (Nat.le_of_ble_eq_true rfl) (Nat.le_of_ble_eq_true rfl) (Nat.le_of_ble_eq_true rfl) ?_
  refine lv_icmp_eq (tgt := 19) hx hb d_B_looksAlike_14 (by decide) (fun c_14 => ?_) (fun c_14 => ?_)
  · refine lv_aload_n hx hb d_B_looksAlike_19 rfl (lv_at hl 1 rfl) ?_
    refine lv_lload_n hx hb d_B_looksAlike_20 rfl (lv_at hl 2 rfl) ?_
    refine mx_callR (r := .int (nI (fbN A x))) (c_B_firstBucket G h h1 h2 A B hd pu sl pt x hP hA) hW (iv_B_looksAlike_21 G hx hb hown hW (va_recv hK hP (ci := 1) (q0 := 0) rfl rfl) [.long x] [] rfl) hml hl.1 (by rw [hb]; exact d_B_looksAlike_21) (cd_B_firstBucket G hW) ⟨Nat.le_of_ble_eq_true rfl, Nat.le_of_ble_eq_true rfl⟩ rfl rfl (Nat.le_of_ble_eq_true rfl) (Nat.le_of_ble_eq_true rfl) (Nat.le_of_ble_eq_true rfl) ?_
    refine lv_istore (lv' := [(6, .int (nI (fbN A x))), (5, .int (nI (fpN B x))), (0, .ref h), (1, .long x), (3, .long y)]) hx hb d_B_looksAlike_24 hl (by decide) rfl (fun ls hl => ?_)
    refine lv_aload_n hx hb d_B_looksAlike_26 rfl (lv_at hl 2 rfl) ?_
    refine lv_lload_n hx hb d_B_looksAlike_27 rfl (lv_at hl 4 rfl) ?_
    refine mx_callR (r := .int (nI (fbN A y))) (c_B_firstBucket G h h1 h2 A B hd pu sl pt y hP hA) hW (iv_B_looksAlike_28 G hx hb hown hW (va_recv hK hP (ci := 1) (q0 := 0) rfl rfl) [.long y] [] rfl) hml hl.1 (by rw [hb]; exact d_B_looksAlike_28) (cd_B_firstBucket G hW) ⟨Nat.le_of_ble_eq_true rfl, Nat.le_of_ble_eq_true rfl⟩ rfl rfl (Nat.le_of_ble_eq_true rfl) (Nat.le_of_ble_eq_true rfl) (Nat.le_of_ble_eq_true rfl) ?_
    refine lv_istore (lv' := [(7, .int (nI (fbN A y))), (6, .int (nI (fbN A x))), (5, .int (nI (fpN B x))), (0, .ref h), (1, .long x), (3, .long y)]) hx hb d_B_looksAlike_31 hl (by decide) rfl (fun ls hl => ?_)
    refine lv_iload hx hb d_B_looksAlike_33 (lv_at hl 1 rfl) ?_
    refine lv_iload hx hb d_B_looksAlike_35 (lv_at hl 0 rfl) ?_
    refine lv_icmp_eq (tgt := 53) hx hb d_B_looksAlike_37 (by decide) (fun c_37 => ?_) (fun c_37 => ?_)
    · refine lv_iconst (v := (nI 1)) hx hb d_B_looksAlike_53 (by decide) ?_
      refine lv_goto (tgt := 58) hx hb d_B_looksAlike_54 (by decide) ?_
      exact mx_zret hx hb hr hlk d_B_looksAlike_58 (Nat.le_of_ble_eq_true rfl) (Nat.le_of_ble_eq_true rfl) (fun _ h => nomatch h) (rfl) (⟨by rw [show sameB A B x y = true by unfold sameB; rw [decide_eq_true ((nI_eq (by have := fpN_lt hB4 hB x; omega) (by have := fpN_lt hB4 hB y; omega)).mp c_14), decide_eq_true ((nI_eq (by have := fbN_lt A x; omega) (by have := fbN_lt A y; omega)).mp c_37)]; rfl]; rfl, rfl⟩)
    · refine lv_aload_n hx hb d_B_looksAlike_40 rfl (lv_at hl 3 rfl) ?_
      refine lv_iload hx hb d_B_looksAlike_41 (lv_at hl 1 rfl) ?_
      refine lv_iload hx hb d_B_looksAlike_43 (lv_at hl 2 rfl) ?_
      refine mx_callR (r := .int (nI (obN A (fbN A x) (fpN B x)))) (c_B_otherBucket G h h1 h2 A B hd pu sl pt (fbN A x) (fpN B x) hP hA) hW (iv_B_looksAlike_45 G hx hb hown hW (va_recv hK hP (ci := 1) (q0 := 0) rfl rfl) [.int (nI (fbN A x)), .int (nI (fpN B x))] [] rfl) hml hl.1 (by rw [hb]; exact d_B_looksAlike_45) (cd_B_otherBucket G hW) ⟨Nat.le_of_ble_eq_true rfl, Nat.le_of_ble_eq_true rfl⟩ rfl rfl (Nat.le_of_ble_eq_true rfl) (Nat.le_of_ble_eq_true rfl) (Nat.le_of_ble_eq_true rfl) ?_
      refine lv_iload hx hb d_B_looksAlike_48 (lv_at hl 0 rfl) ?_
      refine lv_icmp_ne (tgt := 57) hx hb d_B_looksAlike_50 (by decide) (fun c_50 => ?_) (fun c_50 => ?_)
      · refine lv_iconst (v := (nI 0)) hx hb d_B_looksAlike_57 (by decide) ?_
        exact mx_zret hx hb hr hlk d_B_looksAlike_58 (Nat.le_of_ble_eq_true rfl) (Nat.le_of_ble_eq_true rfl) (fun _ h => nomatch h) (rfl) (⟨by rw [show sameB A B x y = false by unfold sameB; rw [decide_eq_false (show ¬ fbN A x = fbN A y from fun h9 => c_37 (by rw [h9])), decide_eq_false (show ¬ obN A (fbN A x) (fpN B x) = fbN A y from fun h9 => c_50 (by rw [h9]))]; simp]; rfl, rfl⟩)
      · refine lv_iconst (v := (nI 1)) hx hb d_B_looksAlike_53 (by decide) ?_
        refine lv_goto (tgt := 58) hx hb d_B_looksAlike_54 (by decide) ?_
        exact mx_zret hx hb hr hlk d_B_looksAlike_58 (Nat.le_of_ble_eq_true rfl) (Nat.le_of_ble_eq_true rfl) (fun _ h => nomatch h) (rfl) (⟨by rw [show sameB A B x y = true by unfold sameB; rw [decide_eq_true ((nI_eq (by have := fpN_lt hB4 hB x; omega) (by have := fpN_lt hB4 hB y; omega)).mp c_14), decide_eq_true ((nI_eq (by have := obN_lt (fbN_lt A x) (fpN B x); omega) (by have := fbN_lt A y; omega)).mp c_50)]; simp]; rfl, rfl⟩)
  · refine lv_iconst (v := (nI 0)) hx hb d_B_looksAlike_17 (by decide) ?_
    exact mx_zret hx hb hr hlk d_B_looksAlike_18 (Nat.le_of_ble_eq_true rfl) (Nat.le_of_ble_eq_true rfl) (fun _ h => nomatch h) (rfl) (⟨by rw [show sameB A B x y = false by unfold sameB; rw [decide_eq_false (fun h9 => c_14 (by rw [h9]))]; rfl]; rfl, rfl⟩)
