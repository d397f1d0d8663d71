set_option maxHeartbeats 4000000 in
set_option maxRecDepth 100000 in
theorem c_F_mixed {l : Launch} {s0 : State} {D : va_G} {cI cF cJ : ClassId} (G : Gx l s0 D cI cF cJ) (x : Int64) (sk : Int32) {H0 : Heap}  : Mx l s0 y_F_mixed (.code y_F_mixed b_F_mixed 5 (some .long)) { frames := 0, cells := 0, slots := 0, locals := 0 } [.long x, .int sk] H0 (fun _ => False) (Rd H0 (.long (mx x sk.toInt64))) := by
  refine Mx.ofW (own := "FewBits") rfl rfl ?_
  rintro p e s m below meth c ⟨hx, hb, hml, hr, hown, hW, hlk⟩ hnm het hH
  have hK := G.k hW
  have hl := lv_entry ([.long x, .int sk]) (n := 5) (Nat.le_of_ble_eq_true rfl)
  rw [lg_entry_eq]
  generalize (lg_sl ([.long x, .int sk]) ++ List.replicate (5 - (lg_sl ([.long x, .int sk])).length) Slot.unset).toArray = ls at hl ⊢
  have hl : lv_has ls 5 [(0, .long x), (2, .int sk)] := hl
  refine lv_lload_n hx hb d_F_mixed_0 rfl (lv_at hl 0 rfl) ?_
  refine lv_iload_n hx hb d_F_mixed_1 rfl (lv_at hl 1 rfl) ?_
  refine lv_i2l hx hb d_F_mixed_2 rfl ?_
  refine lv_lconst (v := 1) hx hb d_F_mixed_3 (by decide) ?_
  refine lv_ladd hx hb d_F_mixed_4 ?_
  refine lv_ldc2 (v := (-7046029254386353131)) hx hb hown (G.1.at 42 rfl rfl _ hW) d_F_mixed_5 ?_
  refine lv_lmul hx hb d_F_mixed_8 ?_
  refine lv_ladd hx hb d_F_mixed_9 ?_
  refine lv_topl (fun z1 e1 => ?_)
  refine lv_lstore_n (lv' := [(3, .long z1), (0, .long x), (2, .int sk)]) hx hb d_F_mixed_10 rfl hl (by decide) rfl (fun ls hl => ?_)
  refine lv_lload_n hx hb d_F_mixed_11 rfl (lv_at hl 0 rfl) ?_
  refine lv_lload_n hx hb d_F_mixed_12 rfl (lv_at hl 0 rfl) ?_
  refine lv_bipush (v := (nI 30)) hx hb d_F_mixed_13 (by decide) ?_
  refine lv_lushr hx hb d_F_mixed_15 rfl ?_
  refine lv_lxor hx hb d_F_mixed_16 ?_
  refine lv_ldc2 (v := (-4658895280553007687)) hx hb hown (G.1.at 43 rfl rfl _ hW) d_F_mixed_17 ?_
  refine lv_lmul hx hb d_F_mixed_20 ?_
  refine lv_topl (fun z2 e2 => ?_)
  refine lv_lstore_n (lv' := [(3, .long z2), (0, .long x), (2, .int sk)]) hx hb d_F_mixed_21 rfl hl (by decide) rfl (fun ls hl => ?_)
  refine lv_lload_n hx hb d_F_mixed_22 rfl (lv_at hl 0 rfl) ?_
  refine lv_lload_n hx hb d_F_mixed_23 rfl (lv_at hl 0 rfl) ?_
  refine lv_bipush (v := (nI 27)) hx hb d_F_mixed_24 (by decide) ?_
  refine lv_lushr hx hb d_F_mixed_26 rfl ?_
  refine lv_lxor hx hb d_F_mixed_27 ?_
  refine lv_ldc2 (v := (-7723592293110705685)) hx hb hown (G.1.at 44 rfl rfl _ hW) d_F_mixed_28 ?_
  refine lv_lmul hx hb d_F_mixed_31 ?_
  refine lv_topl (fun z3 e3 => ?_)
  refine lv_lstore_n (lv' := [(3, .long z3), (0, .long x), (2, .int sk)]) hx hb d_F_mixed_32 rfl hl (by decide) rfl (fun ls hl => ?_)
  refine lv_lload_n hx hb d_F_mixed_33 rfl (lv_at hl 0 rfl) ?_
  refine lv_lload_n hx hb d_F_mixed_34 rfl (lv_at hl 0 rfl) ?_
  refine lv_bipush (v := (nI 31)) hx hb d_F_mixed_35 (by decide) ?_
  refine lv_lushr hx hb d_F_mixed_37 rfl ?_
  refine lv_lxor hx hb d_F_mixed_38 ?_
  exact mx_lret hx hb hr hlk d_F_mixed_39 (Nat.le_of_ble_eq_true rfl) (Nat.le_of_ble_eq_true rfl) (fun _ h => nomatch h) (⟨by subst e3 e2 e1; rfl, rfl⟩)

set_option maxHeartbeats 4000000 in
set_option maxRecDepth 100000 in
theorem c_M_mixed {l : Launch} {s0 : State} {D : va_G} {cI cF cJ : ClassId} (G : Gx l s0 D cI cF cJ) (x sk : Int64) {H0 : Heap}  : Mx l s0 y_M_mixed (.code y_M_mixed b_M_mixed 6 (some .long)) { frames := 0, cells := 0, slots := 0, locals := 0 } [.long x, .long sk] H0 (fun _ => False) (Rd H0 (.long (mx x sk))) := by
  refine Mx.ofW (own := "FewBitsModel") rfl rfl ?_
  rintro p e s m below meth c ⟨hx, hb, hml, hr, hown, hW, hlk⟩ hnm het hH
  have hK := G.k hW
  have hl := lv_entry ([.long x, .long sk]) (n := 6) (Nat.le_of_ble_eq_true rfl)
  rw [lg_entry_eq]
  generalize (lg_sl ([.long x, .long sk]) ++ List.replicate (6 - (lg_sl ([.long x, .long sk])).length) Slot.unset).toArray = ls at hl ⊢
  have hl : lv_has ls 6 [(0, .long x), (2, .long sk)] := hl
  refine lv_lload_n hx hb d_M_mixed_0 rfl (lv_at hl 0 rfl) ?_
  refine lv_lload_n hx hb d_M_mixed_1 rfl (lv_at hl 1 rfl) ?_
  refine lv_lconst (v := 1) hx hb d_M_mixed_2 (by decide) ?_
  refine lv_ladd hx hb d_M_mixed_3 ?_
  refine lv_ldc2 (v := (-7046029254386353131)) hx hb hown (G.1.at 701 rfl rfl _ hW) d_M_mixed_4 ?_
  refine lv_lmul hx hb d_M_mixed_7 ?_
  refine lv_ladd hx hb d_M_mixed_8 ?_
  refine lv_topl (fun z1 e1 => ?_)
  refine lv_lstore (lv' := [(4, .long z1), (0, .long x), (2, .long sk)]) hx hb d_M_mixed_9 hl (by decide) rfl (fun ls hl => ?_)
  refine lv_lload hx hb d_M_mixed_11 (lv_at hl 0 rfl) ?_
  refine lv_lload hx hb d_M_mixed_13 (lv_at hl 0 rfl) ?_
  refine lv_bipush (v := (nI 30)) hx hb d_M_mixed_15 (by decide) ?_
  refine lv_lushr hx hb d_M_mixed_17 rfl ?_
  refine lv_lxor hx hb d_M_mixed_18 ?_
  refine lv_ldc2 (v := (-4658895280553007687)) hx hb hown (G.1.at 702 rfl rfl _ hW) d_M_mixed_19 ?_
  refine lv_lmul hx hb d_M_mixed_22 ?_
  refine lv_topl (fun z2 e2 => ?_)
  refine lv_lstore (lv' := [(4, .long z2), (0, .long x), (2, .long sk)]) hx hb d_M_mixed_23 hl (by decide) rfl (fun ls hl => ?_)
  refine lv_lload hx hb d_M_mixed_25 (lv_at hl 0 rfl) ?_
  refine lv_lload hx hb d_M_mixed_27 (lv_at hl 0 rfl) ?_
  refine lv_bipush (v := (nI 27)) hx hb d_M_mixed_29 (by decide) ?_
  refine lv_lushr hx hb d_M_mixed_31 rfl ?_
  refine lv_lxor hx hb d_M_mixed_32 ?_
  refine lv_ldc2 (v := (-7723592293110705685)) hx hb hown (G.1.at 703 rfl rfl _ hW) d_M_mixed_33 ?_
  refine lv_lmul hx hb d_M_mixed_36 ?_
  refine lv_topl (fun z3 e3 => ?_)
  refine lv_lstore (lv' := [(4, .long z3), (0, .long x), (2, .long sk)]) hx hb d_M_mixed_37 hl (by decide) rfl (fun ls hl => ?_)
  refine lv_lload hx hb d_M_mixed_39 (lv_at hl 0 rfl) ?_
  refine lv_lload hx hb d_M_mixed_41 (lv_at hl 0 rfl) ?_
  refine lv_bipush (v := (nI 31)) hx hb d_M_mixed_43 (by decide) ?_
  refine lv_lushr hx hb d_M_mixed_45 rfl ?_
  refine lv_lxor hx hb d_M_mixed_46 ?_
  exact mx_lret hx hb hr hlk d_M_mixed_47 (Nat.le_of_ble_eq_true rfl) (Nat.le_of_ble_eq_true rfl) (fun _ h => nomatch h) (⟨by subst e3 e2 e1; rfl, rfl⟩)

set_option maxHeartbeats 4000000 in
set_option maxRecDepth 100000 in
theorem c_P_power_C {l : Launch} {s0 : State} {D : va_G} {cI cF cJ : ClassId} (G : Gx l s0 D cI cF cJ) (h h1 h2 h3 A B : Nat) (hd : Int32) (cs pl pb : Nat → Nat) {H0 : Heap} (hP : va_P D vcl [(h, .inr (0, [.int (nI A), .int (nI B), .int hd, .ref h1, .ref h2, .ref h3])), (h1, aN cI 1024 cs), (h2, aN cI 6 pl), (h3, aN cI 6 pb)] H0) (hA : A ≤ 10) : Mx l s0 y_P_power (.code y_P_power b_P_power 1 (some .int)) { frames := 0, cells := 0, slots := 0, locals := 0 } [.ref h] H0 (fun _ => False) (Rd H0 (.int (nI (2 ^ A)))) := by
  refine Mx.ofW (own := "FewBits$Filter") rfl rfl ?_
  rintro p e s m below meth c ⟨hx, hb, hml, hr, hown, hW, hlk⟩ hnm het hH
  have hK := G.k hW
  have hl := lv_entry ([.ref h]) (n := 1) (Nat.le_of_ble_eq_true rfl)
  rw [lg_entry_eq]
  generalize (lg_sl ([.ref h]) ++ List.replicate (1 - (lg_sl ([.ref h])).length) Slot.unset).toArray = ls at hl ⊢
  have hl : lv_has ls 1 [(0, .ref h)] := hl
  refine lv_iconst (v := (nI 1)) hx hb d_P_power_0 (by decide) ?_
  refine lv_aload_n hx hb d_P_power_1 rfl (lv_at hl 0 rfl) ?_
  refine va_get (D := D) (ci := 0) (v := .int (nI A)) (C := R_C) (T := T_C) (N := 6) hx hb (us_C G hW) (fun _ h => h) hown hK hP 0 rfl rfl 0 (by decide) (fl_P_7 G hW) (fun _ h9 => h9) rfl d_P_power_2 ?_
  refine lv_ishl hx hb d_P_power_5 ?_
  refine tp_i (y := (nI (2 ^ A))) (pw_shl A (by omega)) ?_
  exact mx_iret hx hb hr hlk d_P_power_6 (Nat.le_of_ble_eq_true rfl) (Nat.le_of_ble_eq_true rfl) (fun _ h => nomatch h) (⟨rfl, rfl⟩)

set_option maxHeartbeats 4000000 in
set_option maxRecDepth 100000 in
theorem c_P_lowestBits_C {l : Launch} {s0 : State} {D : va_G} {cI cF cJ : ClassId} (G : Gx l s0 D cI cF cJ) (h h1 h2 h3 A B : Nat) (hd : Int32) (cs pl pb : Nat → Nat) (z : Int64) {H0 : Heap} (hP : va_P D vcl [(h, .inr (0, [.int (nI A), .int (nI B), .int hd, .ref h1, .ref h2, .ref h3])), (h1, aN cI 1024 cs), (h2, aN cI 6 pl), (h3, aN cI 6 pb)] H0) (hA : A ≤ 10) : Mx l s0 y_P_lowestBits (.code y_P_lowestBits b_P_lowestBits 3 (some .int)) { frames := 1, cells := 0, slots := 0, locals := 20 } [.ref h, .long z] H0 (fun _ => False) (Rd H0 (.int (nI (z.toBitVec.toNat % 2 ^ A)))) := by
  refine Mx.ofW (own := "FewBits$Filter") rfl rfl ?_
  rintro p e s m below meth c ⟨hx, hb, hml, hr, hown, hW, hlk⟩ hnm het hH
  have hK := G.k hW
  have hl := lv_entry ([.ref h, .long z]) (n := 3) (Nat.le_of_ble_eq_true rfl)
  rw [lg_entry_eq]
  generalize (lg_sl ([.ref h, .long z]) ++ List.replicate (3 - (lg_sl ([.ref h, .long z])).length) Slot.unset).toArray = ls at hl ⊢
  have hl : lv_has ls 3 [(0, .ref h), (1, .long z)] := hl
  refine lv_lload_n hx hb d_P_lowestBits_0 rfl (lv_at hl 1 rfl) ?_
  refine lv_l2i hx hb d_P_lowestBits_1 rfl ?_
  refine lv_aload_n hx hb d_P_lowestBits_2 rfl (lv_at hl 0 rfl) ?_
  refine mx_callR (r := .int (nI (2 ^ A))) (c_P_power_C G h h1 h2 h3 A B hd cs pl pb hP hA) hW (iv_P_lowestBits_3_C G hx hb hown hW (va_recv hK hP (ci := 0) (q0 := 0) rfl rfl) [] [.int (Int64.toInt32 z)] rfl) hml hl.1 (by rw [hb]; exact d_P_lowestBits_3) (cd_P_power G hW) ⟨Nat.le_of_ble_eq_true rfl, Nat.le_of_ble_eq_true rfl⟩ rfl rfl (Nat.le_of_ble_eq_true rfl) (Nat.le_of_ble_eq_true rfl) (Nat.le_of_ble_eq_true rfl) ?_
  refine lv_iconst (v := (nI 1)) hx hb d_P_lowestBits_6 (by decide) ?_
  refine lv_isub hx hb d_P_lowestBits_7 ?_
  refine lv_iand hx hb d_P_lowestBits_8 ?_
  refine tp_i (y := (nI (z.toBitVec.toNat % 2 ^ A))) (low_bv z A (by omega)) ?_
  exact mx_iret hx hb hr hlk d_P_lowestBits_9 (Nat.le_of_ble_eq_true rfl) (Nat.le_of_ble_eq_true rfl) (fun _ h => nomatch h) (⟨rfl, rfl⟩)

set_option maxHeartbeats 4000000 in
set_option maxRecDepth 100000 in
theorem c_P_cells_C {l : Launch} {s0 : State} {D : va_G} {cI cF cJ : ClassId} (G : Gx l s0 D cI cF cJ) (h h1 h2 h3 A B : Nat) (hd : Int32) (cs pl pb : Nat → Nat) {H0 : Heap} (hP : va_P D vcl [(h, .inr (0, [.int (nI A), .int (nI B), .int hd, .ref h1, .ref h2, .ref h3])), (h1, aN cI 1024 cs), (h2, aN cI 6 pl), (h3, aN cI 6 pb)] H0) (hA : A ≤ 10) : Mx l s0 y_P_cells (.code y_P_cells b_P_cells 1 (some .int)) { frames := 1, cells := 0, slots := 0, locals := 20 } [.ref h] H0 (fun _ => False) (Rd H0 (.int (nI (2 ^ A)))) := by
  refine Mx.ofW (own := "FewBits$Filter") rfl rfl ?_
  rintro p e s m below meth c ⟨hx, hb, hml, hr, hown, hW, hlk⟩ hnm het hH
  have hK := G.k hW
  have hl := lv_entry ([.ref h]) (n := 1) (Nat.le_of_ble_eq_true rfl)
  rw [lg_entry_eq]
  generalize (lg_sl ([.ref h]) ++ List.replicate (1 - (lg_sl ([.ref h])).length) Slot.unset).toArray = ls at hl ⊢
  have hl : lv_has ls 1 [(0, .ref h)] := hl
  refine lv_aload_n hx hb d_P_cells_0 rfl (lv_at hl 0 rfl) ?_
  refine mx_callR (r := .int (nI (2 ^ A))) (c_P_power_C G h h1 h2 h3 A B hd cs pl pb hP hA) hW (iv_P_cells_1_C G hx hb hown hW (va_recv hK hP (ci := 0) (q0 := 0) rfl rfl) [] [] rfl) hml hl.1 (by rw [hb]; exact d_P_cells_1) (cd_P_power G hW) ⟨Nat.le_of_ble_eq_true rfl, Nat.le_of_ble_eq_true rfl⟩ rfl rfl (Nat.le_of_ble_eq_true rfl) (Nat.le_of_ble_eq_true rfl) (Nat.le_of_ble_eq_true rfl) ?_
  exact mx_iret hx hb hr hlk d_P_cells_4 (Nat.le_of_ble_eq_true rfl) (Nat.le_of_ble_eq_true rfl) (fun _ h => nomatch h) (⟨rfl, rfl⟩)

set_option maxHeartbeats 4000000 in
set_option maxRecDepth 100000 in
theorem c_C_kind {l : Launch} {s0 : State} {D : va_G} {cI cF cJ : ClassId} (G : Gx l s0 D cI cF cJ) (h h1 h2 h3 A B : Nat) (hd : Int32) (cs pl pb : Nat → Nat) {H0 : Heap}  : Mx l s0 y_C_kind (.code y_C_kind b_C_kind 1 (some .int)) { frames := 0, cells := 0, slots := 0, locals := 0 } [.ref h] H0 (fun _ => False) (Rd H0 (.int (nI 1))) := by
  refine Mx.ofW (own := "FewBits$Counters") rfl rfl ?_
  rintro p e s m below meth c ⟨hx, hb, hml, hr, hown, hW, hlk⟩ hnm het hH
  have hK := G.k hW
  have hl := lv_entry ([.ref h]) (n := 1) (Nat.le_of_ble_eq_true rfl)
  rw [lg_entry_eq]
  generalize (lg_sl ([.ref h]) ++ List.replicate (1 - (lg_sl ([.ref h])).length) Slot.unset).toArray = ls at hl ⊢
  have hl : lv_has ls 1 [(0, .ref h)] := hl
  refine lv_iconst (v := (nI 1)) hx hb d_C_kind_0 (by decide) ?_
  exact mx_iret hx hb hr hlk d_C_kind_1 (Nat.le_of_ble_eq_true rfl) (Nat.le_of_ble_eq_true rfl) (fun _ h => nomatch h) (⟨rfl, rfl⟩)

set_option maxHeartbeats 4000000 in
set_option maxRecDepth 100000 in
theorem c_C_timesIn_2 {l : Launch} {s0 : State} {D : va_G} {cI cF cJ : ClassId} (G : Gx l s0 D cI cF cJ) (h h1 h2 h3 A B : Nat) (hd : Int32) (cs pl pb : Nat → Nat) (x : Nat) {H0 : Heap} (hP : va_P D vcl [(h, .inr (0, [.int (nI A), .int (nI B), .int hd, .ref h1, .ref h2, .ref h3])), (h1, aN cI 1024 cs), (h2, aN cI 6 pl), (h3, aN cI 6 pb)] H0) (hB : B ≤ 6) (hrow : ∀ i, i < B → pl i < 1024) (hx1 : x < 1024) : Mx l s0 y_C_timesIn (.code y_C_timesIn b_C_timesIn 5 (some .int)) { frames := 0, cells := 0, slots := 0, locals := 0 } [.ref h, .ref h2, .int (nI x)] H0 (fun _ => False) (Rd H0 (.int (nI (cnt pl x B)))) := by
  refine Mx.ofW (own := "FewBits$Counters") rfl rfl ?_
  rintro p e s m below meth c ⟨hx, hb, hml, hr, hown, hW, hlk⟩ hnm het hH
  have hK := G.k hW
  have hl := lv_entry ([.ref h, .ref h2, .int (nI x)]) (n := 5) (Nat.le_of_ble_eq_true rfl)
  rw [lg_entry_eq]
  generalize (lg_sl ([.ref h, .ref h2, .int (nI x)]) ++ List.replicate (5 - (lg_sl ([.ref h, .ref h2, .int (nI x)])).length) Slot.unset).toArray = ls at hl ⊢
  have hl : lv_has ls 5 [(0, .ref h), (1, .ref h2), (2, .int (nI x))] := hl
  refine lv_iconst (v := (nI 0)) hx hb d_C_timesIn_0 (by decide) ?_
  refine lv_istore_n (lv' := [(3, .int (nI 0)), (0, .ref h), (1, .ref h2), (2, .int (nI x))]) hx hb d_C_timesIn_1 rfl hl (by decide) rfl (fun ls hl => ?_)
  refine lv_iconst (v := (nI 0)) hx hb d_C_timesIn_2 (by decide) ?_
  refine lv_istore (lv' := [(4, .int (nI 0)), (3, .int (nI 0)), (0, .ref h), (1, .ref h2), (2, .int (nI x))]) hx hb d_C_timesIn_3 hl (by decide) rfl (fun ls hl => ?_)
  have loop_5 : ∀ (k : Nat) (i : Nat) (t : Nat), (i + k = B) → (t = cnt pl x i) → ∀ (ls : Array Slot), lv_has ls 5 [(4, .int (nI i)), (3, .int (nI t)), (0, .ref h), (1, .ref h2), (2, .int (nI x))] → W p l e { frames := 0, cells := 0, slots := 0, locals := 0 } s m ([.ref h, .ref h2, .int (nI x)] : List Value).toArray below meth c H0 [] 0 0 (MQx below (Rd H0 (.int (nI (cnt pl x B)))) s 0 0 (fun _ => False)) (F0 m 5 ls []) := by
    intro k
    induction k with
    | zero =>
      intro i t hk ht  ls hl
      refine lv_iload hx hb d_C_timesIn_5 (lv_at hl 0 rfl) ?_
      refine lv_aload_n hx hb d_C_timesIn_7 rfl (lv_at hl 2 rfl) ?_
      refine va_get (D := D) (ci := 0) (v := .int (nI B)) (C := R_C) (T := T_C) (N := 6) hx hb (us_C G hW) (fun _ h => h) hown hK hP 0 rfl rfl 1 (by decide) (fl_C_31 G hW) (u_same (args := ([.ref h, .ref h2, .int (nI x)] : List Value).toArray) (G.1.at 178 rfl rfl _ hW)) rfl d_C_timesIn_8 ?_
      refine lv_icmp_ge (tgt := 31) hx hb d_C_timesIn_11 (by decide) (fun c_11 => ?_) (fun c_11 => absurd (nI_le (by omega) (by omega)) c_11)
      refine lv_iload_n hx hb d_C_timesIn_31 rfl (lv_at hl 1 rfl) ?_
      exact mx_iret hx hb hr hlk d_C_timesIn_32 (Nat.le_of_ble_eq_true rfl) (Nat.le_of_ble_eq_true rfl) (fun _ h => nomatch h) (⟨by rw [ht, show i = B by omega], rfl⟩)
    | succ k ih_5 =>
      intro i t hk ht  ls hl
      refine lv_iload hx hb d_C_timesIn_5 (lv_at hl 0 rfl) ?_
      refine lv_aload_n hx hb d_C_timesIn_7 rfl (lv_at hl 2 rfl) ?_
      refine va_get (D := D) (ci := 0) (v := .int (nI B)) (C := R_C) (T := T_C) (N := 6) hx hb (us_C G hW) (fun _ h => h) hown hK hP 0 rfl rfl 1 (by decide) (fl_C_31 G hW) (u_same (args := ([.ref h, .ref h2, .int (nI x)] : List Value).toArray) (G.1.at 178 rfl rfl _ hW)) rfl d_C_timesIn_8 ?_
      refine lv_icmp_ge (tgt := 31) hx hb d_C_timesIn_11 (by decide) (fun c_11 => absurd c_11 (nI_ge (by omega) (by omega))) (fun c_11 => ?_)
      refine lv_aload_n hx hb d_C_timesIn_14 rfl (lv_at hl 3 rfl) ?_
      refine lv_iload hx hb d_C_timesIn_15 (lv_at hl 0 rfl) ?_
      refine ia_ld hx hb hK hP 2 (j := i) rfl (by omega) (by decide) d_C_timesIn_17 ?_
      refine tp_i (y := (nI (pl i))) rfl ?_
      refine lv_iload_n hx hb d_C_timesIn_18 rfl (lv_at hl 4 rfl) ?_
      refine lv_icmp_ne (tgt := 25) hx hb d_C_timesIn_19 (by decide) (fun c_19 => ?_) (fun c_19 => ?_)
      · refine lv_iinc (v := (nI (i + 1))) (lv' := [(4, .int (nI (i + 1))), (3, .int (nI t)), (0, .ref h), (1, .ref h2), (2, .int (nI x))]) hx hb d_C_timesIn_25 hl (k := 0) rfl (nI_1 _) (by decide) rfl (fun ls hl => ?_)
        refine lv_goto (tgt := 5) hx hb d_C_timesIn_28 (by decide) ?_
        exact ih_5 (i + 1) (t) (by omega) (by rw [ht, cnt_f (fun h9 => c_19 (by rw [h9]))]) ls (lv_sub hl [0, 1, 2, 3, 4] rfl)
      · refine lv_iinc (v := (nI (t + 1))) (lv' := [(3, .int (nI (t + 1))), (4, .int (nI i)), (0, .ref h), (1, .ref h2), (2, .int (nI x))]) hx hb d_C_timesIn_22 hl (k := 1) rfl (nI_1 _) (by decide) rfl (fun ls hl => ?_)
        refine lv_iinc (v := (nI (i + 1))) (lv' := [(4, .int (nI (i + 1))), (3, .int (nI (t + 1))), (0, .ref h), (1, .ref h2), (2, .int (nI x))]) hx hb d_C_timesIn_25 hl (k := 1) rfl (nI_1 _) (by decide) rfl (fun ls hl => ?_)
        refine lv_goto (tgt := 5) hx hb d_C_timesIn_28 (by decide) ?_
        exact ih_5 (i + 1) (t + 1) (by omega) (by rw [ht, cnt_t ((nI_eq (by have := hrow i (by omega); omega) (by omega)).mp c_19)]) ls (lv_sub hl [0, 1, 2, 3, 4] rfl)
  exact loop_5 (B) (0) (0) (by omega) (rfl) ls (lv_sub hl [0, 1, 2, 3, 4] rfl)

set_option maxHeartbeats 4000000 in
set_option maxRecDepth 100000 in
theorem c_C_findPlaces_2 {l : Launch} {s0 : State} {D : va_G} {cI cF cJ : ClassId} (G : Gx l s0 D cI cF cJ) (h h1 h2 h3 A B : Nat) (hd : Int32) (cs pl pb : Nat → Nat) (x : Int64) {H0 : Heap} {A0 : Nat → Prop} (hP : va_P D vcl [(h, .inr (0, [.int (nI A), .int (nI B), .int hd, .ref h1, .ref h2, .ref h3])), (h1, aN cI 1024 cs), (h2, aN cI 6 pl), (h3, aN cI 6 pb)] H0) (hD : va_D A0 [(h, .inr (0, [.int (nI A), .int (nI B), .int hd, .ref h1, .ref h2, .ref h3])), (h1, aN cI 1024 cs), (h2, aN cI 6 pl), (h3, aN cI 6 pb)]) (hA : A ≤ 10) (hB : B ≤ 6) : Mx l s0 y_C_findPlaces (.code y_C_findPlaces b_C_findPlaces 5 none) { frames := 2, cells := 0, slots := 0, locals := 42 } [.ref h, .long x, .ref h2] H0 (Aa [h, h1, h2, h3] H0.size) (Rn (fun H1 => va_P D vcl [(h, .inr (0, [.int (nI A), .int (nI B), .int hd, .ref h1, .ref h2, .ref h3])), (h1, aN cI 1024 cs), (h2, aN cI 6 (fpr A x pl B)), (h3, aN cI 6 pb)] H1)) := by
  refine Mx.ofW (own := "FewBits$Counters") rfl rfl ?_
  rintro p e s m below meth c ⟨hx, hb, hml, hr, hown, hW, hlk⟩ hnm het hH
  have hK := G.k hW
  have hD := hD.aa (sz := H0.size)
  have hD : va_D (Aa [h, h1, h2, h3] H0.size) [(h, .inr (0, [.int (nI A), .int (nI B), .int hd, .ref h1, .ref h2, .ref h3])), (h1, aN cI 1024 cs), (h2, aN cI 6 pl), (h3, aN cI 6 pb)] := hD
  have hS : va_S (Aa [h, h1, h2, h3] H0.size) H0 H0 [] := va_S.rf
  have hl := lv_entry ([.ref h, .long x, .ref h2]) (n := 5) (Nat.le_of_ble_eq_true rfl)
  rw [lg_entry_eq]
  generalize (lg_sl ([.ref h, .long x, .ref h2]) ++ List.replicate (5 - (lg_sl ([.ref h, .long x, .ref h2])).length) Slot.unset).toArray = ls at hl ⊢
  have hl : lv_has ls 5 [(0, .ref h), (1, .long x), (3, .ref h2)] := hl
  refine lv_iconst (v := (nI 0)) hx hb d_C_findPlaces_0 (by decide) ?_
  refine lv_istore (lv' := [(4, .int (nI 0)), (0, .ref h), (1, .long x), (3, .ref h2)]) hx hb d_C_findPlaces_1 hl (by decide) rfl (fun ls hl => ?_)
  have loop_3 : ∀ (k : Nat) (i : Nat), (i + k = B) → ∀ (H : Heap) (locs : List Loc), va_P D vcl [(h, .inr (0, [.int (nI A), .int (nI B), .int hd, .ref h1, .ref h2, .ref h3])), (h1, aN cI 1024 cs), (h2, aN cI 6 (fpr A x pl i)), (h3, aN cI 6 pb)] H → va_D (Aa [h, h1, h2, h3] H0.size) [(h, .inr (0, [.int (nI A), .int (nI B), .int hd, .ref h1, .ref h2, .ref h3])), (h1, aN cI 1024 cs), (h2, aN cI 6 (fpr A x pl i)), (h3, aN cI 6 pb)] → va_S (Aa [h, h1, h2, h3] H0.size) H0 H locs → ∀ (ls : Array Slot), lv_has ls 5 [(4, .int (nI i)), (0, .ref h), (1, .long x), (3, .ref h2)] → W p l e { frames := 2, cells := 0, slots := 0, locals := 42 } s m ([.ref h, .long x, .ref h2] : List Value).toArray below meth c H locs 0 0 (MQx below (Rn (fun H1 => va_P D vcl [(h, .inr (0, [.int (nI A), .int (nI B), .int hd, .ref h1, .ref h2, .ref h3])), (h1, aN cI 1024 cs), (h2, aN cI 6 (fpr A x pl B)), (h3, aN cI 6 pb)] H1)) s 0 0 (Aa [h, h1, h2, h3] H0.size)) (F0 m 3 ls []) := by
    intro k
    induction k with
    | zero =>
      intro i hk H locs hP hD hS ls hl
      refine lv_iload hx hb d_C_findPlaces_3 (lv_at hl 0 rfl) ?_
      refine lv_aload_n hx hb d_C_findPlaces_5 rfl (lv_at hl 1 rfl) ?_
      refine va_get (D := D) (ci := 0) (v := .int (nI B)) (C := R_C) (T := T_C) (N := 6) hx hb (us_C G hW) (fun _ h => h) hown hK hP 0 rfl rfl 1 (by decide) (fl_C_31 G hW) (u_same (args := ([.ref h, .long x, .ref h2] : List Value).toArray) (G.1.at 178 rfl rfl _ hW)) rfl d_C_findPlaces_6 ?_
      refine lv_icmp_ge (tgt := 32) hx hb d_C_findPlaces_9 (by decide) (fun c_9 => ?_) (fun c_9 => absurd (nI_le (by omega) (by omega)) c_9)
      exact mx_vret hx hb hr hlk d_C_findPlaces_32 (Nat.le_of_ble_eq_true rfl) (Nat.le_of_ble_eq_true rfl) hS.2.2 (⟨rfl, by rw [show i = B by omega] at hP; exact hP⟩)
    | succ k ih_3 =>
      intro i hk H locs hP hD hS ls hl
      refine lv_iload hx hb d_C_findPlaces_3 (lv_at hl 0 rfl) ?_
      refine lv_aload_n hx hb d_C_findPlaces_5 rfl (lv_at hl 1 rfl) ?_
      refine va_get (D := D) (ci := 0) (v := .int (nI B)) (C := R_C) (T := T_C) (N := 6) hx hb (us_C G hW) (fun _ h => h) hown hK hP 0 rfl rfl 1 (by decide) (fl_C_31 G hW) (u_same (args := ([.ref h, .long x, .ref h2] : List Value).toArray) (G.1.at 178 rfl rfl _ hW)) rfl d_C_findPlaces_6 ?_
      refine lv_icmp_ge (tgt := 32) hx hb d_C_findPlaces_9 (by decide) (fun c_9 => absurd c_9 (nI_ge (by omega) (by omega))) (fun c_9 => ?_)
      refine lv_aload_n hx hb d_C_findPlaces_12 rfl (lv_at hl 3 rfl) ?_
      refine lv_iload hx hb d_C_findPlaces_13 (lv_at hl 0 rfl) ?_
      refine lv_aload_n hx hb d_C_findPlaces_15 rfl (lv_at hl 1 rfl) ?_
      refine lv_lload_n hx hb d_C_findPlaces_16 rfl (lv_at hl 2 rfl) ?_
      refine lv_iload hx hb d_C_findPlaces_17 (lv_at hl 0 rfl) ?_
      refine mx_callR (r := .long (mx x (nI i).toInt64)) (c_F_mixed G x (nI i)) hW (iv_C_findPlaces_19 G hx hb hown hW [.long x, .int (nI i)] [.ref h, .int (nI i), .ref h2] rfl) hml hl.1 (by rw [hb]; exact d_C_findPlaces_19) (cd_F_mixed G hW) ⟨Nat.le_of_ble_eq_true rfl, Nat.le_of_ble_eq_true rfl⟩ rfl rfl (Nat.le_of_ble_eq_true rfl) (Nat.le_of_ble_eq_true rfl) (Nat.le_of_ble_eq_true rfl) ?_
      refine mx_callR (r := .int (nI (plx A x i))) (c_P_lowestBits_C G h h1 h2 h3 A B hd cs (fpr A x pl i) pb (mx x (nI i).toInt64) hP hA) hW (iv_C_findPlaces_22 G hx hb hown hW (va_recv hK hP (ci := 0) (q0 := 0) rfl rfl) [.long (mx x (nI i).toInt64)] [.int (nI i), .ref h2] rfl) hml hl.1 (by rw [hb]; exact d_C_findPlaces_22) (cd_P_lowestBits G hW) ⟨Nat.le_of_ble_eq_true rfl, Nat.le_of_ble_eq_true rfl⟩ rfl rfl (Nat.le_of_ble_eq_true rfl) (Nat.le_of_ble_eq_true rfl) (Nat.le_of_ble_eq_true rfl) ?_
      refine ia_stN hx hb hK hP hD hS 2 (j := i) (x := (plx A x i)) (f := (fpr A x pl i)) rfl (by omega) (by decide) d_C_findPlaces_25 (fun H locs hP hD hS => ?_)
      have hP : va_P D vcl [(h, .inr (0, [.int (nI A), .int (nI B), .int hd, .ref h1, .ref h2, .ref h3])), (h1, aN cI 1024 cs), (h2, aN cI 6 (va_up (fpr A x pl i) i (plx A x i))), (h3, aN cI 6 pb)] H := hP
      have hD : va_D (Aa [h, h1, h2, h3] H0.size) [(h, .inr (0, [.int (nI A), .int (nI B), .int hd, .ref h1, .ref h2, .ref h3])), (h1, aN cI 1024 cs), (h2, aN cI 6 (va_up (fpr A x pl i) i (plx A x i))), (h3, aN cI 6 pb)] := hD
      refine lv_iinc (v := (nI (i + 1))) (lv' := [(4, .int (nI (i + 1))), (0, .ref h), (1, .long x), (3, .ref h2)]) hx hb d_C_findPlaces_26 hl (k := 0) rfl (nI_1 _) (by decide) rfl (fun ls hl => ?_)
      refine lv_goto (tgt := 3) hx hb d_C_findPlaces_29 (by decide) ?_
      exact ih_3 (i + 1) (by omega) H locs hP hD hS ls (lv_sub hl [0, 1, 2, 3] rfl)
  exact loop_3 (B) (0) (by omega) H0 [] hP hD hS ls (lv_sub hl [0, 1, 2, 3] rfl)

set_option maxHeartbeats 4000000 in
set_option maxRecDepth 100000 in
theorem c_C_timesIn_3 {l : Launch} {s0 : State} {D : va_G} {cI cF cJ : ClassId} (G : Gx l s0 D cI cF cJ) (h h1 h2 h3 A B : Nat) (hd : Int32) (cs pl pb : Nat → Nat) (x : Nat) {H0 : Heap} (hP : va_P D vcl [(h, .inr (0, [.int (nI A), .int (nI B), .int hd, .ref h1, .ref h2, .ref h3])), (h1, aN cI 1024 cs), (h2, aN cI 6 pl), (h3, aN cI 6 pb)] H0) (hB : B ≤ 6) (hrow : ∀ i, i < B → pb i < 1024) (hx1 : x < 1024) : Mx l s0 y_C_timesIn (.code y_C_timesIn b_C_timesIn 5 (some .int)) { frames := 0, cells := 0, slots := 0, locals := 0 } [.ref h, .ref h3, .int (nI x)] H0 (fun _ => False) (Rd H0 (.int (nI (cnt pb x B)))) := by
  refine Mx.ofW (own := "FewBits$Counters") rfl rfl ?_
  rintro p e s m below meth c ⟨hx, hb, hml, hr, hown, hW, hlk⟩ hnm het hH
  have hK := G.k hW
  have hl := lv_entry ([.ref h, .ref h3, .int (nI x)]) (n := 5) (Nat.le_of_ble_eq_true rfl)
  rw [lg_entry_eq]
  generalize (lg_sl ([.ref h, .ref h3, .int (nI x)]) ++ List.replicate (5 - (lg_sl ([.ref h, .ref h3, .int (nI x)])).length) Slot.unset).toArray = ls at hl ⊢
  have hl : lv_has ls 5 [(0, .ref h), (1, .ref h3), (2, .int (nI x))] := hl
  refine lv_iconst (v := (nI 0)) hx hb d_C_timesIn_0 (by decide) ?_
  refine lv_istore_n (lv' := [(3, .int (nI 0)), (0, .ref h), (1, .ref h3), (2, .int (nI x))]) hx hb d_C_timesIn_1 rfl hl (by decide) rfl (fun ls hl => ?_)
  refine lv_iconst (v := (nI 0)) hx hb d_C_timesIn_2 (by decide) ?_
  refine lv_istore (lv' := [(4, .int (nI 0)), (3, .int (nI 0)), (0, .ref h), (1, .ref h3), (2, .int (nI x))]) hx hb d_C_timesIn_3 hl (by decide) rfl (fun ls hl => ?_)
  have loop_5 : ∀ (k : Nat) (i : Nat) (t : Nat), (i + k = B) → (t = cnt pb x i) → ∀ (ls : Array Slot), lv_has ls 5 [(4, .int (nI i)), (3, .int (nI t)), (0, .ref h), (1, .ref h3), (2, .int (nI x))] → W p l e { frames := 0, cells := 0, slots := 0, locals := 0 } s m ([.ref h, .ref h3, .int (nI x)] : List Value).toArray below meth c H0 [] 0 0 (MQx below (Rd H0 (.int (nI (cnt pb x B)))) s 0 0 (fun _ => False)) (F0 m 5 ls []) := by
    intro k
    induction k with
    | zero =>
      intro i t hk ht  ls hl
      refine lv_iload hx hb d_C_timesIn_5 (lv_at hl 0 rfl) ?_
      refine lv_aload_n hx hb d_C_timesIn_7 rfl (lv_at hl 2 rfl) ?_
      refine va_get (D := D) (ci := 0) (v := .int (nI B)) (C := R_C) (T := T_C) (N := 6) hx hb (us_C G hW) (fun _ h => h) hown hK hP 0 rfl rfl 1 (by decide) (fl_C_31 G hW) (u_same (args := ([.ref h, .ref h3, .int (nI x)] : List Value).toArray) (G.1.at 178 rfl rfl _ hW)) rfl d_C_timesIn_8 ?_
      refine lv_icmp_ge (tgt := 31) hx hb d_C_timesIn_11 (by decide) (fun c_11 => ?_) (fun c_11 => absurd (nI_le (by omega) (by omega)) c_11)
      refine lv_iload_n hx hb d_C_timesIn_31 rfl (lv_at hl 1 rfl) ?_
      exact mx_iret hx hb hr hlk d_C_timesIn_32 (Nat.le_of_ble_eq_true rfl) (Nat.le_of_ble_eq_true rfl) (fun _ h => nomatch h) (⟨by rw [ht, show i = B by omega], rfl⟩)
    | succ k ih_5 =>
      intro i t hk ht  ls hl
      refine lv_iload hx hb d_C_timesIn_5 (lv_at hl 0 rfl) ?_
      refine lv_aload_n hx hb d_C_timesIn_7 rfl (lv_at hl 2 rfl) ?_
      refine va_get (D := D) (ci := 0) (v := .int (nI B)) (C := R_C) (T := T_C) (N := 6) hx hb (us_C G hW) (fun _ h => h) hown hK hP 0 rfl rfl 1 (by decide) (fl_C_31 G hW) (u_same (args := ([.ref h, .ref h3, .int (nI x)] : List Value).toArray) (G.1.at 178 rfl rfl _ hW)) rfl d_C_timesIn_8 ?_
      refine lv_icmp_ge (tgt := 31) hx hb d_C_timesIn_11 (by decide) (fun c_11 => absurd c_11 (nI_ge (by omega) (by omega))) (fun c_11 => ?_)
      refine lv_aload_n hx hb d_C_timesIn_14 rfl (lv_at hl 3 rfl) ?_
      refine lv_iload hx hb d_C_timesIn_15 (lv_at hl 0 rfl) ?_
      refine ia_ld hx hb hK hP 3 (j := i) rfl (by omega) (by decide) d_C_timesIn_17 ?_
      refine tp_i (y := (nI (pb i))) rfl ?_
      refine lv_iload_n hx hb d_C_timesIn_18 rfl (lv_at hl 4 rfl) ?_
      refine lv_icmp_ne (tgt := 25) hx hb d_C_timesIn_19 (by decide) (fun c_19 => ?_) (fun c_19 => ?_)
      · refine lv_iinc (v := (nI (i + 1))) (lv' := [(4, .int (nI (i + 1))), (3, .int (nI t)), (0, .ref h), (1, .ref h3), (2, .int (nI x))]) hx hb d_C_timesIn_25 hl (k := 0) rfl (nI_1 _) (by decide) rfl (fun ls hl => ?_)
        refine lv_goto (tgt := 5) hx hb d_C_timesIn_28 (by decide) ?_
        exact ih_5 (i + 1) (t) (by omega) (by rw [ht, cnt_f (fun h9 => c_19 (by rw [h9]))]) ls (lv_sub hl [0, 1, 2, 3, 4] rfl)
      · refine lv_iinc (v := (nI (t + 1))) (lv' := [(3, .int (nI (t + 1))), (4, .int (nI i)), (0, .ref h), (1, .ref h3), (2, .int (nI x))]) hx hb d_C_timesIn_22 hl (k := 1) rfl (nI_1 _) (by decide) rfl (fun ls hl => ?_)
        refine lv_iinc (v := (nI (i + 1))) (lv' := [(4, .int (nI (i + 1))), (3, .int (nI (t + 1))), (0, .ref h), (1, .ref h3), (2, .int (nI x))]) hx hb d_C_timesIn_25 hl (k := 1) rfl (nI_1 _) (by decide) rfl (fun ls hl => ?_)
        refine lv_goto (tgt := 5) hx hb d_C_timesIn_28 (by decide) ?_
        exact ih_5 (i + 1) (t + 1) (by omega) (by rw [ht, cnt_t ((nI_eq (by have := hrow i (by omega); omega) (by omega)).mp c_19)]) ls (lv_sub hl [0, 1, 2, 3, 4] rfl)
  exact loop_5 (B) (0) (0) (by omega) (rfl) ls (lv_sub hl [0, 1, 2, 3, 4] rfl)

set_option maxHeartbeats 4000000 in
set_option maxRecDepth 100000 in
theorem c_C_findPlaces_3 {l : Launch} {s0 : State} {D : va_G} {cI cF cJ : ClassId} (G : Gx l s0 D cI cF cJ) (h h1 h2 h3 A B : Nat) (hd : Int32) (cs pl pb : Nat → Nat) (x : Int64) {H0 : Heap} {A0 : Nat → Prop} (hP : va_P D vcl [(h, .inr (0, [.int (nI A), .int (nI B), .int hd, .ref h1, .ref h2, .ref h3])), (h1, aN cI 1024 cs), (h2, aN cI 6 pl), (h3, aN cI 6 pb)] H0) (hD : va_D A0 [(h, .inr (0, [.int (nI A), .int (nI B), .int hd, .ref h1, .ref h2, .ref h3])), (h1, aN cI 1024 cs), (h2, aN cI 6 pl), (h3, aN cI 6 pb)]) (hA : A ≤ 10) (hB : B ≤ 6) : Mx l s0 y_C_findPlaces (.code y_C_findPlaces b_C_findPlaces 5 none) { frames := 2, cells := 0, slots := 0, locals := 42 } [.ref h, .long x, .ref h3] H0 (Aa [h, h1, h2, h3] H0.size) (Rn (fun H1 => va_P D vcl [(h, .inr (0, [.int (nI A), .int (nI B), .int hd, .ref h1, .ref h2, .ref h3])), (h1, aN cI 1024 cs), (h2, aN cI 6 pl), (h3, aN cI 6 (fpr A x pb B))] H1)) := by
  refine Mx.ofW (own := "FewBits$Counters") rfl rfl ?_
  rintro p e s m below meth c ⟨hx, hb, hml, hr, hown, hW, hlk⟩ hnm het hH
  have hK := G.k hW
  have hD := hD.aa (sz := H0.size)
  have hD : va_D (Aa [h, h1, h2, h3] H0.size) [(h, .inr (0, [.int (nI A), .int (nI B), .int hd, .ref h1, .ref h2, .ref h3])), (h1, aN cI 1024 cs), (h2, aN cI 6 pl), (h3, aN cI 6 pb)] := hD
  have hS : va_S (Aa [h, h1, h2, h3] H0.size) H0 H0 [] := va_S.rf
  have hl := lv_entry ([.ref h, .long x, .ref h3]) (n := 5) (Nat.le_of_ble_eq_true rfl)
  rw [lg_entry_eq]
  generalize (lg_sl ([.ref h, .long x, .ref h3]) ++ List.replicate (5 - (lg_sl ([.ref h, .long x, .ref h3])).length) Slot.unset).toArray = ls at hl ⊢
  have hl : lv_has ls 5 [(0, .ref h), (1, .long x), (3, .ref h3)] := hl
  refine lv_iconst (v := (nI 0)) hx hb d_C_findPlaces_0 (by decide) ?_
  refine lv_istore (lv' := [(4, .int (nI 0)), (0, .ref h), (1, .long x), (3, .ref h3)]) hx hb d_C_findPlaces_1 hl (by decide) rfl (fun ls hl => ?_)
  have loop_3 : ∀ (k : Nat) (i : Nat), (i + k = B) → ∀ (H : Heap) (locs : List Loc), va_P D vcl [(h, .inr (0, [.int (nI A), .int (nI B), .int hd, .ref h1, .ref h2, .ref h3])), (h1, aN cI 1024 cs), (h2, aN cI 6 pl), (h3, aN cI 6 (fpr A x pb i))] H → va_D (Aa [h, h1, h2, h3] H0.size) [(h, .inr (0, [.int (nI A), .int (nI B), .int hd, .ref h1, .ref h2, .ref h3])), (h1, aN cI 1024 cs), (h2, aN cI 6 pl), (h3, aN cI 6 (fpr A x pb i))] → va_S (Aa [h, h1, h2, h3] H0.size) H0 H locs → ∀ (ls : Array Slot), lv_has ls 5 [(4, .int (nI i)), (0, .ref h), (1, .long x), (3, .ref h3)] → W p l e { frames := 2, cells := 0, slots := 0, locals := 42 } s m ([.ref h, .long x, .ref h3] : List Value).toArray below meth c H locs 0 0 (MQx below (Rn (fun H1 => va_P D vcl [(h, .inr (0, [.int (nI A), .int (nI B), .int hd, .ref h1, .ref h2, .ref h3])), (h1, aN cI 1024 cs), (h2, aN cI 6 pl), (h3, aN cI 6 (fpr A x pb B))] H1)) s 0 0 (Aa [h, h1, h2, h3] H0.size)) (F0 m 3 ls []) := by
    intro k
    induction k with
    | zero =>
      intro i hk H locs hP hD hS ls hl
      refine lv_iload hx hb d_C_findPlaces_3 (lv_at hl 0 rfl) ?_
      refine lv_aload_n hx hb d_C_findPlaces_5 rfl (lv_at hl 1 rfl) ?_
      refine va_get (D := D) (ci := 0) (v := .int (nI B)) (C := R_C) (T := T_C) (N := 6) hx hb (us_C G hW) (fun _ h => h) hown hK hP 0 rfl rfl 1 (by decide) (fl_C_31 G hW) (u_same (args := ([.ref h, .long x, .ref h3] : List Value).toArray) (G.1.at 178 rfl rfl _ hW)) rfl d_C_findPlaces_6 ?_
      refine lv_icmp_ge (tgt := 32) hx hb d_C_findPlaces_9 (by decide) (fun c_9 => ?_) (fun c_9 => absurd (nI_le (by omega) (by omega)) c_9)
      exact mx_vret hx hb hr hlk d_C_findPlaces_32 (Nat.le_of_ble_eq_true rfl) (Nat.le_of_ble_eq_true rfl) hS.2.2 (⟨rfl, by rw [show i = B by omega] at hP; exact hP⟩)
    | succ k ih_3 =>
      intro i hk H locs hP hD hS ls hl
      refine lv_iload hx hb d_C_findPlaces_3 (lv_at hl 0 rfl) ?_
      refine lv_aload_n hx hb d_C_findPlaces_5 rfl (lv_at hl 1 rfl) ?_
      refine va_get (D := D) (ci := 0) (v := .int (nI B)) (C := R_C) (T := T_C) (N := 6) hx hb (us_C G hW) (fun _ h => h) hown hK hP 0 rfl rfl 1 (by decide) (fl_C_31 G hW) (u_same (args := ([.ref h, .long x, .ref h3] : List Value).toArray) (G.1.at 178 rfl rfl _ hW)) rfl d_C_findPlaces_6 ?_
      refine lv_icmp_ge (tgt := 32) hx hb d_C_findPlaces_9 (by decide) (fun c_9 => absurd c_9 (nI_ge (by omega) (by omega))) (fun c_9 => ?_)
      refine lv_aload_n hx hb d_C_findPlaces_12 rfl (lv_at hl 3 rfl) ?_
      refine lv_iload hx hb d_C_findPlaces_13 (lv_at hl 0 rfl) ?_
      refine lv_aload_n hx hb d_C_findPlaces_15 rfl (lv_at hl 1 rfl) ?_
      refine lv_lload_n hx hb d_C_findPlaces_16 rfl (lv_at hl 2 rfl) ?_
      refine lv_iload hx hb d_C_findPlaces_17 (lv_at hl 0 rfl) ?_
      refine mx_callR (r := .long (mx x (nI i).toInt64)) (c_F_mixed G x (nI i)) hW (iv_C_findPlaces_19 G hx hb hown hW [.long x, .int (nI i)] [.ref h, .int (nI i), .ref h3] rfl) hml hl.1 (by rw [hb]; exact d_C_findPlaces_19) (cd_F_mixed G hW) ⟨Nat.le_of_ble_eq_true rfl, Nat.le_of_ble_eq_true rfl⟩ rfl rfl (Nat.le_of_ble_eq_true rfl) (Nat.le_of_ble_eq_true rfl) (Nat.le_of_ble_eq_true rfl) ?_
      refine mx_callR (r := .int (nI (plx A x i))) (c_P_lowestBits_C G h h1 h2 h3 A B hd cs pl (fpr A x pb i) (mx x (nI i).toInt64) hP hA) hW (iv_C_findPlaces_22 G hx hb hown hW (va_recv hK hP (ci := 0) (q0 := 0) rfl rfl) [.long (mx x (nI i).toInt64)] [.int (nI i), .ref h3] rfl) hml hl.1 (by rw [hb]; exact d_C_findPlaces_22) (cd_P_lowestBits G hW) ⟨Nat.le_of_ble_eq_true rfl, Nat.le_of_ble_eq_true rfl⟩ rfl rfl (Nat.le_of_ble_eq_true rfl) (Nat.le_of_ble_eq_true rfl) (Nat.le_of_ble_eq_true rfl) ?_
      refine ia_stN hx hb hK hP hD hS 3 (j := i) (x := (plx A x i)) (f := (fpr A x pb i)) rfl (by omega) (by decide) d_C_findPlaces_25 (fun H locs hP hD hS => ?_)
      have hP : va_P D vcl [(h, .inr (0, [.int (nI A), .int (nI B), .int hd, .ref h1, .ref h2, .ref h3])), (h1, aN cI 1024 cs), (h2, aN cI 6 pl), (h3, aN cI 6 (va_up (fpr A x pb i) i (plx A x i)))] H := hP
      have hD : va_D (Aa [h, h1, h2, h3] H0.size) [(h, .inr (0, [.int (nI A), .int (nI B), .int hd, .ref h1, .ref h2, .ref h3])), (h1, aN cI 1024 cs), (h2, aN cI 6 pl), (h3, aN cI 6 (va_up (fpr A x pb i) i (plx A x i)))] := hD
      refine lv_iinc (v := (nI (i + 1))) (lv' := [(4, .int (nI (i + 1))), (0, .ref h), (1, .long x), (3, .ref h3)]) hx hb d_C_findPlaces_26 hl (k := 0) rfl (nI_1 _) (by decide) rfl (fun ls hl => ?_)
      refine lv_goto (tgt := 3) hx hb d_C_findPlaces_29 (by decide) ?_
      exact ih_3 (i + 1) (by omega) H locs hP hD hS ls (lv_sub hl [0, 1, 2, 3] rfl)
  exact loop_3 (B) (0) (by omega) H0 [] hP hD hS ls (lv_sub hl [0, 1, 2, 3] rfl)

set_option maxHeartbeats 4000000 in
set_option maxRecDepth 100000 in
theorem c_C_countBy_p {l : Launch} {s0 : State} {D : va_G} {cI cF cJ : ClassId} (G : Gx l s0 D cI cF cJ) (h h1 h2 h3 A B : Nat) (hd : Int32) (cs pl pb : Nat → Nat) {H0 : Heap} {A0 : Nat → Prop} (hP : va_P D vcl [(h, .inr (0, [.int (nI A), .int (nI B), .int hd, .ref h1, .ref h2, .ref h3])), (h1, aN cI 1024 cs), (h2, aN cI 6 pl), (h3, aN cI 6 pb)] H0) (hD : va_D A0 [(h, .inr (0, [.int (nI A), .int (nI B), .int hd, .ref h1, .ref h2, .ref h3])), (h1, aN cI 1024 cs), (h2, aN cI 6 pl), (h3, aN cI 6 pb)]) (hB : B ≤ 6) (hrow : ∀ i, i < B → pl i < 1024) : Mx l s0 y_C_countBy (.code y_C_countBy b_C_countBy 3 none) { frames := 0, cells := 0, slots := 0, locals := 0 } [.ref h, .int (nI 1)] H0 (Aa [h, h1, h2, h3] H0.size) (Rn (fun H1 => va_P D vcl [(h, .inr (0, [.int (nI A), .int (nI B), .int hd, .ref h1, .ref h2, .ref h3])), (h1, aN cI 1024 (addC cs pl B)), (h2, aN cI 6 pl), (h3, aN cI 6 pb)] H1)) := by
  refine Mx.ofW (own := "FewBits$Counters") rfl rfl ?_
  rintro p e s m below meth c ⟨hx, hb, hml, hr, hown, hW, hlk⟩ hnm het hH
  have hK := G.k hW
  have hD := hD.aa (sz := H0.size)
  have hD : va_D (Aa [h, h1, h2, h3] H0.size) [(h, .inr (0, [.int (nI A), .int (nI B), .int hd, .ref h1, .ref h2, .ref h3])), (h1, aN cI 1024 cs), (h2, aN cI 6 pl), (h3, aN cI 6 pb)] := hD
  have hS : va_S (Aa [h, h1, h2, h3] H0.size) H0 H0 [] := va_S.rf
  have hl := lv_entry ([.ref h, .int (nI 1)]) (n := 3) (Nat.le_of_ble_eq_true rfl)
  rw [lg_entry_eq]
  generalize (lg_sl ([.ref h, .int (nI 1)]) ++ List.replicate (3 - (lg_sl ([.ref h, .int (nI 1)])).length) Slot.unset).toArray = ls at hl ⊢
  have hl : lv_has ls 3 [(0, .ref h), (1, .int (nI 1))] := hl
  refine lv_iconst (v := (nI 0)) hx hb d_C_countBy_0 (by decide) ?_
  refine lv_istore_n (lv' := [(2, .int (nI 0)), (0, .ref h), (1, .int (nI 1))]) hx hb d_C_countBy_1 rfl hl (by decide) rfl (fun ls hl => ?_)
  have loop_2 : ∀ (k : Nat) (i : Nat), (i + k = B) → ∀ (H : Heap) (locs : List Loc), va_P D vcl [(h, .inr (0, [.int (nI A), .int (nI B), .int hd, .ref h1, .ref h2, .ref h3])), (h1, aN cI 1024 (addC cs pl i)), (h2, aN cI 6 pl), (h3, aN cI 6 pb)] H → va_D (Aa [h, h1, h2, h3] H0.size) [(h, .inr (0, [.int (nI A), .int (nI B), .int hd, .ref h1, .ref h2, .ref h3])), (h1, aN cI 1024 (addC cs pl i)), (h2, aN cI 6 pl), (h3, aN cI 6 pb)] → va_S (Aa [h, h1, h2, h3] H0.size) H0 H locs → ∀ (ls : Array Slot), lv_has ls 3 [(2, .int (nI i)), (0, .ref h), (1, .int (nI 1))] → W p l e { frames := 0, cells := 0, slots := 0, locals := 0 } s m ([.ref h, .int (nI 1)] : List Value).toArray below meth c H locs 0 0 (MQx below (Rn (fun H1 => va_P D vcl [(h, .inr (0, [.int (nI A), .int (nI B), .int hd, .ref h1, .ref h2, .ref h3])), (h1, aN cI 1024 (addC cs pl B)), (h2, aN cI 6 pl), (h3, aN cI 6 pb)] H1)) s 0 0 (Aa [h, h1, h2, h3] H0.size)) (F0 m 2 ls []) := by
    intro k
    induction k with
    | zero =>
      intro i hk H locs hP hD hS ls hl
      refine lv_iload_n hx hb d_C_countBy_2 rfl (lv_at hl 0 rfl) ?_
      refine lv_aload_n hx hb d_C_countBy_3 rfl (lv_at hl 1 rfl) ?_
      refine va_get (D := D) (ci := 0) (v := .int (nI B)) (C := R_C) (T := T_C) (N := 6) hx hb (us_C G hW) (fun _ h => h) hown hK hP 0 rfl rfl 1 (by decide) (fl_C_31 G hW) (u_same (args := ([.ref h, .int (nI 1)] : List Value).toArray) (G.1.at 178 rfl rfl _ hW)) rfl d_C_countBy_4 ?_
      refine lv_icmp_ge (tgt := 31) hx hb d_C_countBy_7 (by decide) (fun c_7 => ?_) (fun c_7 => absurd (nI_le (by omega) (by omega)) c_7)
      exact mx_vret hx hb hr hlk d_C_countBy_31 (Nat.le_of_ble_eq_true rfl) (Nat.le_of_ble_eq_true rfl) hS.2.2 (⟨rfl, by rw [show i = B by omega] at hP; exact hP⟩)
    | succ k ih_2 =>
      intro i hk H locs hP hD hS ls hl
      refine lv_iload_n hx hb d_C_countBy_2 rfl (lv_at hl 0 rfl) ?_
      refine lv_aload_n hx hb d_C_countBy_3 rfl (lv_at hl 1 rfl) ?_
      refine va_get (D := D) (ci := 0) (v := .int (nI B)) (C := R_C) (T := T_C) (N := 6) hx hb (us_C G hW) (fun _ h => h) hown hK hP 0 rfl rfl 1 (by decide) (fl_C_31 G hW) (u_same (args := ([.ref h, .int (nI 1)] : List Value).toArray) (G.1.at 178 rfl rfl _ hW)) rfl d_C_countBy_4 ?_
      refine lv_icmp_ge (tgt := 31) hx hb d_C_countBy_7 (by decide) (fun c_7 => absurd c_7 (nI_ge (by omega) (by omega))) (fun c_7 => ?_)
      refine lv_aload_n hx hb d_C_countBy_10 rfl (lv_at hl 1 rfl) ?_
      refine va_get (D := D) (ci := 0) (v := .ref h1) (C := R_C) (T := T_C) (N := 6) hx hb (us_C G hW) (fun _ h => h) hown hK hP 0 rfl rfl 3 (by decide) (fl_C_11 G hW) (fun _ h9 => h9) rfl d_C_countBy_11 ?_
      refine lv_aload_n hx hb d_C_countBy_14 rfl (lv_at hl 1 rfl) ?_
      refine va_get (D := D) (ci := 0) (v := .ref h2) (C := R_C) (T := T_C) (N := 6) hx hb (us_C G hW) (fun _ h => h) hown hK hP 0 rfl rfl 4 (by decide) (fl_C_15 G hW) (fun _ h9 => h9) rfl d_C_countBy_15 ?_
      refine lv_iload_n hx hb d_C_countBy_18 rfl (lv_at hl 0 rfl) ?_
      refine ia_ld hx hb hK hP 2 (j := i) rfl (by omega) (by decide) d_C_countBy_19 ?_
      refine tp_i (y := (nI (pl i))) rfl ?_
      refine lv_dup2_11 hx hb d_C_countBy_20 rfl rfl ?_
      refine ia_ld hx hb hK hP 1 (j := (pl i)) rfl (hrow i (by omega)) (by decide) d_C_countBy_21 ?_
      refine tp_i (y := (nI ((addC cs pl i) (pl i)))) rfl ?_
      refine lv_iload_n hx hb d_C_countBy_22 rfl (lv_at hl 2 rfl) ?_
      refine lv_iadd hx hb d_C_countBy_23 ?_
      refine tp_i (y := (nI (addC cs pl i (pl i) + 1))) (nI_add _ _) ?_
      refine ia_stN hx hb hK hP hD hS 1 (j := (pl i)) (x := (addC cs pl i (pl i) + 1)) (f := (addC cs pl i)) rfl (hrow i (by omega)) (by decide) d_C_countBy_24 (fun H locs hP hD hS => ?_)
      have hP : va_P D vcl [(h, .inr (0, [.int (nI A), .int (nI B), .int hd, .ref h1, .ref h2, .ref h3])), (h1, aN cI 1024 (va_up (addC cs pl i) (pl i) (addC cs pl i (pl i) + 1))), (h2, aN cI 6 pl), (h3, aN cI 6 pb)] H := hP
      have hD : va_D (Aa [h, h1, h2, h3] H0.size) [(h, .inr (0, [.int (nI A), .int (nI B), .int hd, .ref h1, .ref h2, .ref h3])), (h1, aN cI 1024 (va_up (addC cs pl i) (pl i) (addC cs pl i (pl i) + 1))), (h2, aN cI 6 pl), (h3, aN cI 6 pb)] := hD
      rw [addC_s] at hP hD
      refine lv_iinc (v := (nI (i + 1))) (lv' := [(2, .int (nI (i + 1))), (0, .ref h), (1, .int (nI 1))]) hx hb d_C_countBy_25 hl (k := 0) rfl (nI_1 _) (by decide) rfl (fun ls hl => ?_)
      refine lv_goto (tgt := 2) hx hb d_C_countBy_28 (by decide) ?_
      exact ih_2 (i + 1) (by omega) H locs hP hD hS ls (lv_sub hl [0, 1, 2] rfl)
  exact loop_2 (B) (0) (by omega) H0 [] hP hD hS ls (lv_sub hl [0, 1, 2] rfl)

set_option maxHeartbeats 4000000 in
set_option maxRecDepth 100000 in
theorem c_C_countBy_m {l : Launch} {s0 : State} {D : va_G} {cI cF cJ : ClassId} (G : Gx l s0 D cI cF cJ) (h h1 h2 h3 A B : Nat) (hd : Int32) (cs pl pb : Nat → Nat) {H0 : Heap} {A0 : Nat → Prop} (hP : va_P D vcl [(h, .inr (0, [.int (nI A), .int (nI B), .int hd, .ref h1, .ref h2, .ref h3])), (h1, aN cI 1024 cs), (h2, aN cI 6 pl), (h3, aN cI 6 pb)] H0) (hD : va_D A0 [(h, .inr (0, [.int (nI A), .int (nI B), .int hd, .ref h1, .ref h2, .ref h3])), (h1, aN cI 1024 cs), (h2, aN cI 6 pl), (h3, aN cI 6 pb)]) (hB : B ≤ 6) (hrow : ∀ i, i < B → pl i < 1024) (hge : ∀ i, i < B → cnt pl (pl i) B ≤ cs (pl i)) : Mx l s0 y_C_countBy (.code y_C_countBy b_C_countBy 3 none) { frames := 0, cells := 0, slots := 0, locals := 0 } [.ref h, .int (-1)] H0 (Aa [h, h1, h2, h3] H0.size) (Rn (fun H1 => va_P D vcl [(h, .inr (0, [.int (nI A), .int (nI B), .int hd, .ref h1, .ref h2, .ref h3])), (h1, aN cI 1024 (subC cs pl B)), (h2, aN cI 6 pl), (h3, aN cI 6 pb)] H1)) := by
  refine Mx.ofW (own := "FewBits$Counters") rfl rfl ?_
  rintro p e s m below meth c ⟨hx, hb, hml, hr, hown, hW, hlk⟩ hnm het hH
  have hK := G.k hW
  have hD := hD.aa (sz := H0.size)
  have hD : va_D (Aa [h, h1, h2, h3] H0.size) [(h, .inr (0, [.int (nI A), .int (nI B), .int hd, .ref h1, .ref h2, .ref h3])), (h1, aN cI 1024 cs), (h2, aN cI 6 pl), (h3, aN cI 6 pb)] := hD
  have hS : va_S (Aa [h, h1, h2, h3] H0.size) H0 H0 [] := va_S.rf
  have hl := lv_entry ([.ref h, .int (-1)]) (n := 3) (Nat.le_of_ble_eq_true rfl)
  rw [lg_entry_eq]
  generalize (lg_sl ([.ref h, .int (-1)]) ++ List.replicate (3 - (lg_sl ([.ref h, .int (-1)])).length) Slot.unset).toArray = ls at hl ⊢
  have hl : lv_has ls 3 [(0, .ref h), (1, .int (-1))] := hl
  refine lv_iconst (v := (nI 0)) hx hb d_C_countBy_0 (by decide) ?_
  refine lv_istore_n (lv' := [(2, .int (nI 0)), (0, .ref h), (1, .int (-1))]) hx hb d_C_countBy_1 rfl hl (by decide) rfl (fun ls hl => ?_)
  have loop_2 : ∀ (k : Nat) (i : Nat), (i + k = B) → ∀ (H : Heap) (locs : List Loc), va_P D vcl [(h, .inr (0, [.int (nI A), .int (nI B), .int hd, .ref h1, .ref h2, .ref h3])), (h1, aN cI 1024 (subC cs pl i)), (h2, aN cI 6 pl), (h3, aN cI 6 pb)] H → va_D (Aa [h, h1, h2, h3] H0.size) [(h, .inr (0, [.int (nI A), .int (nI B), .int hd, .ref h1, .ref h2, .ref h3])), (h1, aN cI 1024 (subC cs pl i)), (h2, aN cI 6 pl), (h3, aN cI 6 pb)] → va_S (Aa [h, h1, h2, h3] H0.size) H0 H locs → ∀ (ls : Array Slot), lv_has ls 3 [(2, .int (nI i)), (0, .ref h), (1, .int (-1))] → W p l e { frames := 0, cells := 0, slots := 0, locals := 0 } s m ([.ref h, .int (-1)] : List Value).toArray below meth c H locs 0 0 (MQx below (Rn (fun H1 => va_P D vcl [(h, .inr (0, [.int (nI A), .int (nI B), .int hd, .ref h1, .ref h2, .ref h3])), (h1, aN cI 1024 (subC cs pl B)), (h2, aN cI 6 pl), (h3, aN cI 6 pb)] H1)) s 0 0 (Aa [h, h1, h2, h3] H0.size)) (F0 m 2 ls []) := by
    intro k
    induction k with
    | zero =>
      intro i hk H locs hP hD hS ls hl
      refine lv_iload_n hx hb d_C_countBy_2 rfl (lv_at hl 0 rfl) ?_
      refine lv_aload_n hx hb d_C_countBy_3 rfl (lv_at hl 1 rfl) ?_
      refine va_get (D := D) (ci := 0) (v := .int (nI B)) (C := R_C) (T := T_C) (N := 6) hx hb (us_C G hW) (fun _ h => h) hown hK hP 0 rfl rfl 1 (by decide) (fl_C_31 G hW) (u_same (args := ([.ref h, .int (-1)] : List Value).toArray) (G.1.at 178 rfl rfl _ hW)) rfl d_C_countBy_4 ?_
      refine lv_icmp_ge (tgt := 31) hx hb d_C_countBy_7 (by decide) (fun c_7 => ?_) (fun c_7 => absurd (nI_le (by omega) (by omega)) c_7)
      exact mx_vret hx hb hr hlk d_C_countBy_31 (Nat.le_of_ble_eq_true rfl) (Nat.le_of_ble_eq_true rfl) hS.2.2 (⟨rfl, by rw [show i = B by omega] at hP; exact hP⟩)
    | succ k ih_2 =>
      intro i hk H locs hP hD hS ls hl
      refine lv_iload_n hx hb d_C_countBy_2 rfl (lv_at hl 0 rfl) ?_
      refine lv_aload_n hx hb d_C_countBy_3 rfl (lv_at hl 1 rfl) ?_
      refine va_get (D := D) (ci := 0) (v := .int (nI B)) (C := R_C) (T := T_C) (N := 6) hx hb (us_C G hW) (fun _ h => h) hown hK hP 0 rfl rfl 1 (by decide) (fl_C_31 G hW) (u_same (args := ([.ref h, .int (-1)] : List Value).toArray) (G.1.at 178 rfl rfl _ hW)) rfl d_C_countBy_4 ?_
      refine lv_icmp_ge (tgt := 31) hx hb d_C_countBy_7 (by decide) (fun c_7 => absurd c_7 (nI_ge (by omega) (by omega))) (fun c_7 => ?_)
      refine lv_aload_n hx hb d_C_countBy_10 rfl (lv_at hl 1 rfl) ?_
      refine va_get (D := D) (ci := 0) (v := .ref h1) (C := R_C) (T := T_C) (N := 6) hx hb (us_C G hW) (fun _ h => h) hown hK hP 0 rfl rfl 3 (by decide) (fl_C_11 G hW) (fun _ h9 => h9) rfl d_C_countBy_11 ?_
      refine lv_aload_n hx hb d_C_countBy_14 rfl (lv_at hl 1 rfl) ?_
      refine va_get (D := D) (ci := 0) (v := .ref h2) (C := R_C) (T := T_C) (N := 6) hx hb (us_C G hW) (fun _ h => h) hown hK hP 0 rfl rfl 4 (by decide) (fl_C_15 G hW) (fun _ h9 => h9) rfl d_C_countBy_15 ?_
      refine lv_iload_n hx hb d_C_countBy_18 rfl (lv_at hl 0 rfl) ?_
      refine ia_ld hx hb hK hP 2 (j := i) rfl (by omega) (by decide) d_C_countBy_19 ?_
      refine tp_i (y := (nI (pl i))) rfl ?_
      refine lv_dup2_11 hx hb d_C_countBy_20 rfl rfl ?_
      refine ia_ld hx hb hK hP 1 (j := (pl i)) rfl (hrow i (by omega)) (by decide) d_C_countBy_21 ?_
      refine tp_i (y := (nI ((subC cs pl i) (pl i)))) rfl ?_
      refine lv_iload_n hx hb d_C_countBy_22 rfl (lv_at hl 2 rfl) ?_
      refine lv_iadd hx hb d_C_countBy_23 ?_
      refine tp_i (y := (nI (subC cs pl i (pl i) - 1))) (sb_m1 (by have h1 := hge i (by omega); have h2 := cnt_mono (r := pl) (x := pl i) (show i + 1 ≤ B by omega); rw [cnt_t rfl] at h2; unfold subC; omega)) ?_
      refine ia_stN hx hb hK hP hD hS 1 (j := (pl i)) (x := (subC cs pl i (pl i) - 1)) (f := (subC cs pl i)) rfl (hrow i (by omega)) (by decide) d_C_countBy_24 (fun H locs hP hD hS => ?_)
      have hP : va_P D vcl [(h, .inr (0, [.int (nI A), .int (nI B), .int hd, .ref h1, .ref h2, .ref h3])), (h1, aN cI 1024 (va_up (subC cs pl i) (pl i) (subC cs pl i (pl i) - 1))), (h2, aN cI 6 pl), (h3, aN cI 6 pb)] H := hP
      have hD : va_D (Aa [h, h1, h2, h3] H0.size) [(h, .inr (0, [.int (nI A), .int (nI B), .int hd, .ref h1, .ref h2, .ref h3])), (h1, aN cI 1024 (va_up (subC cs pl i) (pl i) (subC cs pl i (pl i) - 1))), (h2, aN cI 6 pl), (h3, aN cI 6 pb)] := hD
      rw [subC_s] at hP hD
      refine lv_iinc (v := (nI (i + 1))) (lv' := [(2, .int (nI (i + 1))), (0, .ref h), (1, .int (-1))]) hx hb d_C_countBy_25 hl (k := 0) rfl (nI_1 _) (by decide) rfl (fun ls hl => ?_)
      refine lv_goto (tgt := 2) hx hb d_C_countBy_28 (by decide) ?_
      exact ih_2 (i + 1) (by omega) H locs hP hD hS ls (lv_sub hl [0, 1, 2] rfl)
  exact loop_2 (B) (0) (by omega) H0 [] hP hD hS ls (lv_sub hl [0, 1, 2] rfl)

set_option maxHeartbeats 4000000 in
set_option maxRecDepth 100000 in
theorem c_C_put {l : Launch} {s0 : State} {D : va_G} {cI cF cJ : ClassId} (G : Gx l s0 D cI cF cJ) (h h1 h2 h3 A B : Nat) (hd : Int32) (cs pl pb : Nat → Nat) (x : Int64) {H0 : Heap} {A0 : Nat → Prop} (hP : va_P D vcl [(h, .inr (0, [.int (nI A), .int (nI B), .int hd, .ref h1, .ref h2, .ref h3])), (h1, aN cI 1024 cs), (h2, aN cI 6 pl), (h3, aN cI 6 pb)] H0) (hD : va_D A0 [(h, .inr (0, [.int (nI A), .int (nI B), .int hd, .ref h1, .ref h2, .ref h3])), (h1, aN cI 1024 cs), (h2, aN cI 6 pl), (h3, aN cI 6 pb)]) (hA : A ≤ 10) (hB : B ≤ 6) (hc1 : ∀ j, j < 1024 → cs j ≤ 15) : Mx l s0 y_C_put (.code y_C_put b_C_put 4 (some .boolean)) { frames := 3, cells := 0, slots := 0, locals := 66 } [.ref h, .long x] H0 (Aa [h, h1, h2, h3] H0.size) (Rw (.int (bI (allN (fitA cs (fpr A x pl B) B) B))) (fun H1 => va_P D vcl [(h, .inr (0, [.int (nI A), .int (nI B), .int hd, .ref h1, .ref h2, .ref h3])), (h1, aN cI 1024 (if (allN (fitA cs (fpr A x pl B) B) B) then addC cs (fpr A x pl B) B else cs)), (h2, aN cI 6 (fpr A x pl B)), (h3, aN cI 6 pb)] H1)) := by
  refine Mx.ofW (own := "FewBits$Counters") rfl rfl ?_
  rintro p e s m below meth c ⟨hx, hb, hml, hr, hown, hW, hlk⟩ hnm het hH
  have hK := G.k hW
  have hD := hD.aa (sz := H0.size)
  have hD : va_D (Aa [h, h1, h2, h3] H0.size) [(h, .inr (0, [.int (nI A), .int (nI B), .int hd, .ref h1, .ref h2, .ref h3])), (h1, aN cI 1024 cs), (h2, aN cI 6 pl), (h3, aN cI 6 pb)] := hD
  have hS : va_S (Aa [h, h1, h2, h3] H0.size) H0 H0 [] := va_S.rf
  have hl := lv_entry ([.ref h, .long x]) (n := 4) (Nat.le_of_ble_eq_true rfl)
  rw [lg_entry_eq]
  generalize (lg_sl ([.ref h, .long x]) ++ List.replicate (4 - (lg_sl ([.ref h, .long x])).length) Slot.unset).toArray = ls at hl ⊢
  have hl : lv_has ls 4 [(0, .ref h), (1, .long x)] := hl
  refine lv_aload_n hx hb d_C_put_0 rfl (lv_at hl 0 rfl) ?_
  refine lv_lload_n hx hb d_C_put_1 rfl (lv_at hl 1 rfl) ?_
  refine lv_aload_n hx hb d_C_put_2 rfl (lv_at hl 0 rfl) ?_
  refine va_get (D := D) (ci := 0) (v := .ref h2) (C := R_C) (T := T_C) (N := 6) hx hb (us_C G hW) (fun _ h => h) hown hK hP 0 rfl rfl 4 (by decide) (fl_C_15 G hW) (fun _ h9 => h9) rfl d_C_put_3 ?_
  refine mx_callN (c_C_findPlaces_2 G h h1 h2 h3 A B hd cs pl pb x hP hD hA hB) hW (iv_C_put_6 G hx hb hown hW (va_recv hK hP (ci := 0) (q0 := 0) rfl rfl) [.long x, .ref h2] [] rfl) hml hl.1 (by rw [hb]; exact d_C_put_6) (cd_C_findPlaces G hW) ⟨Nat.le_of_ble_eq_true rfl, Nat.le_of_ble_eq_true rfl⟩ (Nat.le_of_ble_eq_true rfl) (Nat.le_of_ble_eq_true rfl) (Nat.le_of_ble_eq_true rfl) hS (Aa.mono (fun _ h => h) hS.1) (fun H locs hP _ _ hS => ?_)
  have hP : va_P D vcl [(h, .inr (0, [.int (nI A), .int (nI B), .int hd, .ref h1, .ref h2, .ref h3])), (h1, aN cI 1024 cs), (h2, aN cI 6 (fpr A x pl B)), (h3, aN cI 6 pb)] H := hP
  have hD : va_D (Aa [h, h1, h2, h3] H0.size) [(h, .inr (0, [.int (nI A), .int (nI B), .int hd, .ref h1, .ref h2, .ref h3])), (h1, aN cI 1024 cs), (h2, aN cI 6 (fpr A x pl B)), (h3, aN cI 6 pb)] := va_D.same2 [h, h1, h2, h3] hD rfl rfl
  refine lv_iconst (v := (nI 0)) hx hb d_C_put_9 (by decide) ?_
  refine lv_istore_n (lv' := [(3, .int (nI 0)), (0, .ref h), (1, .long x)]) hx hb d_C_put_10 rfl hl (by decide) rfl (fun ls hl => ?_)
  have loop_11 : ∀ (k : Nat) (i : Nat), (i + k = B) → (allN (fitA cs (fpr A x pl B) B) i = true) → ∀ (ls : Array Slot), lv_has ls 4 [(3, .int (nI i)), (0, .ref h), (1, .long x)] → W p l e { frames := 3, cells := 0, slots := 0, locals := 66 } s m ([.ref h, .long x] : List Value).toArray below meth c H locs 0 0 (MQx below (Rw (.int (bI (allN (fitA cs (fpr A x pl B) B) B))) (fun H1 => va_P D vcl [(h, .inr (0, [.int (nI A), .int (nI B), .int hd, .ref h1, .ref h2, .ref h3])), (h1, aN cI 1024 (if (allN (fitA cs (fpr A x pl B) B) B) then addC cs (fpr A x pl B) B else cs)), (h2, aN cI 6 (fpr A x pl B)), (h3, aN cI 6 pb)] H1)) s 0 0 (Aa [h, h1, h2, h3] H0.size)) (F0 m 11 ls []) := by
    intro k
    induction k with
    | zero =>
      intro i hk hf  ls hl
      refine lv_iload_n hx hb d_C_put_11 rfl (lv_at hl 0 rfl) ?_
      refine lv_aload_n hx hb d_C_put_12 rfl (lv_at hl 1 rfl) ?_
      refine va_get (D := D) (ci := 0) (v := .int (nI B)) (C := R_C) (T := T_C) (N := 6) hx hb (us_C G hW) (fun _ h => h) hown hK hP 0 rfl rfl 1 (by decide) (fl_C_31 G hW) (u_same (args := ([.ref h, .long x] : List Value).toArray) (G.1.at 178 rfl rfl _ hW)) rfl d_C_put_13 ?_
      refine lv_icmp_ge (tgt := 58) hx hb d_C_put_16 (by decide) (fun c_16 => ?_) (fun c_16 => absurd (nI_le (by omega) (by omega)) c_16)
      refine lv_aload_n hx hb d_C_put_58 rfl (lv_at hl 1 rfl) ?_
      refine lv_iconst (v := (nI 1)) hx hb d_C_put_59 (by decide) ?_
      rw [show i = B by omega] at hf
      refine mx_callN (c_C_countBy_p G h h1 h2 h3 A B hd cs (fpr A x pl B) pb hP hD hB (fun j hj => fpr_in hA hj)) hW (iv_C_put_60 G hx hb hown hW (va_recv hK hP (ci := 0) (q0 := 0) rfl rfl) [.int (nI 1)] [] rfl) hml hl.1 (by rw [hb]; exact d_C_put_60) (cd_C_countBy G hW) ⟨Nat.le_of_ble_eq_true rfl, Nat.le_of_ble_eq_true rfl⟩ (Nat.le_of_ble_eq_true rfl) (Nat.le_of_ble_eq_true rfl) (Nat.le_of_ble_eq_true rfl) hS (Aa.mono (fun _ h => h) hS.1) (fun H locs hP _ _ hS => ?_)
      have hP : va_P D vcl [(h, .inr (0, [.int (nI A), .int (nI B), .int hd, .ref h1, .ref h2, .ref h3])), (h1, aN cI 1024 (addC cs (fpr A x pl B) B)), (h2, aN cI 6 (fpr A x pl B)), (h3, aN cI 6 pb)] H := hP
      have hD : va_D (Aa [h, h1, h2, h3] H0.size) [(h, .inr (0, [.int (nI A), .int (nI B), .int hd, .ref h1, .ref h2, .ref h3])), (h1, aN cI 1024 (addC cs (fpr A x pl B) B)), (h2, aN cI 6 (fpr A x pl B)), (h3, aN cI 6 pb)] := va_D.same2 [h, h1, h2, h3] hD rfl rfl
      refine lv_iconst (v := (nI 1)) hx hb d_C_put_63 (by decide) ?_
      exact mx_zret hx hb hr hlk d_C_put_64 (Nat.le_of_ble_eq_true rfl) (Nat.le_of_ble_eq_true rfl) hS.2.2 (rfl) (⟨by rw [hf]; rfl, by rw [hf]; exact hP⟩)
    | succ k ih_11 =>
      intro i hk hf  ls hl
      refine lv_iload_n hx hb d_C_put_11 rfl (lv_at hl 0 rfl) ?_
      refine lv_aload_n hx hb d_C_put_12 rfl (lv_at hl 1 rfl) ?_
      refine va_get (D := D) (ci := 0) (v := .int (nI B)) (C := R_C) (T := T_C) (N := 6) hx hb (us_C G hW) (fun _ h => h) hown hK hP 0 rfl rfl 1 (by decide) (fl_C_31 G hW) (u_same (args := ([.ref h, .long x] : List Value).toArray) (G.1.at 178 rfl rfl _ hW)) rfl d_C_put_13 ?_
      refine lv_icmp_ge (tgt := 58) hx hb d_C_put_16 (by decide) (fun c_16 => absurd c_16 (nI_ge (by omega) (by omega))) (fun c_16 => ?_)
      refine lv_aload_n hx hb d_C_put_19 rfl (lv_at hl 1 rfl) ?_
      refine va_get (D := D) (ci := 0) (v := .ref h1) (C := R_C) (T := T_C) (N := 6) hx hb (us_C G hW) (fun _ h => h) hown hK hP 0 rfl rfl 3 (by decide) (fl_C_11 G hW) (fun _ h9 => h9) rfl d_C_put_20 ?_
      refine lv_aload_n hx hb d_C_put_23 rfl (lv_at hl 1 rfl) ?_
      refine va_get (D := D) (ci := 0) (v := .ref h2) (C := R_C) (T := T_C) (N := 6) hx hb (us_C G hW) (fun _ h => h) hown hK hP 0 rfl rfl 4 (by decide) (fl_C_15 G hW) (fun _ h9 => h9) rfl d_C_put_24 ?_
      refine lv_iload_n hx hb d_C_put_27 rfl (lv_at hl 0 rfl) ?_
      refine ia_ld hx hb hK hP 2 (j := i) rfl (by omega) (by decide) d_C_put_28 ?_
      refine tp_i (y := (nI ((fpr A x pl B) i))) rfl ?_
      refine ia_ld hx hb hK hP 1 (j := ((fpr A x pl B) i)) rfl ((fpr_in hA (by omega))) (by decide) d_C_put_29 ?_
      refine tp_i (y := (nI (cs ((fpr A x pl B) i)))) rfl ?_
      refine lv_aload_n hx hb d_C_put_30 rfl (lv_at hl 1 rfl) ?_
      refine lv_aload_n hx hb d_C_put_31 rfl (lv_at hl 1 rfl) ?_
      refine va_get (D := D) (ci := 0) (v := .ref h2) (C := R_C) (T := T_C) (N := 6) hx hb (us_C G hW) (fun _ h => h) hown hK hP 0 rfl rfl 4 (by decide) (fl_C_15 G hW) (fun _ h9 => h9) rfl d_C_put_32 ?_
      refine lv_aload_n hx hb d_C_put_35 rfl (lv_at hl 1 rfl) ?_
      refine va_get (D := D) (ci := 0) (v := .ref h2) (C := R_C) (T := T_C) (N := 6) hx hb (us_C G hW) (fun _ h => h) hown hK hP 0 rfl rfl 4 (by decide) (fl_C_15 G hW) (fun _ h9 => h9) rfl d_C_put_36 ?_
      refine lv_iload_n hx hb d_C_put_39 rfl (lv_at hl 0 rfl) ?_
      refine ia_ld hx hb hK hP 2 (j := i) rfl (by omega) (by decide) d_C_put_40 ?_
      refine tp_i (y := (nI ((fpr A x pl B) i))) rfl ?_
      refine mx_callR (r := .int (nI (cnt (fpr A x pl B) ((fpr A x pl B) i) B))) (c_C_timesIn_2 G h h1 h2 h3 A B hd cs (fpr A x pl B) pb ((fpr A x pl B) i) hP hB (fun j hj => fpr_in hA hj) (fpr_in hA (by omega))) hW (iv_C_put_41 G hx hb hown hW (va_recv hK hP (ci := 0) (q0 := 0) rfl rfl) [.ref h2, .int (nI ((fpr A x pl B) i))] [.int (nI (cs ((fpr A x pl B) i)))] rfl) hml hl.1 (by rw [hb]; exact d_C_put_41) (cd_C_timesIn G hW) ⟨Nat.le_of_ble_eq_true rfl, Nat.le_of_ble_eq_true rfl⟩ rfl rfl (Nat.le_of_ble_eq_true rfl) (Nat.le_of_ble_eq_true rfl) (Nat.le_of_ble_eq_true rfl) ?_
      refine lv_iadd hx hb d_C_put_44 ?_
      refine tp_i (y := (nI (cs ((fpr A x pl B) i) + cnt (fpr A x pl B) ((fpr A x pl B) i) B))) (nI_add _ _) ?_
      refine lv_bipush (v := (nI 15)) hx hb d_C_put_45 (by decide) ?_
      refine lv_icmp_le (tgt := 52) hx hb d_C_put_47 (by decide) (fun c_47 => ?_) (fun c_47 => ?_)
      · refine lv_iinc (v := (nI (i + 1))) (lv' := [(3, .int (nI (i + 1))), (0, .ref h), (1, .long x)]) hx hb d_C_put_52 hl (k := 0) rfl (nI_1 _) (by decide) rfl (fun ls hl => ?_)
        refine lv_goto (tgt := 11) hx hb d_C_put_55 (by decide) ?_
        exact ih_11 (i + 1) (by omega) (allN_s hf (decide_eq_true ((nI_leI (by have := hc1 ((fpr A x pl B) i) (fpr_in hA (by omega)); have := cnt_le (fpr A x pl B) ((fpr A x pl B) i) B; omega) (by decide)).mp c_47))) ls (lv_sub hl [0, 1, 2] rfl)
      · refine lv_iconst (v := (nI 0)) hx hb d_C_put_50 (by decide) ?_
        exact mx_zret hx hb hr hlk d_C_put_51 (Nat.le_of_ble_eq_true rfl) (Nat.le_of_ble_eq_true rfl) hS.2.2 (rfl) (⟨by rw [allN_f (i := i) (by omega) (decide_eq_false (fun h9 => c_47 (nI_le h9 (by decide))))]; rfl, by rw [allN_f (i := i) (by omega) (decide_eq_false (fun h9 => c_47 (nI_le h9 (by decide))))]; exact hP⟩)
  exact loop_11 (B) (0) (by omega) (rfl) ls (lv_sub hl [0, 1, 2] rfl)

set_option maxHeartbeats 4000000 in
set_option maxRecDepth 100000 in
theorem c_C_take {l : Launch} {s0 : State} {D : va_G} {cI cF cJ : ClassId} (G : Gx l s0 D cI cF cJ) (h h1 h2 h3 A B : Nat) (hd : Int32) (cs pl pb : Nat → Nat) (x : Int64) {H0 : Heap} {A0 : Nat → Prop} (hP : va_P D vcl [(h, .inr (0, [.int (nI A), .int (nI B), .int hd, .ref h1, .ref h2, .ref h3])), (h1, aN cI 1024 cs), (h2, aN cI 6 pl), (h3, aN cI 6 pb)] H0) (hD : va_D A0 [(h, .inr (0, [.int (nI A), .int (nI B), .int hd, .ref h1, .ref h2, .ref h3])), (h1, aN cI 1024 cs), (h2, aN cI 6 pl), (h3, aN cI 6 pb)]) (hA : A ≤ 10) (hB : B ≤ 6) (hc1 : ∀ j, j < 1024 → cs j ≤ 15) : Mx l s0 y_C_take (.code y_C_take b_C_take 4 (some .boolean)) { frames := 3, cells := 0, slots := 0, locals := 66 } [.ref h, .long x] H0 (Aa [h, h1, h2, h3] H0.size) (Rw (.int (bI (allN (fitS cs (fpr A x pl B) B) B))) (fun H1 => va_P D vcl [(h, .inr (0, [.int (nI A), .int (nI B), .int hd, .ref h1, .ref h2, .ref h3])), (h1, aN cI 1024 (if (allN (fitS cs (fpr A x pl B) B) B) then subC cs (fpr A x pl B) B else cs)), (h2, aN cI 6 (fpr A x pl B)), (h3, aN cI 6 pb)] H1)) := by
  refine Mx.ofW (own := "FewBits$Counters") rfl rfl ?_
  rintro p e s m below meth c ⟨hx, hb, hml, hr, hown, hW, hlk⟩ hnm het hH
  have hK := G.k hW
  have hD := hD.aa (sz := H0.size)
  have hD : va_D (Aa [h, h1, h2, h3] H0.size) [(h, .inr (0, [.int (nI A), .int (nI B), .int hd, .ref h1, .ref h2, .ref h3])), (h1, aN cI 1024 cs), (h2, aN cI 6 pl), (h3, aN cI 6 pb)] := hD
  have hS : va_S (Aa [h, h1, h2, h3] H0.size) H0 H0 [] := va_S.rf
  have hl := lv_entry ([.ref h, .long x]) (n := 4) (Nat.le_of_ble_eq_true rfl)
  rw [lg_entry_eq]
  generalize (lg_sl ([.ref h, .long x]) ++ List.replicate (4 - (lg_sl ([.ref h, .long x])).length) Slot.unset).toArray = ls at hl ⊢
  have hl : lv_has ls 4 [(0, .ref h), (1, .long x)] := hl
  refine lv_aload_n hx hb d_C_take_0 rfl (lv_at hl 0 rfl) ?_
  refine lv_lload_n hx hb d_C_take_1 rfl (lv_at hl 1 rfl) ?_
  refine lv_aload_n hx hb d_C_take_2 rfl (lv_at hl 0 rfl) ?_
  refine va_get (D := D) (ci := 0) (v := .ref h2) (C := R_C) (T := T_C) (N := 6) hx hb (us_C G hW) (fun _ h => h) hown hK hP 0 rfl rfl 4 (by decide) (fl_C_15 G hW) (fun _ h9 => h9) rfl d_C_take_3 ?_
  refine mx_callN (c_C_findPlaces_2 G h h1 h2 h3 A B hd cs pl pb x hP hD hA hB) hW (iv_C_take_6 G hx hb hown hW (va_recv hK hP (ci := 0) (q0 := 0) rfl rfl) [.long x, .ref h2] [] rfl) hml hl.1 (by rw [hb]; exact d_C_take_6) (cd_C_findPlaces G hW) ⟨Nat.le_of_ble_eq_true rfl, Nat.le_of_ble_eq_true rfl⟩ (Nat.le_of_ble_eq_true rfl) (Nat.le_of_ble_eq_true rfl) (Nat.le_of_ble_eq_true rfl) hS (Aa.mono (fun _ h => h) hS.1) (fun H locs hP _ _ hS => ?_)
  have hP : va_P D vcl [(h, .inr (0, [.int (nI A), .int (nI B), .int hd, .ref h1, .ref h2, .ref h3])), (h1, aN cI 1024 cs), (h2, aN cI 6 (fpr A x pl B)), (h3, aN cI 6 pb)] H := hP
  have hD : va_D (Aa [h, h1, h2, h3] H0.size) [(h, .inr (0, [.int (nI A), .int (nI B), .int hd, .ref h1, .ref h2, .ref h3])), (h1, aN cI 1024 cs), (h2, aN cI 6 (fpr A x pl B)), (h3, aN cI 6 pb)] := va_D.same2 [h, h1, h2, h3] hD rfl rfl
  refine lv_iconst (v := (nI 0)) hx hb d_C_take_9 (by decide) ?_
  refine lv_istore_n (lv' := [(3, .int (nI 0)), (0, .ref h), (1, .long x)]) hx hb d_C_take_10 rfl hl (by decide) rfl (fun ls hl => ?_)
  have loop_11 : ∀ (k : Nat) (i : Nat), (i + k = B) → (allN (fitS cs (fpr A x pl B) B) i = true) → ∀ (ls : Array Slot), lv_has ls 4 [(3, .int (nI i)), (0, .ref h), (1, .long x)] → W p l e { frames := 3, cells := 0, slots := 0, locals := 66 } s m ([.ref h, .long x] : List Value).toArray below meth c H locs 0 0 (MQx below (Rw (.int (bI (allN (fitS cs (fpr A x pl B) B) B))) (fun H1 => va_P D vcl [(h, .inr (0, [.int (nI A), .int (nI B), .int hd, .ref h1, .ref h2, .ref h3])), (h1, aN cI 1024 (if (allN (fitS cs (fpr A x pl B) B) B) then subC cs (fpr A x pl B) B else cs)), (h2, aN cI 6 (fpr A x pl B)), (h3, aN cI 6 pb)] H1)) s 0 0 (Aa [h, h1, h2, h3] H0.size)) (F0 m 11 ls []) := by
    intro k
    induction k with
    | zero =>
      intro i hk hf  ls hl
      refine lv_iload_n hx hb d_C_take_11 rfl (lv_at hl 0 rfl) ?_
      refine lv_aload_n hx hb d_C_take_12 rfl (lv_at hl 1 rfl) ?_
      refine va_get (D := D) (ci := 0) (v := .int (nI B)) (C := R_C) (T := T_C) (N := 6) hx hb (us_C G hW) (fun _ h => h) hown hK hP 0 rfl rfl 1 (by decide) (fl_C_31 G hW) (u_same (args := ([.ref h, .long x] : List Value).toArray) (G.1.at 178 rfl rfl _ hW)) rfl d_C_take_13 ?_
      refine lv_icmp_ge (tgt := 55) hx hb d_C_take_16 (by decide) (fun c_16 => ?_) (fun c_16 => absurd (nI_le (by omega) (by omega)) c_16)
      refine lv_aload_n hx hb d_C_take_55 rfl (lv_at hl 1 rfl) ?_
      refine lv_iconst (v := (-1)) hx hb d_C_take_56 (by decide) ?_
      rw [show i = B by omega] at hf
      refine mx_callN (c_C_countBy_m G h h1 h2 h3 A B hd cs (fpr A x pl B) pb hP hD hB (fun j hj => fpr_in hA hj) (fun j hj => of_decide_eq_true (allN_iff.mp hf j hj))) hW (iv_C_take_57 G hx hb hown hW (va_recv hK hP (ci := 0) (q0 := 0) rfl rfl) [.int (-1)] [] rfl) hml hl.1 (by rw [hb]; exact d_C_take_57) (cd_C_countBy G hW) ⟨Nat.le_of_ble_eq_true rfl, Nat.le_of_ble_eq_true rfl⟩ (Nat.le_of_ble_eq_true rfl) (Nat.le_of_ble_eq_true rfl) (Nat.le_of_ble_eq_true rfl) hS (Aa.mono (fun _ h => h) hS.1) (fun H locs hP _ _ hS => ?_)
      have hP : va_P D vcl [(h, .inr (0, [.int (nI A), .int (nI B), .int hd, .ref h1, .ref h2, .ref h3])), (h1, aN cI 1024 (subC cs (fpr A x pl B) B)), (h2, aN cI 6 (fpr A x pl B)), (h3, aN cI 6 pb)] H := hP
      have hD : va_D (Aa [h, h1, h2, h3] H0.size) [(h, .inr (0, [.int (nI A), .int (nI B), .int hd, .ref h1, .ref h2, .ref h3])), (h1, aN cI 1024 (subC cs (fpr A x pl B) B)), (h2, aN cI 6 (fpr A x pl B)), (h3, aN cI 6 pb)] := va_D.same2 [h, h1, h2, h3] hD rfl rfl
      refine lv_iconst (v := (nI 1)) hx hb d_C_take_60 (by decide) ?_
      exact mx_zret hx hb hr hlk d_C_take_61 (Nat.le_of_ble_eq_true rfl) (Nat.le_of_ble_eq_true rfl) hS.2.2 (rfl) (⟨by rw [hf]; rfl, by rw [hf]; exact hP⟩)
    | succ k ih_11 =>
      intro i hk hf  ls hl
      refine lv_iload_n hx hb d_C_take_11 rfl (lv_at hl 0 rfl) ?_
      refine lv_aload_n hx hb d_C_take_12 rfl (lv_at hl 1 rfl) ?_
      refine va_get (D := D) (ci := 0) (v := .int (nI B)) (C := R_C) (T := T_C) (N := 6) hx hb (us_C G hW) (fun _ h => h) hown hK hP 0 rfl rfl 1 (by decide) (fl_C_31 G hW) (u_same (args := ([.ref h, .long x] : List Value).toArray) (G.1.at 178 rfl rfl _ hW)) rfl d_C_take_13 ?_
      refine lv_icmp_ge (tgt := 55) hx hb d_C_take_16 (by decide) (fun c_16 => absurd c_16 (nI_ge (by omega) (by omega))) (fun c_16 => ?_)
      refine lv_aload_n hx hb d_C_take_19 rfl (lv_at hl 1 rfl) ?_
      refine va_get (D := D) (ci := 0) (v := .ref h1) (C := R_C) (T := T_C) (N := 6) hx hb (us_C G hW) (fun _ h => h) hown hK hP 0 rfl rfl 3 (by decide) (fl_C_11 G hW) (fun _ h9 => h9) rfl d_C_take_20 ?_
      refine lv_aload_n hx hb d_C_take_23 rfl (lv_at hl 1 rfl) ?_
      refine va_get (D := D) (ci := 0) (v := .ref h2) (C := R_C) (T := T_C) (N := 6) hx hb (us_C G hW) (fun _ h => h) hown hK hP 0 rfl rfl 4 (by decide) (fl_C_15 G hW) (fun _ h9 => h9) rfl d_C_take_24 ?_
      refine lv_iload_n hx hb d_C_take_27 rfl (lv_at hl 0 rfl) ?_
      refine ia_ld hx hb hK hP 2 (j := i) rfl (by omega) (by decide) d_C_take_28 ?_
      refine tp_i (y := (nI ((fpr A x pl B) i))) rfl ?_
      refine ia_ld hx hb hK hP 1 (j := ((fpr A x pl B) i)) rfl ((fpr_in hA (by omega))) (by decide) d_C_take_29 ?_
      refine tp_i (y := (nI (cs ((fpr A x pl B) i)))) rfl ?_
      refine lv_aload_n hx hb d_C_take_30 rfl (lv_at hl 1 rfl) ?_
      refine lv_aload_n hx hb d_C_take_31 rfl (lv_at hl 1 rfl) ?_
      refine va_get (D := D) (ci := 0) (v := .ref h2) (C := R_C) (T := T_C) (N := 6) hx hb (us_C G hW) (fun _ h => h) hown hK hP 0 rfl rfl 4 (by decide) (fl_C_15 G hW) (fun _ h9 => h9) rfl d_C_take_32 ?_
      refine lv_aload_n hx hb d_C_take_35 rfl (lv_at hl 1 rfl) ?_
      refine va_get (D := D) (ci := 0) (v := .ref h2) (C := R_C) (T := T_C) (N := 6) hx hb (us_C G hW) (fun _ h => h) hown hK hP 0 rfl rfl 4 (by decide) (fl_C_15 G hW) (fun _ h9 => h9) rfl d_C_take_36 ?_
      refine lv_iload_n hx hb d_C_take_39 rfl (lv_at hl 0 rfl) ?_
      refine ia_ld hx hb hK hP 2 (j := i) rfl (by omega) (by decide) d_C_take_40 ?_
      refine tp_i (y := (nI ((fpr A x pl B) i))) rfl ?_
      refine mx_callR (r := .int (nI (cnt (fpr A x pl B) ((fpr A x pl B) i) B))) (c_C_timesIn_2 G h h1 h2 h3 A B hd cs (fpr A x pl B) pb ((fpr A x pl B) i) hP hB (fun j hj => fpr_in hA hj) (fpr_in hA (by omega))) hW (iv_C_take_41 G hx hb hown hW (va_recv hK hP (ci := 0) (q0 := 0) rfl rfl) [.ref h2, .int (nI ((fpr A x pl B) i))] [.int (nI (cs ((fpr A x pl B) i)))] rfl) hml hl.1 (by rw [hb]; exact d_C_take_41) (cd_C_timesIn G hW) ⟨Nat.le_of_ble_eq_true rfl, Nat.le_of_ble_eq_true rfl⟩ rfl rfl (Nat.le_of_ble_eq_true rfl) (Nat.le_of_ble_eq_true rfl) (Nat.le_of_ble_eq_true rfl) ?_
      refine lv_icmp_ge (tgt := 49) hx hb d_C_take_44 (by decide) (fun c_44 => ?_) (fun c_44 => ?_)
      · refine lv_iinc (v := (nI (i + 1))) (lv' := [(3, .int (nI (i + 1))), (0, .ref h), (1, .long x)]) hx hb d_C_take_49 hl (k := 0) rfl (nI_1 _) (by decide) rfl (fun ls hl => ?_)
        refine lv_goto (tgt := 11) hx hb d_C_take_52 (by decide) ?_
        exact ih_11 (i + 1) (by omega) (allN_s hf (decide_eq_true ((nI_leI (by have := cnt_le (fpr A x pl B) ((fpr A x pl B) i) B; omega) (by have := hc1 ((fpr A x pl B) i) (fpr_in hA (by omega)); omega)).mp c_44))) ls (lv_sub hl [0, 1, 2] rfl)
      · refine lv_iconst (v := (nI 0)) hx hb d_C_take_47 (by decide) ?_
        exact mx_zret hx hb hr hlk d_C_take_48 (Nat.le_of_ble_eq_true rfl) (Nat.le_of_ble_eq_true rfl) hS.2.2 (rfl) (⟨by rw [allN_f (i := i) (by omega) (decide_eq_false (fun h9 => c_44 (nI_le h9 (by have := hc1 ((fpr A x pl B) i) (fpr_in hA (by omega)); omega))))]; rfl, by rw [allN_f (i := i) (by omega) (decide_eq_false (fun h9 => c_44 (nI_le h9 (by have := hc1 ((fpr A x pl B) i) (fpr_in hA (by omega)); omega))))]; exact hP⟩)
  exact loop_11 (B) (0) (by omega) (rfl) ls (lv_sub hl [0, 1, 2] rfl)

set_option maxHeartbeats 4000000 in
set_option maxRecDepth 100000 in
theorem c_C_holds {l : Launch} {s0 : State} {D : va_G} {cI cF cJ : ClassId} (G : Gx l s0 D cI cF cJ) (h h1 h2 h3 A B : Nat) (hd : Int32) (cs pl pb : Nat → Nat) (x : Int64) {H0 : Heap} {A0 : Nat → Prop} (hP : va_P D vcl [(h, .inr (0, [.int (nI A), .int (nI B), .int hd, .ref h1, .ref h2, .ref h3])), (h1, aN cI 1024 cs), (h2, aN cI 6 pl), (h3, aN cI 6 pb)] H0) (hD : va_D A0 [(h, .inr (0, [.int (nI A), .int (nI B), .int hd, .ref h1, .ref h2, .ref h3])), (h1, aN cI 1024 cs), (h2, aN cI 6 pl), (h3, aN cI 6 pb)]) (hA : A ≤ 10) (hB : B ≤ 6) (hc1 : ∀ j, j < 1024 → cs j ≤ 15) : Mx l s0 y_C_holds (.code y_C_holds b_C_holds 4 (some .boolean)) { frames := 3, cells := 0, slots := 0, locals := 66 } [.ref h, .long x] H0 (Aa [h, h1, h2, h3] H0.size) (Rw (.int (bI (allN (isC cs (fpr A x pl B)) B))) (fun H1 => va_P D vcl [(h, .inr (0, [.int (nI A), .int (nI B), .int hd, .ref h1, .ref h2, .ref h3])), (h1, aN cI 1024 cs), (h2, aN cI 6 (fpr A x pl B)), (h3, aN cI 6 pb)] H1)) := by
  refine Mx.ofW (own := "FewBits$Counters") rfl rfl ?_
  rintro p e s m below meth c ⟨hx, hb, hml, hr, hown, hW, hlk⟩ hnm het hH
  have hK := G.k hW
  have hD := hD.aa (sz := H0.size)
  have hD : va_D (Aa [h, h1, h2, h3] H0.size) [(h, .inr (0, [.int (nI A), .int (nI B), .int hd, .ref h1, .ref h2, .ref h3])), (h1, aN cI 1024 cs), (h2, aN cI 6 pl), (h3, aN cI 6 pb)] := hD
  have hS : va_S (Aa [h, h1, h2, h3] H0.size) H0 H0 [] := va_S.rf
  have hl := lv_entry ([.ref h, .long x]) (n := 4) (Nat.le_of_ble_eq_true rfl)
  rw [lg_entry_eq]
  generalize (lg_sl ([.ref h, .long x]) ++ List.replicate (4 - (lg_sl ([.ref h, .long x])).length) Slot.unset).toArray = ls at hl ⊢
  have hl : lv_has ls 4 [(0, .ref h), (1, .long x)] := hl
  refine lv_aload_n hx hb d_C_holds_0 rfl (lv_at hl 0 rfl) ?_
  refine lv_lload_n hx hb d_C_holds_1 rfl (lv_at hl 1 rfl) ?_
  refine lv_aload_n hx hb d_C_holds_2 rfl (lv_at hl 0 rfl) ?_
  refine va_get (D := D) (ci := 0) (v := .ref h2) (C := R_C) (T := T_C) (N := 6) hx hb (us_C G hW) (fun _ h => h) hown hK hP 0 rfl rfl 4 (by decide) (fl_C_15 G hW) (fun _ h9 => h9) rfl d_C_holds_3 ?_
  refine mx_callN (c_C_findPlaces_2 G h h1 h2 h3 A B hd cs pl pb x hP hD hA hB) hW (iv_C_holds_6 G hx hb hown hW (va_recv hK hP (ci := 0) (q0 := 0) rfl rfl) [.long x, .ref h2] [] rfl) hml hl.1 (by rw [hb]; exact d_C_holds_6) (cd_C_findPlaces G hW) ⟨Nat.le_of_ble_eq_true rfl, Nat.le_of_ble_eq_true rfl⟩ (Nat.le_of_ble_eq_true rfl) (Nat.le_of_ble_eq_true rfl) (Nat.le_of_ble_eq_true rfl) hS (Aa.mono (fun _ h => h) hS.1) (fun H locs hP _ _ hS => ?_)
  have hP : va_P D vcl [(h, .inr (0, [.int (nI A), .int (nI B), .int hd, .ref h1, .ref h2, .ref h3])), (h1, aN cI 1024 cs), (h2, aN cI 6 (fpr A x pl B)), (h3, aN cI 6 pb)] H := hP
  have hD : va_D (Aa [h, h1, h2, h3] H0.size) [(h, .inr (0, [.int (nI A), .int (nI B), .int hd, .ref h1, .ref h2, .ref h3])), (h1, aN cI 1024 cs), (h2, aN cI 6 (fpr A x pl B)), (h3, aN cI 6 pb)] := va_D.same2 [h, h1, h2, h3] hD rfl rfl
  refine lv_iconst (v := (nI 0)) hx hb d_C_holds_9 (by decide) ?_
  refine lv_istore_n (lv' := [(3, .int (nI 0)), (0, .ref h), (1, .long x)]) hx hb d_C_holds_10 rfl hl (by decide) rfl (fun ls hl => ?_)
  have loop_11 : ∀ (k : Nat) (i : Nat), (i + k = B) → (allN (isC cs (fpr A x pl B)) i = true) → ∀ (ls : Array Slot), lv_has ls 4 [(3, .int (nI i)), (0, .ref h), (1, .long x)] → W p l e { frames := 3, cells := 0, slots := 0, locals := 66 } s m ([.ref h, .long x] : List Value).toArray below meth c H locs 0 0 (MQx below (Rw (.int (bI (allN (isC cs (fpr A x pl B)) B))) (fun H1 => va_P D vcl [(h, .inr (0, [.int (nI A), .int (nI B), .int hd, .ref h1, .ref h2, .ref h3])), (h1, aN cI 1024 cs), (h2, aN cI 6 (fpr A x pl B)), (h3, aN cI 6 pb)] H1)) s 0 0 (Aa [h, h1, h2, h3] H0.size)) (F0 m 11 ls []) := by
    intro k
    induction k with
    | zero =>
      intro i hk hf  ls hl
      refine lv_iload_n hx hb d_C_holds_11 rfl (lv_at hl 0 rfl) ?_
      refine lv_aload_n hx hb d_C_holds_12 rfl (lv_at hl 1 rfl) ?_
      refine va_get (D := D) (ci := 0) (v := .int (nI B)) (C := R_C) (T := T_C) (N := 6) hx hb (us_C G hW) (fun _ h => h) hown hK hP 0 rfl rfl 1 (by decide) (fl_C_31 G hW) (u_same (args := ([.ref h, .long x] : List Value).toArray) (G.1.at 178 rfl rfl _ hW)) rfl d_C_holds_13 ?_
      refine lv_icmp_ge (tgt := 41) hx hb d_C_holds_16 (by decide) (fun c_16 => ?_) (fun c_16 => absurd (nI_le (by omega) (by omega)) c_16)
      refine lv_iconst (v := (nI 1)) hx hb d_C_holds_41 (by decide) ?_
      exact mx_zret hx hb hr hlk d_C_holds_42 (Nat.le_of_ble_eq_true rfl) (Nat.le_of_ble_eq_true rfl) hS.2.2 (rfl) (⟨by rw [show i = B by omega] at hf; rw [hf]; rfl, hP⟩)
    | succ k ih_11 =>
      intro i hk hf  ls hl
      refine lv_iload_n hx hb d_C_holds_11 rfl (lv_at hl 0 rfl) ?_
      refine lv_aload_n hx hb d_C_holds_12 rfl (lv_at hl 1 rfl) ?_
      refine va_get (D := D) (ci := 0) (v := .int (nI B)) (C := R_C) (T := T_C) (N := 6) hx hb (us_C G hW) (fun _ h => h) hown hK hP 0 rfl rfl 1 (by decide) (fl_C_31 G hW) (u_same (args := ([.ref h, .long x] : List Value).toArray) (G.1.at 178 rfl rfl _ hW)) rfl d_C_holds_13 ?_
      refine lv_icmp_ge (tgt := 41) hx hb d_C_holds_16 (by decide) (fun c_16 => absurd c_16 (nI_ge (by omega) (by omega))) (fun c_16 => ?_)
      refine lv_aload_n hx hb d_C_holds_19 rfl (lv_at hl 1 rfl) ?_
      refine va_get (D := D) (ci := 0) (v := .ref h1) (C := R_C) (T := T_C) (N := 6) hx hb (us_C G hW) (fun _ h => h) hown hK hP 0 rfl rfl 3 (by decide) (fl_C_11 G hW) (fun _ h9 => h9) rfl d_C_holds_20 ?_
      refine lv_aload_n hx hb d_C_holds_23 rfl (lv_at hl 1 rfl) ?_
      refine va_get (D := D) (ci := 0) (v := .ref h2) (C := R_C) (T := T_C) (N := 6) hx hb (us_C G hW) (fun _ h => h) hown hK hP 0 rfl rfl 4 (by decide) (fl_C_15 G hW) (fun _ h9 => h9) rfl d_C_holds_24 ?_
      refine lv_iload_n hx hb d_C_holds_27 rfl (lv_at hl 0 rfl) ?_
      refine ia_ld hx hb hK hP 2 (j := i) rfl (by omega) (by decide) d_C_holds_28 ?_
      refine tp_i (y := (nI ((fpr A x pl B) i))) rfl ?_
      refine ia_ld hx hb hK hP 1 (j := ((fpr A x pl B) i)) rfl ((fpr_in hA (by omega))) (by decide) d_C_holds_29 ?_
      refine tp_i (y := (nI (cs ((fpr A x pl B) i)))) rfl ?_
      refine lv_if_ne (tgt := 35) hx hb d_C_holds_30 (by decide) (fun c_30 => ?_) (fun c_30 => ?_)
      · refine lv_iinc (v := (nI (i + 1))) (lv' := [(3, .int (nI (i + 1))), (0, .ref h), (1, .long x)]) hx hb d_C_holds_35 hl (k := 0) rfl (nI_1 _) (by decide) rfl (fun ls hl => ?_)
        refine lv_goto (tgt := 11) hx hb d_C_holds_38 (by decide) ?_
        exact ih_11 (i + 1) (by omega) (allN_s hf (decide_eq_true (Nat.pos_of_ne_zero (fun h9 => c_30 (by rw [h9]; rfl))))) ls (lv_sub hl [0, 1, 2] rfl)
      · refine lv_iconst (v := (nI 0)) hx hb d_C_holds_33 (by decide) ?_
        exact mx_zret hx hb hr hlk d_C_holds_34 (Nat.le_of_ble_eq_true rfl) (Nat.le_of_ble_eq_true rfl) hS.2.2 (rfl) (⟨by rw [allN_f (i := i) (by omega) (decide_eq_false (by rw [(nI_eq (b := 0) (by have := hc1 ((fpr A x pl B) i) (fpr_in hA (by omega)); omega) (by decide)).mp c_30]; decide))]; rfl, hP⟩)
  exact loop_11 (B) (0) (by omega) (rfl) ls (lv_sub hl [0, 1, 2] rfl)

set_option maxHeartbeats 4000000 in
set_option maxRecDepth 100000 in
theorem c_C_looksAlike {l : Launch} {s0 : State} {D : va_G} {cI cF cJ : ClassId} (G : Gx l s0 D cI cF cJ) (h h1 h2 h3 A B : Nat) (hd : Int32) (cs pl pb : Nat → Nat) (x y : Int64) {H0 : Heap} {A0 : Nat → Prop} (hP : va_P D vcl [(h, .inr (0, [.int (nI A), .int (nI B), .int hd, .ref h1, .ref h2, .ref h3])), (h1, aN cI 1024 cs), (h2, aN cI 6 pl), (h3, aN cI 6 pb)] H0) (hD : va_D A0 [(h, .inr (0, [.int (nI A), .int (nI B), .int hd, .ref h1, .ref h2, .ref h3])), (h1, aN cI 1024 cs), (h2, aN cI 6 pl), (h3, aN cI 6 pb)]) (hA : A ≤ 10) (hB : B ≤ 6) : Mx l s0 y_C_looksAlike (.code y_C_looksAlike b_C_looksAlike 6 (some .boolean)) { frames := 3, cells := 0, slots := 0, locals := 66 } [.ref h, .long x, .long y] H0 (Aa [h, h1, h2, h3] H0.size) (Rw (.int (bI (allN (sameC (fpr A x pl B) (fpr A y pb B) B) B))) (fun H1 => va_P D vcl [(h, .inr (0, [.int (nI A), .int (nI B), .int hd, .ref h1, .ref h2, .ref h3])), (h1, aN cI 1024 cs), (h2, aN cI 6 (fpr A x pl B)), (h3, aN cI 6 (fpr A y pb B))] H1)) := by
  refine Mx.ofW (own := "FewBits$Counters") rfl rfl ?_
  rintro p e s m below meth c ⟨hx, hb, hml, hr, hown, hW, hlk⟩ hnm het hH
  have hK := G.k hW
  have hD := hD.aa (sz := H0.size)
  have hD : va_D (Aa [h, h1, h2, h3] H0.size) [(h, .inr (0, [.int (nI A), .int (nI B), .int hd, .ref h1, .ref h2, .ref h3])), (h1, aN cI 1024 cs), (h2, aN cI 6 pl), (h3, aN cI 6 pb)] := hD
  have hS : va_S (Aa [h, h1, h2, h3] H0.size) H0 H0 [] := va_S.rf
  have hl := lv_entry ([.ref h, .long x, .long y]) (n := 6) (Nat.le_of_ble_eq_true rfl)
  rw [lg_entry_eq]
  generalize (lg_sl ([.ref h, .long x, .long y]) ++ List.replicate (6 - (lg_sl ([.ref h, .long x, .long y])).length) Slot.unset).toArray = ls at hl ⊢
  have hl : lv_has ls 6 [(0, .ref h), (1, .long x), (3, .long y)] := hl
  refine lv_aload_n hx hb d_C_looksAlike_0 rfl (lv_at hl 0 rfl) ?_
  refine lv_lload_n hx hb d_C_looksAlike_1 rfl (lv_at hl 1 rfl) ?_
  refine lv_aload_n hx hb d_C_looksAlike_2 rfl (lv_at hl 0 rfl) ?_
  refine va_get (D := D) (ci := 0) (v := .ref h2) (C := R_C) (T := T_C) (N := 6) hx hb (us_C G hW) (fun _ h => h) hown hK hP 0 rfl rfl 4 (by decide) (fl_C_15 G hW) (fun _ h9 => h9) rfl d_C_looksAlike_3 ?_
  refine mx_callN (c_C_findPlaces_2 G h h1 h2 h3 A B hd cs pl pb x hP hD hA hB) hW (iv_C_looksAlike_6 G hx hb hown hW (va_recv hK hP (ci := 0) (q0 := 0) rfl rfl) [.long x, .ref h2] [] rfl) hml hl.1 (by rw [hb]; exact d_C_looksAlike_6) (cd_C_findPlaces G hW) ⟨Nat.le_of_ble_eq_true rfl, Nat.le_of_ble_eq_true rfl⟩ (Nat.le_of_ble_eq_true rfl) (Nat.le_of_ble_eq_true rfl) (Nat.le_of_ble_eq_true rfl) hS (Aa.mono (fun _ h => h) hS.1) (fun H locs hP _ _ hS => ?_)
  have hP : va_P D vcl [(h, .inr (0, [.int (nI A), .int (nI B), .int hd, .ref h1, .ref h2, .ref h3])), (h1, aN cI 1024 cs), (h2, aN cI 6 (fpr A x pl B)), (h3, aN cI 6 pb)] H := hP
  have hD : va_D (Aa [h, h1, h2, h3] H0.size) [(h, .inr (0, [.int (nI A), .int (nI B), .int hd, .ref h1, .ref h2, .ref h3])), (h1, aN cI 1024 cs), (h2, aN cI 6 (fpr A x pl B)), (h3, aN cI 6 pb)] := va_D.same2 [h, h1, h2, h3] hD rfl rfl
  refine lv_aload_n hx hb d_C_looksAlike_9 rfl (lv_at hl 0 rfl) ?_
  refine lv_lload_n hx hb d_C_looksAlike_10 rfl (lv_at hl 2 rfl) ?_
  refine lv_aload_n hx hb d_C_looksAlike_11 rfl (lv_at hl 0 rfl) ?_
  refine va_get (D := D) (ci := 0) (v := .ref h3) (C := R_C) (T := T_C) (N := 6) hx hb (us_C G hW) (fun _ h => h) hown hK hP 0 rfl rfl 5 (by decide) (fl_C_18 G hW) (fun _ h9 => h9) rfl d_C_looksAlike_12 ?_
  refine mx_callN (c_C_findPlaces_3 G h h1 h2 h3 A B hd cs (fpr A x pl B) pb y hP hD hA hB) hW (iv_C_looksAlike_15 G hx hb hown hW (va_recv hK hP (ci := 0) (q0 := 0) rfl rfl) [.long y, .ref h3] [] rfl) hml hl.1 (by rw [hb]; exact d_C_looksAlike_15) (cd_C_findPlaces G hW) ⟨Nat.le_of_ble_eq_true rfl, Nat.le_of_ble_eq_true rfl⟩ (Nat.le_of_ble_eq_true rfl) (Nat.le_of_ble_eq_true rfl) (Nat.le_of_ble_eq_true rfl) hS (Aa.mono (fun _ h => h) hS.1) (fun H locs hP _ _ hS => ?_)
  have hP : va_P D vcl [(h, .inr (0, [.int (nI A), .int (nI B), .int hd, .ref h1, .ref h2, .ref h3])), (h1, aN cI 1024 cs), (h2, aN cI 6 (fpr A x pl B)), (h3, aN cI 6 (fpr A y pb B))] H := hP
  have hD : va_D (Aa [h, h1, h2, h3] H0.size) [(h, .inr (0, [.int (nI A), .int (nI B), .int hd, .ref h1, .ref h2, .ref h3])), (h1, aN cI 1024 cs), (h2, aN cI 6 (fpr A x pl B)), (h3, aN cI 6 (fpr A y pb B))] := va_D.same2 [h, h1, h2, h3] hD rfl rfl
  refine lv_iconst (v := (nI 0)) hx hb d_C_looksAlike_18 (by decide) ?_
  refine lv_istore (lv' := [(5, .int (nI 0)), (0, .ref h), (1, .long x), (3, .long y)]) hx hb d_C_looksAlike_19 hl (by decide) rfl (fun ls hl => ?_)
  have loop_21 : ∀ (k : Nat) (i : Nat), (i + k = B) → (allN (sameC (fpr A x pl B) (fpr A y pb B) B) i = true) → ∀ (ls : Array Slot), lv_has ls 6 [(5, .int (nI i)), (0, .ref h), (1, .long x), (3, .long y)] → W p l e { frames := 3, cells := 0, slots := 0, locals := 66 } s m ([.ref h, .long x, .long y] : List Value).toArray below meth c H locs 0 0 (MQx below (Rw (.int (bI (allN (sameC (fpr A x pl B) (fpr A y pb B) B) B))) (fun H1 => va_P D vcl [(h, .inr (0, [.int (nI A), .int (nI B), .int hd, .ref h1, .ref h2, .ref h3])), (h1, aN cI 1024 cs), (h2, aN cI 6 (fpr A x pl B)), (h3, aN cI 6 (fpr A y pb B))] H1)) s 0 0 (Aa [h, h1, h2, h3] H0.size)) (F0 m 21 ls []) := by
    intro k
    induction k with
    | zero =>
      intro i hk hf  ls hl
      refine lv_iload hx hb d_C_looksAlike_21 (lv_at hl 0 rfl) ?_
      refine lv_aload_n hx hb d_C_looksAlike_23 rfl (lv_at hl 1 rfl) ?_
      refine va_get (D := D) (ci := 0) (v := .int (nI B)) (C := R_C) (T := T_C) (N := 6) hx hb (us_C G hW) (fun _ h => h) hown hK hP 0 rfl rfl 1 (by decide) (fl_C_31 G hW) (u_same (args := ([.ref h, .long x, .long y] : List Value).toArray) (G.1.at 178 rfl rfl _ hW)) rfl d_C_looksAlike_24 ?_
      refine lv_icmp_ge (tgt := 71) hx hb d_C_looksAlike_27 (by decide) (fun c_27 => ?_) (fun c_27 => absurd (nI_le (by omega) (by omega)) c_27)
      refine lv_iconst (v := (nI 1)) hx hb d_C_looksAlike_71 (by decide) ?_
      exact mx_zret hx hb hr hlk d_C_looksAlike_72 (Nat.le_of_ble_eq_true rfl) (Nat.le_of_ble_eq_true rfl) hS.2.2 (rfl) (⟨by rw [show i = B by omega] at hf; rw [hf]; rfl, hP⟩)
    | succ k ih_21 =>
      intro i hk hf  ls hl
      refine lv_iload hx hb d_C_looksAlike_21 (lv_at hl 0 rfl) ?_
      refine lv_aload_n hx hb d_C_looksAlike_23 rfl (lv_at hl 1 rfl) ?_
      refine va_get (D := D) (ci := 0) (v := .int (nI B)) (C := R_C) (T := T_C) (N := 6) hx hb (us_C G hW) (fun _ h => h) hown hK hP 0 rfl rfl 1 (by decide) (fl_C_31 G hW) (u_same (args := ([.ref h, .long x, .long y] : List Value).toArray) (G.1.at 178 rfl rfl _ hW)) rfl d_C_looksAlike_24 ?_
      refine lv_icmp_ge (tgt := 71) hx hb d_C_looksAlike_27 (by decide) (fun c_27 => absurd c_27 (nI_ge (by omega) (by omega))) (fun c_27 => ?_)
      refine lv_aload_n hx hb d_C_looksAlike_30 rfl (lv_at hl 1 rfl) ?_
      refine lv_aload_n hx hb d_C_looksAlike_31 rfl (lv_at hl 1 rfl) ?_
      refine va_get (D := D) (ci := 0) (v := .ref h2) (C := R_C) (T := T_C) (N := 6) hx hb (us_C G hW) (fun _ h => h) hown hK hP 0 rfl rfl 4 (by decide) (fl_C_15 G hW) (fun _ h9 => h9) rfl d_C_looksAlike_32 ?_
      refine lv_aload_n hx hb d_C_looksAlike_35 rfl (lv_at hl 1 rfl) ?_
      refine va_get (D := D) (ci := 0) (v := .ref h2) (C := R_C) (T := T_C) (N := 6) hx hb (us_C G hW) (fun _ h => h) hown hK hP 0 rfl rfl 4 (by decide) (fl_C_15 G hW) (fun _ h9 => h9) rfl d_C_looksAlike_36 ?_
      refine lv_iload hx hb d_C_looksAlike_39 (lv_at hl 0 rfl) ?_
      refine ia_ld hx hb hK hP 2 (j := i) rfl (by omega) (by decide) d_C_looksAlike_41 ?_
      refine tp_i (y := (nI ((fpr A x pl B) i))) rfl ?_
      refine mx_callR (r := .int (nI (cnt (fpr A x pl B) ((fpr A x pl B) i) B))) (c_C_timesIn_2 G h h1 h2 h3 A B hd cs (fpr A x pl B) (fpr A y pb B) ((fpr A x pl B) i) hP hB (fun j hj => fpr_in hA hj) (fpr_in hA (by omega))) hW (iv_C_looksAlike_42 G hx hb hown hW (va_recv hK hP (ci := 0) (q0 := 0) rfl rfl) [.ref h2, .int (nI ((fpr A x pl B) i))] [] rfl) hml hl.1 (by rw [hb]; exact d_C_looksAlike_42) (cd_C_timesIn G hW) ⟨Nat.le_of_ble_eq_true rfl, Nat.le_of_ble_eq_true rfl⟩ rfl rfl (Nat.le_of_ble_eq_true rfl) (Nat.le_of_ble_eq_true rfl) (Nat.le_of_ble_eq_true rfl) ?_
      refine lv_aload_n hx hb d_C_looksAlike_45 rfl (lv_at hl 1 rfl) ?_
      refine lv_aload_n hx hb d_C_looksAlike_46 rfl (lv_at hl 1 rfl) ?_
      refine va_get (D := D) (ci := 0) (v := .ref h3) (C := R_C) (T := T_C) (N := 6) hx hb (us_C G hW) (fun _ h => h) hown hK hP 0 rfl rfl 5 (by decide) (fl_C_18 G hW) (fun _ h9 => h9) rfl d_C_looksAlike_47 ?_
      refine lv_aload_n hx hb d_C_looksAlike_50 rfl (lv_at hl 1 rfl) ?_
      refine va_get (D := D) (ci := 0) (v := .ref h2) (C := R_C) (T := T_C) (N := 6) hx hb (us_C G hW) (fun _ h => h) hown hK hP 0 rfl rfl 4 (by decide) (fl_C_15 G hW) (fun _ h9 => h9) rfl d_C_looksAlike_51 ?_
      refine lv_iload hx hb d_C_looksAlike_54 (lv_at hl 0 rfl) ?_
      refine ia_ld hx hb hK hP 2 (j := i) rfl (by omega) (by decide) d_C_looksAlike_56 ?_
      refine tp_i (y := (nI ((fpr A x pl B) i))) rfl ?_
      refine mx_callR (r := .int (nI (cnt (fpr A y pb B) ((fpr A x pl B) i) B))) (c_C_timesIn_3 G h h1 h2 h3 A B hd cs (fpr A x pl B) (fpr A y pb B) ((fpr A x pl B) i) hP hB (fun j hj => fpr_in hA hj) (fpr_in hA (by omega))) hW (iv_C_looksAlike_57 G hx hb hown hW (va_recv hK hP (ci := 0) (q0 := 0) rfl rfl) [.ref h3, .int (nI ((fpr A x pl B) i))] [.int (nI (cnt (fpr A x pl B) ((fpr A x pl B) i) B))] rfl) hml hl.1 (by rw [hb]; exact d_C_looksAlike_57) (cd_C_timesIn G hW) ⟨Nat.le_of_ble_eq_true rfl, Nat.le_of_ble_eq_true rfl⟩ rfl rfl (Nat.le_of_ble_eq_true rfl) (Nat.le_of_ble_eq_true rfl) (Nat.le_of_ble_eq_true rfl) ?_
      refine lv_icmp_eq (tgt := 65) hx hb d_C_looksAlike_60 (by decide) (fun c_60 => ?_) (fun c_60 => ?_)
      · refine lv_iinc (v := (nI (i + 1))) (lv' := [(5, .int (nI (i + 1))), (0, .ref h), (1, .long x), (3, .long y)]) hx hb d_C_looksAlike_65 hl (k := 0) rfl (nI_1 _) (by decide) rfl (fun ls hl => ?_)
        refine lv_goto (tgt := 21) hx hb d_C_looksAlike_68 (by decide) ?_
        exact ih_21 (i + 1) (by omega) (allN_s hf (decide_eq_true ((nI_eq (by have := cnt_le (fpr A x pl B) ((fpr A x pl B) i) B; omega) (by have := cnt_le (fpr A y pb B) ((fpr A x pl B) i) B; omega)).mp c_60))) ls (lv_sub hl [0, 1, 2, 3] rfl)
      · refine lv_iconst (v := (nI 0)) hx hb d_C_looksAlike_63 (by decide) ?_
        exact mx_zret hx hb hr hlk d_C_looksAlike_64 (Nat.le_of_ble_eq_true rfl) (Nat.le_of_ble_eq_true rfl) hS.2.2 (rfl) (⟨by rw [allN_f (i := i) (by omega) (decide_eq_false (fun h9 => c_60 (by rw [h9])))]; rfl, hP⟩)
  exact loop_21 (B) (0) (by omega) (rfl) ls (lv_sub hl [0, 1, 2, 3] rfl)

set_option maxHeartbeats 4000000 in
set_option maxRecDepth 100000 in
theorem c_C_filledCells {l : Launch} {s0 : State} {D : va_G} {cI cF cJ : ClassId} (G : Gx l s0 D cI cF cJ) (h h1 h2 h3 A B : Nat) (hd : Int32) (cs pl pb : Nat → Nat) {H0 : Heap} (hP : va_P D vcl [(h, .inr (0, [.int (nI A), .int (nI B), .int hd, .ref h1, .ref h2, .ref h3])), (h1, aN cI 1024 cs), (h2, aN cI 6 pl), (h3, aN cI 6 pb)] H0) (hA : A ≤ 10) (hc1 : ∀ j, j < 1024 → cs j ≤ 15) : Mx l s0 y_C_filledCells (.code y_C_filledCells b_C_filledCells 3 (some .int)) { frames := 1, cells := 0, slots := 0, locals := 20 } [.ref h] H0 (fun _ => False) (Rd H0 (.int (nI (posN cs (2 ^ A))))) := by
  refine Mx.ofW (own := "FewBits$Counters") rfl rfl ?_
  rintro p e s m below meth c ⟨hx, hb, hml, hr, hown, hW, hlk⟩ hnm het hH
  have hK := G.k hW
  have h10 := p2_le hA
  have hl := lv_entry ([.ref h]) (n := 3) (Nat.le_of_ble_eq_true rfl)
  rw [lg_entry_eq]
  generalize (lg_sl ([.ref h]) ++ List.replicate (3 - (lg_sl ([.ref h])).length) Slot.unset).toArray = ls at hl ⊢
  have hl : lv_has ls 3 [(0, .ref h)] := hl
  refine lv_iconst (v := (nI 0)) hx hb d_C_filledCells_0 (by decide) ?_
  refine lv_istore_n (lv' := [(1, .int (nI 0)), (0, .ref h)]) hx hb d_C_filledCells_1 rfl hl (by decide) rfl (fun ls hl => ?_)
  refine lv_iconst (v := (nI 0)) hx hb d_C_filledCells_2 (by decide) ?_
  refine lv_istore_n (lv' := [(2, .int (nI 0)), (1, .int (nI 0)), (0, .ref h)]) hx hb d_C_filledCells_3 rfl hl (by decide) rfl (fun ls hl => ?_)
  have loop_4 : ∀ (k : Nat) (i : Nat) (t : Nat), (i + k = 2 ^ A) → (t = posN cs i) → ∀ (ls : Array Slot), lv_has ls 3 [(2, .int (nI i)), (1, .int (nI t)), (0, .ref h)] → W p l e { frames := 1, cells := 0, slots := 0, locals := 20 } s m ([.ref h] : List Value).toArray below meth c H0 [] 0 0 (MQx below (Rd H0 (.int (nI (posN cs (2 ^ A))))) s 0 0 (fun _ => False)) (F0 m 4 ls []) := by
    intro k
    induction k with
    | zero =>
      intro i t hk ht  ls hl
      refine lv_iload_n hx hb d_C_filledCells_4 rfl (lv_at hl 0 rfl) ?_
      refine lv_aload_n hx hb d_C_filledCells_5 rfl (lv_at hl 2 rfl) ?_
      refine mx_callR (r := .int (nI (2 ^ A))) (c_P_power_C G h h1 h2 h3 A B hd cs pl pb hP hA) hW (iv_C_filledCells_6 G hx hb hown hW (va_recv hK hP (ci := 0) (q0 := 0) rfl rfl) [] [.int (nI i)] rfl) hml hl.1 (by rw [hb]; exact d_C_filledCells_6) (cd_P_power G hW) ⟨Nat.le_of_ble_eq_true rfl, Nat.le_of_ble_eq_true rfl⟩ rfl rfl (Nat.le_of_ble_eq_true rfl) (Nat.le_of_ble_eq_true rfl) (Nat.le_of_ble_eq_true rfl) ?_
      refine lv_icmp_ge (tgt := 30) hx hb d_C_filledCells_9 (by decide) (fun c_9 => ?_) (fun c_9 => absurd (nI_le (by omega) (by omega)) c_9)
      refine lv_iload_n hx hb d_C_filledCells_30 rfl (lv_at hl 1 rfl) ?_
      exact mx_iret hx hb hr hlk d_C_filledCells_31 (Nat.le_of_ble_eq_true rfl) (Nat.le_of_ble_eq_true rfl) (fun _ h => nomatch h) (⟨by rw [ht, show i = 2 ^ A by omega], rfl⟩)
    | succ k ih_4 =>
      intro i t hk ht  ls hl
      refine lv_iload_n hx hb d_C_filledCells_4 rfl (lv_at hl 0 rfl) ?_
      refine lv_aload_n hx hb d_C_filledCells_5 rfl (lv_at hl 2 rfl) ?_
      refine mx_callR (r := .int (nI (2 ^ A))) (c_P_power_C G h h1 h2 h3 A B hd cs pl pb hP hA) hW (iv_C_filledCells_6 G hx hb hown hW (va_recv hK hP (ci := 0) (q0 := 0) rfl rfl) [] [.int (nI i)] rfl) hml hl.1 (by rw [hb]; exact d_C_filledCells_6) (cd_P_power G hW) ⟨Nat.le_of_ble_eq_true rfl, Nat.le_of_ble_eq_true rfl⟩ rfl rfl (Nat.le_of_ble_eq_true rfl) (Nat.le_of_ble_eq_true rfl) (Nat.le_of_ble_eq_true rfl) ?_
      refine lv_icmp_ge (tgt := 30) hx hb d_C_filledCells_9 (by decide) (fun c_9 => absurd c_9 (nI_ge (by omega) (by omega))) (fun c_9 => ?_)
      refine lv_aload_n hx hb d_C_filledCells_12 rfl (lv_at hl 2 rfl) ?_
      refine va_get (D := D) (ci := 0) (v := .ref h1) (C := R_C) (T := T_C) (N := 6) hx hb (us_C G hW) (fun _ h => h) hown hK hP 0 rfl rfl 3 (by decide) (fl_C_11 G hW) (fun _ h9 => h9) rfl d_C_filledCells_13 ?_
      refine lv_iload_n hx hb d_C_filledCells_16 rfl (lv_at hl 0 rfl) ?_
      refine ia_ld hx hb hK hP 1 (j := i) rfl (by omega) (by decide) d_C_filledCells_17 ?_
      refine tp_i (y := (nI (cs i))) rfl ?_
      refine lv_if_le (tgt := 24) hx hb d_C_filledCells_18 (by decide) (fun c_18 => ?_) (fun c_18 => ?_)
      · refine lv_iinc (v := (nI (i + 1))) (lv' := [(2, .int (nI (i + 1))), (1, .int (nI t)), (0, .ref h)]) hx hb d_C_filledCells_24 hl (k := 0) rfl (nI_1 _) (by decide) rfl (fun ls hl => ?_)
        refine lv_goto (tgt := 4) hx hb d_C_filledCells_27 (by decide) ?_
        exact ih_4 (i + 1) (t) (by omega) (by rw [ht, posN_f (fun h9 => nI_nle h9 (by have := hc1 i (by omega); omega) c_18)]) ls (lv_sub hl [0, 1, 2] rfl)
      · refine lv_iinc (v := (nI (t + 1))) (lv' := [(1, .int (nI (t + 1))), (2, .int (nI i)), (0, .ref h)]) hx hb d_C_filledCells_21 hl (k := 1) rfl (nI_1 _) (by decide) rfl (fun ls hl => ?_)
        refine lv_iinc (v := (nI (i + 1))) (lv' := [(2, .int (nI (i + 1))), (1, .int (nI (t + 1))), (0, .ref h)]) hx hb d_C_filledCells_24 hl (k := 1) rfl (nI_1 _) (by decide) rfl (fun ls hl => ?_)
        refine lv_goto (tgt := 4) hx hb d_C_filledCells_27 (by decide) ?_
        exact ih_4 (i + 1) (t + 1) (by omega) (by rw [ht, posN_t (Nat.pos_of_ne_zero (fun h9 => c_18 (by rw [h9]; decide)))]) ls (lv_sub hl [0, 1, 2] rfl)
  exact loop_4 (2 ^ A) (0) (0) (by omega) (rfl) ls (lv_sub hl [0, 1, 2] rfl)

set_option maxHeartbeats 4000000 in
set_option maxRecDepth 100000 in
theorem c_C_strain {l : Launch} {s0 : State} {D : va_G} {cI cF cJ : ClassId} (G : Gx l s0 D cI cF cJ) (h h1 h2 h3 A B : Nat) (hd : Int32) (cs pl pb : Nat → Nat) {H0 : Heap} (hP : va_P D vcl [(h, .inr (0, [.int (nI A), .int (nI B), .int hd, .ref h1, .ref h2, .ref h3])), (h1, aN cI 1024 cs), (h2, aN cI 6 pl), (h3, aN cI 6 pb)] H0) (hA : A ≤ 10) (hc1 : ∀ j, j < 1024 → cs j ≤ 15) : Mx l s0 y_C_strain (.code y_C_strain b_C_strain 3 (some .int)) { frames := 1, cells := 0, slots := 0, locals := 20 } [.ref h] H0 (fun _ => False) (Rd H0 (.int (nI (maxN cs (2 ^ A))))) := by
  refine Mx.ofW (own := "FewBits$Counters") rfl rfl ?_
  rintro p e s m below meth c ⟨hx, hb, hml, hr, hown, hW, hlk⟩ hnm het hH
  have hK := G.k hW
  have h10 := p2_le hA
  have hl := lv_entry ([.ref h]) (n := 3) (Nat.le_of_ble_eq_true rfl)
  rw [lg_entry_eq]
  generalize (lg_sl ([.ref h]) ++ List.replicate (3 - (lg_sl ([.ref h])).length) Slot.unset).toArray = ls at hl ⊢
  have hl : lv_has ls 3 [(0, .ref h)] := hl
  refine lv_iconst (v := (nI 0)) hx hb d_C_strain_0 (by decide) ?_
  refine lv_istore_n (lv' := [(1, .int (nI 0)), (0, .ref h)]) hx hb d_C_strain_1 rfl hl (by decide) rfl (fun ls hl => ?_)
  refine lv_iconst (v := (nI 0)) hx hb d_C_strain_2 (by decide) ?_
  refine lv_istore_n (lv' := [(2, .int (nI 0)), (1, .int (nI 0)), (0, .ref h)]) hx hb d_C_strain_3 rfl hl (by decide) rfl (fun ls hl => ?_)
  have loop_4 : ∀ (k : Nat) (i : Nat) (t : Nat), (i + k = 2 ^ A) → (t = maxN cs i) → ∀ (ls : Array Slot), lv_has ls 3 [(2, .int (nI i)), (1, .int (nI t)), (0, .ref h)] → W p l e { frames := 1, cells := 0, slots := 0, locals := 20 } s m ([.ref h] : List Value).toArray below meth c H0 [] 0 0 (MQx below (Rd H0 (.int (nI (maxN cs (2 ^ A))))) s 0 0 (fun _ => False)) (F0 m 4 ls []) := by
    intro k
    induction k with
    | zero =>
      intro i t hk ht  ls hl
      refine lv_iload_n hx hb d_C_strain_4 rfl (lv_at hl 0 rfl) ?_
      refine lv_aload_n hx hb d_C_strain_5 rfl (lv_at hl 2 rfl) ?_
      refine mx_callR (r := .int (nI (2 ^ A))) (c_P_power_C G h h1 h2 h3 A B hd cs pl pb hP hA) hW (iv_C_strain_6 G hx hb hown hW (va_recv hK hP (ci := 0) (q0 := 0) rfl rfl) [] [.int (nI i)] rfl) hml hl.1 (by rw [hb]; exact d_C_strain_6) (cd_P_power G hW) ⟨Nat.le_of_ble_eq_true rfl, Nat.le_of_ble_eq_true rfl⟩ rfl rfl (Nat.le_of_ble_eq_true rfl) (Nat.le_of_ble_eq_true rfl) (Nat.le_of_ble_eq_true rfl) ?_
      refine lv_icmp_ge (tgt := 29) hx hb d_C_strain_9 (by decide) (fun c_9 => ?_) (fun c_9 => absurd (nI_le (by omega) (by omega)) c_9)
      refine lv_iload_n hx hb d_C_strain_29 rfl (lv_at hl 1 rfl) ?_
      exact mx_iret hx hb hr hlk d_C_strain_30 (Nat.le_of_ble_eq_true rfl) (Nat.le_of_ble_eq_true rfl) (fun _ h => nomatch h) (⟨by rw [ht, show i = 2 ^ A by omega], rfl⟩)
    | succ k ih_4 =>
      intro i t hk ht  ls hl
      refine lv_iload_n hx hb d_C_strain_4 rfl (lv_at hl 0 rfl) ?_
      refine lv_aload_n hx hb d_C_strain_5 rfl (lv_at hl 2 rfl) ?_
      refine mx_callR (r := .int (nI (2 ^ A))) (c_P_power_C G h h1 h2 h3 A B hd cs pl pb hP hA) hW (iv_C_strain_6 G hx hb hown hW (va_recv hK hP (ci := 0) (q0 := 0) rfl rfl) [] [.int (nI i)] rfl) hml hl.1 (by rw [hb]; exact d_C_strain_6) (cd_P_power G hW) ⟨Nat.le_of_ble_eq_true rfl, Nat.le_of_ble_eq_true rfl⟩ rfl rfl (Nat.le_of_ble_eq_true rfl) (Nat.le_of_ble_eq_true rfl) (Nat.le_of_ble_eq_true rfl) ?_
      refine lv_icmp_ge (tgt := 29) hx hb d_C_strain_9 (by decide) (fun c_9 => absurd c_9 (nI_ge (by omega) (by omega))) (fun c_9 => ?_)
      refine lv_iload_n hx hb d_C_strain_12 rfl (lv_at hl 1 rfl) ?_
      refine lv_aload_n hx hb d_C_strain_13 rfl (lv_at hl 2 rfl) ?_
      refine va_get (D := D) (ci := 0) (v := .ref h1) (C := R_C) (T := T_C) (N := 6) hx hb (us_C G hW) (fun _ h => h) hown hK hP 0 rfl rfl 3 (by decide) (fl_C_11 G hW) (fun _ h9 => h9) rfl d_C_strain_14 ?_
      refine lv_iload_n hx hb d_C_strain_17 rfl (lv_at hl 0 rfl) ?_
      refine ia_ld hx hb hK hP 1 (j := i) rfl (by omega) (by decide) d_C_strain_18 ?_
      refine tp_i (y := (nI (cs i))) rfl ?_
      refine va_mmax hx hb (hml.trans hl.1.symm) hown (G.1.at 547 rfl rfl _ hW) (G.1.at 548 rfl rfl _ hW) (G.1.at 17 rfl rfl _ hW) (G.1.at 549 rfl rfl _ hW) (Nat.le_of_ble_eq_true rfl) (Nat.le_of_ble_eq_true rfl) (Nat.le_of_ble_eq_true rfl) (Nat.le_of_ble_eq_true rfl) d_C_strain_19 ?_
      refine tp_i (y := (nI (maxN cs (i + 1)))) (by subst ht; exact if_nI (by have := maxN_lt (c := cs) (M := 16) (by decide) (n := i) (fun j hj => by have := hc1 j (by omega); omega); omega) (by have := hc1 i (by omega); omega)) ?_
      refine lv_istore_n (lv' := [(1, .int (nI (maxN cs (i + 1)))), (2, .int (nI i)), (0, .ref h)]) hx hb d_C_strain_22 rfl hl (by decide) rfl (fun ls hl => ?_)
      refine lv_iinc (v := (nI (i + 1))) (lv' := [(2, .int (nI (i + 1))), (1, .int (nI (maxN cs (i + 1)))), (0, .ref h)]) hx hb d_C_strain_23 hl (k := 1) rfl (nI_1 _) (by decide) rfl (fun ls hl => ?_)
      refine lv_goto (tgt := 4) hx hb d_C_strain_26 (by decide) ?_
      exact ih_4 (i + 1) (maxN cs (i + 1)) (by omega) (rfl) ls (lv_sub hl [0, 1, 2] rfl)
  exact loop_4 (2 ^ A) (0) (0) (by omega) (rfl) ls (lv_sub hl [0, 1, 2] rfl)

set_option maxHeartbeats 4000000 in
set_option maxRecDepth 100000 in
theorem c_C_look {l : Launch} {s0 : State} {D : va_G} {cI cF cJ : ClassId} (G : Gx l s0 D cI cF cJ) (h h1 h2 h3 A B : Nat) (hd : Int32) (cs pl pb : Nat → Nat) (j : Nat) {H0 : Heap} (hP : va_P D vcl [(h, .inr (0, [.int (nI A), .int (nI B), .int hd, .ref h1, .ref h2, .ref h3])), (h1, aN cI 1024 cs), (h2, aN cI 6 pl), (h3, aN cI 6 pb)] H0) (hj : j < 1024) : Mx l s0 y_C_look (.code y_C_look b_C_look 2 (some .int)) { frames := 0, cells := 0, slots := 0, locals := 0 } [.ref h, .int (nI j)] H0 (fun _ => False) (Rd H0 (.int (nI (cs j)))) := by
  refine Mx.ofW (own := "FewBits$Counters") rfl rfl ?_
  rintro p e s m below meth c ⟨hx, hb, hml, hr, hown, hW, hlk⟩ hnm het hH
  have hK := G.k hW
  have hl := lv_entry ([.ref h, .int (nI j)]) (n := 2) (Nat.le_of_ble_eq_true rfl)
  rw [lg_entry_eq]
  generalize (lg_sl ([.ref h, .int (nI j)]) ++ List.replicate (2 - (lg_sl ([.ref h, .int (nI j)])).length) Slot.unset).toArray = ls at hl ⊢
  have hl : lv_has ls 2 [(0, .ref h), (1, .int (nI j))] := hl
  refine lv_aload_n hx hb d_C_look_0 rfl (lv_at hl 0 rfl) ?_
  refine va_get (D := D) (ci := 0) (v := .ref h1) (C := R_C) (T := T_C) (N := 6) hx hb (us_C G hW) (fun _ h => h) hown hK hP 0 rfl rfl 3 (by decide) (fl_C_11 G hW) (fun _ h9 => h9) rfl d_C_look_1 ?_
  refine lv_iload_n hx hb d_C_look_4 rfl (lv_at hl 1 rfl) ?_
  refine ia_ld hx hb hK hP 1 (j := j) rfl (hj) (by decide) d_C_look_5 ?_
  refine tp_i (y := (nI (cs j))) rfl ?_
  exact mx_iret hx hb hr hlk d_C_look_6 (Nat.le_of_ble_eq_true rfl) (Nat.le_of_ble_eq_true rfl) (fun _ h => nomatch h) (⟨rfl, rfl⟩)
