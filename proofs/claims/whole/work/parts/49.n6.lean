set_option maxHeartbeats 4000000 in
set_option maxRecDepth 100000 in
theorem c_M_merge_no1 {l : Launch} {s0 : State} {D : va_G} {cI cF cJ : ClassId} (G : Gx l s0 D cI cF cJ) (hm a1 a2 a3 a4 a5 a6 a7 a8 a9 a10 a11 : Nat) (th : Int32) (S : Nat → FS) (v v2 : Int32) {H0 : Heap} {A0 : Nat → Prop} (hM : MP D cI hm a1 a2 a3 a4 a5 a6 a7 a8 a9 a10 a11 th S H0) (hD : va_D A0 (adM hm a1 a2 a3 a4 a5 a6 a7 a8 a9 a10 a11)) (hok : ∀ i, i < 4 → okS (S i)) (hv : isNum v = false) : Mx l s0 y_M_merge (.code y_M_merge b_M_merge 9 (some .int)) { frames := 7, cells := 0, slots := 0, locals := 170 } [.ref hm, .int v, .int v2] H0 (Aa [hm, a1, a2, a3, a4, a5, a6, a7, a8, a9, a10, a11] H0.size) (Rw (.int (nI 0)) (fun H1 => MP D cI hm a1 a2 a3 a4 a5 a6 a7 a8 a9 a10 a11 (nI 1) S H1)) := by
  refine Mx.ofW (own := "FewBitsModel") rfl rfl ?_
  rintro p e s m below meth c ⟨hx, hb, hml, hr, hown, hW, hlk⟩ hnm het hH
  have hK := G.k hW
  have hD0 := hD
  obtain ⟨ki, ka, kb, zs, pu, ce, pa, tr, so, pl, ot, hP, hpic⟩ := hM
  have hD : va_D (Aa [hm, a1, a2, a3, a4, a5, a6, a7, a8, a9, a10, a11] H0.size) [(hm, .inr (4, [.int th, .ref a1, .ref a2, .ref a3, .ref a4, .ref a5, .ref a6, .ref a7, .ref a8, .ref a9, .ref a10, .ref a11])), (a1, aN cI 4 ki), (a2, aN cI 4 ka), (a3, aN cI 4 kb), (a4, aI cI 4 zs), (a5, aI cI 4 pu), (a6, aN cI 4096 ce), (a7, aN cI 1024 pa), (a8, aN cI 1024 tr), (a9, aI cI 256 so), (a10, aN cI 6 pl), (a11, aN cI 6 ot)] := va_D.same2 [hm, a1, a2, a3, a4, a5, a6, a7, a8, a9, a10, a11] (hD.aa (sz := H0.size)) rfl rfl
  have hS : va_S (Aa [hm, a1, a2, a3, a4, a5, a6, a7, a8, a9, a10, a11] H0.size) H0 H0 [] := va_S.rf
  have hl := lv_entry ([.ref hm, .int v, .int v2]) (n := 9) (Nat.le_of_ble_eq_true rfl)
  rw [lg_entry_eq]
  generalize (lg_sl ([.ref hm, .int v, .int v2]) ++ List.replicate (9 - (lg_sl ([.ref hm, .int v, .int v2])).length) Slot.unset).toArray = ls at hl ⊢
  have hl : lv_has ls 9 [(0, .ref hm), (1, .int v), (2, .int v2)] := hl
  refine lv_iload_n hx hb d_M_merge_0 rfl (lv_at hl 1 rfl) ?_
  refine mx_callR (r := .int (bI (isNum v))) (c_M_isNumber G v) hW (iv_M_merge_1 G hx hb hown hW [.int v] [] rfl) hml hl.1 (by rw [hb]; exact d_M_merge_1) (cd_M_isNumber G hW) ⟨Nat.le_of_ble_eq_true rfl, Nat.le_of_ble_eq_true rfl⟩ rfl rfl (Nat.le_of_ble_eq_true rfl) (Nat.le_of_ble_eq_true rfl) (Nat.le_of_ble_eq_true rfl) ?_
  refine tp_i (y := (bI false)) (by rw [hv]) ?_
  refine lv_if_eq (tgt := 18) hx hb d_M_merge_4 (by decide) (fun c_4 => ?_) (fun c_4 => absurd (rfl) c_4)
  refine lv_iconst (v := (nI 0)) hx hb d_M_merge_18 (by decide) ?_
  refine lv_istore_n (lv' := [(3, .int (nI 0)), (0, .ref hm), (1, .int v), (2, .int v2)]) hx hb d_M_merge_19 rfl hl (by decide) rfl (fun ls hl => ?_)
  refine lv_iload_n hx hb d_M_merge_20 rfl (lv_at hl 0 rfl) ?_
  refine lv_if_eq (tgt := 46) hx hb d_M_merge_21 (by decide) (fun c_21 => ?_) (fun c_21 => absurd (by decide) c_21)
  refine lv_iconst (v := (nI 0)) hx hb d_M_merge_46 (by decide) ?_
  refine lv_istore (lv' := [(4, .int (nI 0)), (3, .int (nI 0)), (0, .ref hm), (1, .int v), (2, .int v2)]) hx hb d_M_merge_47 hl (by decide) rfl (fun ls hl => ?_)
  refine lv_iload hx hb d_M_merge_49 (lv_at hl 0 rfl) ?_
  refine lv_if_eq (tgt := 108) hx hb d_M_merge_51 (by decide) (fun c_51 => ?_) (fun c_51 => absurd (by decide) c_51)
  refine lv_iconst (v := (nI 0)) hx hb d_M_merge_108 (by decide) ?_
  refine lv_istore (lv' := [(5, .int (nI 0)), (4, .int (nI 0)), (3, .int (nI 0)), (0, .ref hm), (1, .int v), (2, .int v2)]) hx hb d_M_merge_109 hl (by decide) rfl (fun ls hl => ?_)
  refine lv_aload_n hx hb d_M_merge_111 rfl (lv_at hl 3 rfl) ?_
  refine lv_iload_n hx hb d_M_merge_112 rfl (lv_at hl 2 rfl) ?_
  refine lv_if_ne (tgt := 120) hx hb d_M_merge_113 (by decide) (fun c_113 => absurd (rfl) c_113) (fun c_113 => ?_)
  refine lv_iconst (v := (nI 1)) hx hb d_M_merge_116 (by decide) ?_
  refine lv_goto (tgt := 167) hx hb d_M_merge_117 (by decide) ?_
  refine va_put (D := D) (ci := 4) (v := .int (nI 1)) (ty := .int) (C := R_M) (T := T_M) (N := 12) hx hb (us_M G hW) (fun _ h => h) t_M to_M nm_M hown hK hP hD hS 0 rfl rfl 0 (by decide) (fl_M_43 G hW) (fun _ h9 => h9) rfl (by decide +kernel) rfl rfl (Nat.le_of_ble_eq_true rfl) d_M_merge_167 (fun H locs hP hD hS => ?_)
  have hP : va_P D vcl [(hm, .inr (4, [.int (nI 1), .ref a1, .ref a2, .ref a3, .ref a4, .ref a5, .ref a6, .ref a7, .ref a8, .ref a9, .ref a10, .ref a11])), (a1, aN cI 4 ki), (a2, aN cI 4 ka), (a3, aN cI 4 kb), (a4, aI cI 4 zs), (a5, aI cI 4 pu), (a6, aN cI 4096 ce), (a7, aN cI 1024 pa), (a8, aN cI 1024 tr), (a9, aI cI 256 so), (a10, aN cI 6 pl), (a11, aN cI 6 ot)] H := hP
  have hD : va_D (Aa [hm, a1, a2, a3, a4, a5, a6, a7, a8, a9, a10, a11] H0.size) [(hm, .inr (4, [.int (nI 1), .ref a1, .ref a2, .ref a3, .ref a4, .ref a5, .ref a6, .ref a7, .ref a8, .ref a9, .ref a10, .ref a11])), (a1, aN cI 4 ki), (a2, aN cI 4 ka), (a3, aN cI 4 kb), (a4, aI cI 4 zs), (a5, aI cI 4 pu), (a6, aN cI 4096 ce), (a7, aN cI 1024 pa), (a8, aN cI 1024 tr), (a9, aI cI 256 so), (a10, aN cI 6 pl), (a11, aN cI 6 ot)] := hD
  refine lv_aload_n hx hb d_M_merge_170 rfl (lv_at hl 3 rfl) ?_
  refine va_get (D := D) (ci := 4) (v := .int (nI 1)) (C := R_M) (T := T_M) (N := 12) hx hb (us_M G hW) (fun _ h => h) hown hK hP 0 rfl rfl 0 (by decide) (fl_M_43 G hW) (fun _ h9 => h9) rfl d_M_merge_171 ?_
  refine lv_if_le (tgt := 179) hx hb d_M_merge_174 (by decide) (fun c_174 => absurd c_174 (by decide)) (fun c_174 => ?_)
  refine lv_iconst (v := (nI 0)) hx hb d_M_merge_177 (by decide) ?_
  exact mx_iret hx hb hr hlk d_M_merge_178 (Nat.le_of_ble_eq_true rfl) (Nat.le_of_ble_eq_true rfl) hS.2.2 (⟨rfl, ki, ka, kb, zs, pu, ce, pa, tr, so, pl, ot, hP, hpic⟩)

set_option maxHeartbeats 4000000 in
set_option maxRecDepth 100000 in
theorem c_M_merge_no2 {l : Launch} {s0 : State} {D : va_G} {cI cF cJ : ClassId} (G : Gx l s0 D cI cF cJ) (hm a1 a2 a3 a4 a5 a6 a7 a8 a9 a10 a11 : Nat) (th : Int32) (S : Nat → FS) (j : Nat) (v : Int32) {H0 : Heap} {A0 : Nat → Prop} (hM : MP D cI hm a1 a2 a3 a4 a5 a6 a7 a8 a9 a10 a11 th S H0) (hD : va_D A0 (adM hm a1 a2 a3 a4 a5 a6 a7 a8 a9 a10 a11)) (hok : ∀ i, i < 4 → okS (S i)) (hj : j < 4) (hv : isNum v = false) : Mx l s0 y_M_merge (.code y_M_merge b_M_merge 9 (some .int)) { frames := 7, cells := 0, slots := 0, locals := 170 } [.ref hm, .int (nI j), .int v] H0 (Aa [hm, a1, a2, a3, a4, a5, a6, a7, a8, a9, a10, a11] H0.size) (Rw (.int (nI 0)) (fun H1 => MP D cI hm a1 a2 a3 a4 a5 a6 a7 a8 a9 a10 a11 (nI 1) S H1)) := by
  refine Mx.ofW (own := "FewBitsModel") rfl rfl ?_
  rintro p e s m below meth c ⟨hx, hb, hml, hr, hown, hW, hlk⟩ hnm het hH
  have hK := G.k hW
  have hD0 := hD
  obtain ⟨ki, ka, kb, zs, pu, ce, pa, tr, so, pl, ot, hP, hpic⟩ := hM
  have hD : va_D (Aa [hm, a1, a2, a3, a4, a5, a6, a7, a8, a9, a10, a11] H0.size) [(hm, .inr (4, [.int th, .ref a1, .ref a2, .ref a3, .ref a4, .ref a5, .ref a6, .ref a7, .ref a8, .ref a9, .ref a10, .ref a11])), (a1, aN cI 4 ki), (a2, aN cI 4 ka), (a3, aN cI 4 kb), (a4, aI cI 4 zs), (a5, aI cI 4 pu), (a6, aN cI 4096 ce), (a7, aN cI 1024 pa), (a8, aN cI 1024 tr), (a9, aI cI 256 so), (a10, aN cI 6 pl), (a11, aN cI 6 ot)] := va_D.same2 [hm, a1, a2, a3, a4, a5, a6, a7, a8, a9, a10, a11] (hD.aa (sz := H0.size)) rfl rfl
  have hS : va_S (Aa [hm, a1, a2, a3, a4, a5, a6, a7, a8, a9, a10, a11] H0.size) H0 H0 [] := va_S.rf
  have hl := lv_entry ([.ref hm, .int (nI j), .int v]) (n := 9) (Nat.le_of_ble_eq_true rfl)
  rw [lg_entry_eq]
  generalize (lg_sl ([.ref hm, .int (nI j), .int v]) ++ List.replicate (9 - (lg_sl ([.ref hm, .int (nI j), .int v])).length) Slot.unset).toArray = ls at hl ⊢
  have hl : lv_has ls 9 [(0, .ref hm), (1, .int (nI j)), (2, .int v)] := hl
  refine lv_iload_n hx hb d_M_merge_0 rfl (lv_at hl 1 rfl) ?_
  refine mx_callR (r := .int (bI (isNum (nI j)))) (c_M_isNumber G (nI j)) hW (iv_M_merge_1 G hx hb hown hW [.int (nI j)] [] rfl) hml hl.1 (by rw [hb]; exact d_M_merge_1) (cd_M_isNumber G hW) ⟨Nat.le_of_ble_eq_true rfl, Nat.le_of_ble_eq_true rfl⟩ rfl rfl (Nat.le_of_ble_eq_true rfl) (Nat.le_of_ble_eq_true rfl) (Nat.le_of_ble_eq_true rfl) ?_
  refine tp_i (y := (bI true)) (by rw [isNum_nI hj]) ?_
  refine lv_if_eq (tgt := 18) hx hb d_M_merge_4 (by decide) (fun c_4 => absurd c_4 (by decide)) (fun c_4 => ?_)
  refine lv_iload_n hx hb d_M_merge_7 rfl (lv_at hl 2 rfl) ?_
  refine mx_callR (r := .int (bI (isNum v))) (c_M_isNumber G v) hW (iv_M_merge_8 G hx hb hown hW [.int v] [] rfl) hml hl.1 (by rw [hb]; exact d_M_merge_8) (cd_M_isNumber G hW) ⟨Nat.le_of_ble_eq_true rfl, Nat.le_of_ble_eq_true rfl⟩ rfl rfl (Nat.le_of_ble_eq_true rfl) (Nat.le_of_ble_eq_true rfl) (Nat.le_of_ble_eq_true rfl) ?_
  refine tp_i (y := (bI false)) (by rw [hv]) ?_
  refine lv_if_eq (tgt := 18) hx hb d_M_merge_11 (by decide) (fun c_11 => ?_) (fun c_11 => absurd (rfl) c_11)
  refine lv_iconst (v := (nI 0)) hx hb d_M_merge_18 (by decide) ?_
  refine lv_istore_n (lv' := [(3, .int (nI 0)), (0, .ref hm), (1, .int (nI j)), (2, .int v)]) hx hb d_M_merge_19 rfl hl (by decide) rfl (fun ls hl => ?_)
  refine lv_iload_n hx hb d_M_merge_20 rfl (lv_at hl 0 rfl) ?_
  refine lv_if_eq (tgt := 46) hx hb d_M_merge_21 (by decide) (fun c_21 => ?_) (fun c_21 => absurd (by decide) c_21)
  refine lv_iconst (v := (nI 0)) hx hb d_M_merge_46 (by decide) ?_
  refine lv_istore (lv' := [(4, .int (nI 0)), (3, .int (nI 0)), (0, .ref hm), (1, .int (nI j)), (2, .int v)]) hx hb d_M_merge_47 hl (by decide) rfl (fun ls hl => ?_)
  refine lv_iload hx hb d_M_merge_49 (lv_at hl 0 rfl) ?_
  refine lv_if_eq (tgt := 108) hx hb d_M_merge_51 (by decide) (fun c_51 => ?_) (fun c_51 => absurd (by decide) c_51)
  refine lv_iconst (v := (nI 0)) hx hb d_M_merge_108 (by decide) ?_
  refine lv_istore (lv' := [(5, .int (nI 0)), (4, .int (nI 0)), (3, .int (nI 0)), (0, .ref hm), (1, .int (nI j)), (2, .int v)]) hx hb d_M_merge_109 hl (by decide) rfl (fun ls hl => ?_)
  refine lv_aload_n hx hb d_M_merge_111 rfl (lv_at hl 3 rfl) ?_
  refine lv_iload_n hx hb d_M_merge_112 rfl (lv_at hl 2 rfl) ?_
  refine lv_if_ne (tgt := 120) hx hb d_M_merge_113 (by decide) (fun c_113 => absurd (rfl) c_113) (fun c_113 => ?_)
  refine lv_iconst (v := (nI 1)) hx hb d_M_merge_116 (by decide) ?_
  refine lv_goto (tgt := 167) hx hb d_M_merge_117 (by decide) ?_
  refine va_put (D := D) (ci := 4) (v := .int (nI 1)) (ty := .int) (C := R_M) (T := T_M) (N := 12) hx hb (us_M G hW) (fun _ h => h) t_M to_M nm_M hown hK hP hD hS 0 rfl rfl 0 (by decide) (fl_M_43 G hW) (fun _ h9 => h9) rfl (by decide +kernel) rfl rfl (Nat.le_of_ble_eq_true rfl) d_M_merge_167 (fun H locs hP hD hS => ?_)
  have hP : va_P D vcl [(hm, .inr (4, [.int (nI 1), .ref a1, .ref a2, .ref a3, .ref a4, .ref a5, .ref a6, .ref a7, .ref a8, .ref a9, .ref a10, .ref a11])), (a1, aN cI 4 ki), (a2, aN cI 4 ka), (a3, aN cI 4 kb), (a4, aI cI 4 zs), (a5, aI cI 4 pu), (a6, aN cI 4096 ce), (a7, aN cI 1024 pa), (a8, aN cI 1024 tr), (a9, aI cI 256 so), (a10, aN cI 6 pl), (a11, aN cI 6 ot)] H := hP
  have hD : va_D (Aa [hm, a1, a2, a3, a4, a5, a6, a7, a8, a9, a10, a11] H0.size) [(hm, .inr (4, [.int (nI 1), .ref a1, .ref a2, .ref a3, .ref a4, .ref a5, .ref a6, .ref a7, .ref a8, .ref a9, .ref a10, .ref a11])), (a1, aN cI 4 ki), (a2, aN cI 4 ka), (a3, aN cI 4 kb), (a4, aI cI 4 zs), (a5, aI cI 4 pu), (a6, aN cI 4096 ce), (a7, aN cI 1024 pa), (a8, aN cI 1024 tr), (a9, aI cI 256 so), (a10, aN cI 6 pl), (a11, aN cI 6 ot)] := hD
  refine lv_aload_n hx hb d_M_merge_170 rfl (lv_at hl 3 rfl) ?_
  refine va_get (D := D) (ci := 4) (v := .int (nI 1)) (C := R_M) (T := T_M) (N := 12) hx hb (us_M G hW) (fun _ h => h) hown hK hP 0 rfl rfl 0 (by decide) (fl_M_43 G hW) (fun _ h9 => h9) rfl d_M_merge_171 ?_
  refine lv_if_le (tgt := 179) hx hb d_M_merge_174 (by decide) (fun c_174 => absurd c_174 (by decide)) (fun c_174 => ?_)
  refine lv_iconst (v := (nI 0)) hx hb d_M_merge_177 (by decide) ?_
  exact mx_iret hx hb hr hlk d_M_merge_178 (Nat.le_of_ble_eq_true rfl) (Nat.le_of_ble_eq_true rfl) hS.2.2 (⟨rfl, ki, ka, kb, zs, pu, ce, pa, tr, so, pl, ot, hP, hpic⟩)

set_option maxHeartbeats 4000000 in
set_option maxRecDepth 100000 in
theorem c_M_merge_none1 {l : Launch} {s0 : State} {D : va_G} {cI cF cJ : ClassId} (G : Gx l s0 D cI cF cJ) (hm a1 a2 a3 a4 a5 a6 a7 a8 a9 a10 a11 : Nat) (th : Int32) (S : Nat → FS) (j j2 : Nat) {H0 : Heap} {A0 : Nat → Prop} (hM : MP D cI hm a1 a2 a3 a4 a5 a6 a7 a8 a9 a10 a11 th S H0) (hD : va_D A0 (adM hm a1 a2 a3 a4 a5 a6 a7 a8 a9 a10 a11)) (hok : ∀ i, i < 4 → okS (S i)) (hj : j < 4) (hj2 : j2 < 4) (h0 : (S j).1 = 0) : Mx l s0 y_M_merge (.code y_M_merge b_M_merge 9 (some .int)) { frames := 7, cells := 0, slots := 0, locals := 170 } [.ref hm, .int (nI j), .int (nI j2)] H0 (Aa [hm, a1, a2, a3, a4, a5, a6, a7, a8, a9, a10, a11] H0.size) (Rw (.int (nI 0)) (fun H1 => MP D cI hm a1 a2 a3 a4 a5 a6 a7 a8 a9 a10 a11 (nI 2) S H1)) := by
  refine Mx.ofW (own := "FewBitsModel") rfl rfl ?_
  rintro p e s m below meth c ⟨hx, hb, hml, hr, hown, hW, hlk⟩ hnm het hH
  have hK := G.k hW
  have hD0 := hD
  obtain ⟨ki, ka, kb, zs, pu, ce, pa, tr, so, pl, ot, hP, hpic⟩ := hM
  have hD : va_D (Aa [hm, a1, a2, a3, a4, a5, a6, a7, a8, a9, a10, a11] H0.size) [(hm, .inr (4, [.int th, .ref a1, .ref a2, .ref a3, .ref a4, .ref a5, .ref a6, .ref a7, .ref a8, .ref a9, .ref a10, .ref a11])), (a1, aN cI 4 ki), (a2, aN cI 4 ka), (a3, aN cI 4 kb), (a4, aI cI 4 zs), (a5, aI cI 4 pu), (a6, aN cI 4096 ce), (a7, aN cI 1024 pa), (a8, aN cI 1024 tr), (a9, aI cI 256 so), (a10, aN cI 6 pl), (a11, aN cI 6 ot)] := va_D.same2 [hm, a1, a2, a3, a4, a5, a6, a7, a8, a9, a10, a11] (hD.aa (sz := H0.size)) rfl rfl
  have hS : va_S (Aa [hm, a1, a2, a3, a4, a5, a6, a7, a8, a9, a10, a11] H0.size) H0 H0 [] := va_S.rf
  have hl := lv_entry ([.ref hm, .int (nI j), .int (nI j2)]) (n := 9) (Nat.le_of_ble_eq_true rfl)
  rw [lg_entry_eq]
  generalize (lg_sl ([.ref hm, .int (nI j), .int (nI j2)]) ++ List.replicate (9 - (lg_sl ([.ref hm, .int (nI j), .int (nI j2)])).length) Slot.unset).toArray = ls at hl ⊢
  have hl : lv_has ls 9 [(0, .ref hm), (1, .int (nI j)), (2, .int (nI j2))] := hl
  refine lv_iload_n hx hb d_M_merge_0 rfl (lv_at hl 1 rfl) ?_
  refine mx_callR (r := .int (bI (isNum (nI j)))) (c_M_isNumber G (nI j)) hW (iv_M_merge_1 G hx hb hown hW [.int (nI j)] [] rfl) hml hl.1 (by rw [hb]; exact d_M_merge_1) (cd_M_isNumber G hW) ⟨Nat.le_of_ble_eq_true rfl, Nat.le_of_ble_eq_true rfl⟩ rfl rfl (Nat.le_of_ble_eq_true rfl) (Nat.le_of_ble_eq_true rfl) (Nat.le_of_ble_eq_true rfl) ?_
  refine tp_i (y := (bI true)) (by rw [isNum_nI hj]) ?_
  refine lv_if_eq (tgt := 18) hx hb d_M_merge_4 (by decide) (fun c_4 => absurd c_4 (by decide)) (fun c_4 => ?_)
  refine lv_iload_n hx hb d_M_merge_7 rfl (lv_at hl 2 rfl) ?_
  refine mx_callR (r := .int (bI (isNum (nI j2)))) (c_M_isNumber G (nI j2)) hW (iv_M_merge_8 G hx hb hown hW [.int (nI j2)] [] rfl) hml hl.1 (by rw [hb]; exact d_M_merge_8) (cd_M_isNumber G hW) ⟨Nat.le_of_ble_eq_true rfl, Nat.le_of_ble_eq_true rfl⟩ rfl rfl (Nat.le_of_ble_eq_true rfl) (Nat.le_of_ble_eq_true rfl) (Nat.le_of_ble_eq_true rfl) ?_
  refine tp_i (y := (bI true)) (by rw [isNum_nI hj2]) ?_
  refine lv_if_eq (tgt := 18) hx hb d_M_merge_11 (by decide) (fun c_11 => absurd c_11 (by decide)) (fun c_11 => ?_)
  refine lv_iconst (v := (nI 1)) hx hb d_M_merge_14 (by decide) ?_
  refine lv_goto (tgt := 19) hx hb d_M_merge_15 (by decide) ?_
  refine lv_istore_n (lv' := [(3, .int (nI 1)), (0, .ref hm), (1, .int (nI j)), (2, .int (nI j2))]) hx hb d_M_merge_19 rfl hl (by decide) rfl (fun ls hl => ?_)
  refine lv_iload_n hx hb d_M_merge_20 rfl (lv_at hl 0 rfl) ?_
  refine lv_if_eq (tgt := 46) hx hb d_M_merge_21 (by decide) (fun c_21 => absurd c_21 (by decide)) (fun c_21 => ?_)
  refine lv_aload_n hx hb d_M_merge_24 rfl (lv_at hl 1 rfl) ?_
  refine va_get (D := D) (ci := 4) (v := .ref a1) (C := R_M) (T := T_M) (N := 12) hx hb (us_M G hW) (fun _ h => h) hown hK hP 0 rfl rfl 1 (by decide) (fl_M_7 G hW) (fun _ h9 => h9) rfl d_M_merge_25 ?_
  refine lv_iload_n hx hb d_M_merge_28 rfl (lv_at hl 2 rfl) ?_
  refine ia_ld hx hb hK hP 1 (j := j) rfl (hj) (by decide) d_M_merge_29 ?_
  refine tp_i (y := (nI (ki j))) rfl ?_
  refine tp_i (y := (nI 0)) (by rw [(hpic j hj).ki, h0]) ?_
  refine lv_if_le (tgt := 46) hx hb d_M_merge_30 (by decide) (fun c_30 => ?_) (fun c_30 => absurd (by decide) c_30)
  refine lv_iconst (v := (nI 0)) hx hb d_M_merge_46 (by decide) ?_
  refine lv_istore (lv' := [(4, .int (nI 0)), (3, .int (nI 1)), (0, .ref hm), (1, .int (nI j)), (2, .int (nI j2))]) hx hb d_M_merge_47 hl (by decide) rfl (fun ls hl => ?_)
  refine lv_iload hx hb d_M_merge_49 (lv_at hl 0 rfl) ?_
  refine lv_if_eq (tgt := 108) hx hb d_M_merge_51 (by decide) (fun c_51 => ?_) (fun c_51 => absurd (by decide) c_51)
  refine lv_iconst (v := (nI 0)) hx hb d_M_merge_108 (by decide) ?_
  refine lv_istore (lv' := [(5, .int (nI 0)), (4, .int (nI 0)), (3, .int (nI 1)), (0, .ref hm), (1, .int (nI j)), (2, .int (nI j2))]) hx hb d_M_merge_109 hl (by decide) rfl (fun ls hl => ?_)
  refine lv_aload_n hx hb d_M_merge_111 rfl (lv_at hl 3 rfl) ?_
  refine lv_iload_n hx hb d_M_merge_112 rfl (lv_at hl 2 rfl) ?_
  refine lv_if_ne (tgt := 120) hx hb d_M_merge_113 (by decide) (fun c_113 => ?_) (fun c_113 => absurd c_113 (by decide))
  refine lv_iload hx hb d_M_merge_120 (lv_at hl 1 rfl) ?_
  refine lv_if_ne (tgt := 129) hx hb d_M_merge_122 (by decide) (fun c_122 => absurd (rfl) c_122) (fun c_122 => ?_)
  refine lv_iconst (v := (nI 2)) hx hb d_M_merge_125 (by decide) ?_
  refine lv_goto (tgt := 167) hx hb d_M_merge_126 (by decide) ?_
  refine va_put (D := D) (ci := 4) (v := .int (nI 2)) (ty := .int) (C := R_M) (T := T_M) (N := 12) hx hb (us_M G hW) (fun _ h => h) t_M to_M nm_M hown hK hP hD hS 0 rfl rfl 0 (by decide) (fl_M_43 G hW) (fun _ h9 => h9) rfl (by decide +kernel) rfl rfl (Nat.le_of_ble_eq_true rfl) d_M_merge_167 (fun H locs hP hD hS => ?_)
  have hP : va_P D vcl [(hm, .inr (4, [.int (nI 2), .ref a1, .ref a2, .ref a3, .ref a4, .ref a5, .ref a6, .ref a7, .ref a8, .ref a9, .ref a10, .ref a11])), (a1, aN cI 4 ki), (a2, aN cI 4 ka), (a3, aN cI 4 kb), (a4, aI cI 4 zs), (a5, aI cI 4 pu), (a6, aN cI 4096 ce), (a7, aN cI 1024 pa), (a8, aN cI 1024 tr), (a9, aI cI 256 so), (a10, aN cI 6 pl), (a11, aN cI 6 ot)] H := hP
  have hD : va_D (Aa [hm, a1, a2, a3, a4, a5, a6, a7, a8, a9, a10, a11] H0.size) [(hm, .inr (4, [.int (nI 2), .ref a1, .ref a2, .ref a3, .ref a4, .ref a5, .ref a6, .ref a7, .ref a8, .ref a9, .ref a10, .ref a11])), (a1, aN cI 4 ki), (a2, aN cI 4 ka), (a3, aN cI 4 kb), (a4, aI cI 4 zs), (a5, aI cI 4 pu), (a6, aN cI 4096 ce), (a7, aN cI 1024 pa), (a8, aN cI 1024 tr), (a9, aI cI 256 so), (a10, aN cI 6 pl), (a11, aN cI 6 ot)] := hD
  refine lv_aload_n hx hb d_M_merge_170 rfl (lv_at hl 3 rfl) ?_
  refine va_get (D := D) (ci := 4) (v := .int (nI 2)) (C := R_M) (T := T_M) (N := 12) hx hb (us_M G hW) (fun _ h => h) hown hK hP 0 rfl rfl 0 (by decide) (fl_M_43 G hW) (fun _ h9 => h9) rfl d_M_merge_171 ?_
  refine lv_if_le (tgt := 179) hx hb d_M_merge_174 (by decide) (fun c_174 => absurd c_174 (by decide)) (fun c_174 => ?_)
  refine lv_iconst (v := (nI 0)) hx hb d_M_merge_177 (by decide) ?_
  exact mx_iret hx hb hr hlk d_M_merge_178 (Nat.le_of_ble_eq_true rfl) (Nat.le_of_ble_eq_true rfl) hS.2.2 (⟨rfl, ki, ka, kb, zs, pu, ce, pa, tr, so, pl, ot, hP, hpic⟩)

set_option maxHeartbeats 4000000 in
set_option maxRecDepth 100000 in
theorem c_M_merge_none2 {l : Launch} {s0 : State} {D : va_G} {cI cF cJ : ClassId} (G : Gx l s0 D cI cF cJ) (hm a1 a2 a3 a4 a5 a6 a7 a8 a9 a10 a11 : Nat) (th : Int32) (S : Nat → FS) (j j2 : Nat) {H0 : Heap} {A0 : Nat → Prop} (hM : MP D cI hm a1 a2 a3 a4 a5 a6 a7 a8 a9 a10 a11 th S H0) (hD : va_D A0 (adM hm a1 a2 a3 a4 a5 a6 a7 a8 a9 a10 a11)) (hok : ∀ i, i < 4 → okS (S i)) (hj : j < 4) (hj2 : j2 < 4) (h0 : (S j).1 ≠ 0) (h02 : (S j2).1 = 0) : Mx l s0 y_M_merge (.code y_M_merge b_M_merge 9 (some .int)) { frames := 7, cells := 0, slots := 0, locals := 170 } [.ref hm, .int (nI j), .int (nI j2)] H0 (Aa [hm, a1, a2, a3, a4, a5, a6, a7, a8, a9, a10, a11] H0.size) (Rw (.int (nI 0)) (fun H1 => MP D cI hm a1 a2 a3 a4 a5 a6 a7 a8 a9 a10 a11 (nI 2) S H1)) := by
  refine Mx.ofW (own := "FewBitsModel") rfl rfl ?_
  rintro p e s m below meth c ⟨hx, hb, hml, hr, hown, hW, hlk⟩ hnm het hH
  have hK := G.k hW
  have hD0 := hD
  obtain ⟨ki, ka, kb, zs, pu, ce, pa, tr, so, pl, ot, hP, hpic⟩ := hM
  have hD : va_D (Aa [hm, a1, a2, a3, a4, a5, a6, a7, a8, a9, a10, a11] H0.size) [(hm, .inr (4, [.int th, .ref a1, .ref a2, .ref a3, .ref a4, .ref a5, .ref a6, .ref a7, .ref a8, .ref a9, .ref a10, .ref a11])), (a1, aN cI 4 ki), (a2, aN cI 4 ka), (a3, aN cI 4 kb), (a4, aI cI 4 zs), (a5, aI cI 4 pu), (a6, aN cI 4096 ce), (a7, aN cI 1024 pa), (a8, aN cI 1024 tr), (a9, aI cI 256 so), (a10, aN cI 6 pl), (a11, aN cI 6 ot)] := va_D.same2 [hm, a1, a2, a3, a4, a5, a6, a7, a8, a9, a10, a11] (hD.aa (sz := H0.size)) rfl rfl
  have hS : va_S (Aa [hm, a1, a2, a3, a4, a5, a6, a7, a8, a9, a10, a11] H0.size) H0 H0 [] := va_S.rf
  have hl := lv_entry ([.ref hm, .int (nI j), .int (nI j2)]) (n := 9) (Nat.le_of_ble_eq_true rfl)
  rw [lg_entry_eq]
  generalize (lg_sl ([.ref hm, .int (nI j), .int (nI j2)]) ++ List.replicate (9 - (lg_sl ([.ref hm, .int (nI j), .int (nI j2)])).length) Slot.unset).toArray = ls at hl ⊢
  have hl : lv_has ls 9 [(0, .ref hm), (1, .int (nI j)), (2, .int (nI j2))] := hl
  refine lv_iload_n hx hb d_M_merge_0 rfl (lv_at hl 1 rfl) ?_
  refine mx_callR (r := .int (bI (isNum (nI j)))) (c_M_isNumber G (nI j)) hW (iv_M_merge_1 G hx hb hown hW [.int (nI j)] [] rfl) hml hl.1 (by rw [hb]; exact d_M_merge_1) (cd_M_isNumber G hW) ⟨Nat.le_of_ble_eq_true rfl, Nat.le_of_ble_eq_true rfl⟩ rfl rfl (Nat.le_of_ble_eq_true rfl) (Nat.le_of_ble_eq_true rfl) (Nat.le_of_ble_eq_true rfl) ?_
  refine tp_i (y := (bI true)) (by rw [isNum_nI hj]) ?_
  refine lv_if_eq (tgt := 18) hx hb d_M_merge_4 (by decide) (fun c_4 => absurd c_4 (by decide)) (fun c_4 => ?_)
  refine lv_iload_n hx hb d_M_merge_7 rfl (lv_at hl 2 rfl) ?_
  refine mx_callR (r := .int (bI (isNum (nI j2)))) (c_M_isNumber G (nI j2)) hW (iv_M_merge_8 G hx hb hown hW [.int (nI j2)] [] rfl) hml hl.1 (by rw [hb]; exact d_M_merge_8) (cd_M_isNumber G hW) ⟨Nat.le_of_ble_eq_true rfl, Nat.le_of_ble_eq_true rfl⟩ rfl rfl (Nat.le_of_ble_eq_true rfl) (Nat.le_of_ble_eq_true rfl) (Nat.le_of_ble_eq_true rfl) ?_
  refine tp_i (y := (bI true)) (by rw [isNum_nI hj2]) ?_
  refine lv_if_eq (tgt := 18) hx hb d_M_merge_11 (by decide) (fun c_11 => absurd c_11 (by decide)) (fun c_11 => ?_)
  refine lv_iconst (v := (nI 1)) hx hb d_M_merge_14 (by decide) ?_
  refine lv_goto (tgt := 19) hx hb d_M_merge_15 (by decide) ?_
  refine lv_istore_n (lv' := [(3, .int (nI 1)), (0, .ref hm), (1, .int (nI j)), (2, .int (nI j2))]) hx hb d_M_merge_19 rfl hl (by decide) rfl (fun ls hl => ?_)
  refine lv_iload_n hx hb d_M_merge_20 rfl (lv_at hl 0 rfl) ?_
  refine lv_if_eq (tgt := 46) hx hb d_M_merge_21 (by decide) (fun c_21 => absurd c_21 (by decide)) (fun c_21 => ?_)
  refine lv_aload_n hx hb d_M_merge_24 rfl (lv_at hl 1 rfl) ?_
  refine va_get (D := D) (ci := 4) (v := .ref a1) (C := R_M) (T := T_M) (N := 12) hx hb (us_M G hW) (fun _ h => h) hown hK hP 0 rfl rfl 1 (by decide) (fl_M_7 G hW) (fun _ h9 => h9) rfl d_M_merge_25 ?_
  refine lv_iload_n hx hb d_M_merge_28 rfl (lv_at hl 2 rfl) ?_
  refine ia_ld hx hb hK hP 1 (j := j) rfl (hj) (by decide) d_M_merge_29 ?_
  refine tp_i (y := (nI (ki j))) rfl ?_
  refine lv_if_le (tgt := 46) hx hb d_M_merge_30 (by decide) (fun c_30 => absurd c_30 (nI_nle (by rw [(hpic j hj).ki]; omega) (by rw [(hpic j hj).ki]; have := (hok j hj).k3; omega))) (fun c_30 => ?_)
  refine lv_aload_n hx hb d_M_merge_33 rfl (lv_at hl 1 rfl) ?_
  refine va_get (D := D) (ci := 4) (v := .ref a1) (C := R_M) (T := T_M) (N := 12) hx hb (us_M G hW) (fun _ h => h) hown hK hP 0 rfl rfl 1 (by decide) (fl_M_7 G hW) (fun _ h9 => h9) rfl d_M_merge_34 ?_
  refine lv_iload_n hx hb d_M_merge_37 rfl (lv_at hl 3 rfl) ?_
  refine ia_ld hx hb hK hP 1 (j := j2) rfl (hj2) (by decide) d_M_merge_38 ?_
  refine tp_i (y := (nI (ki j2))) rfl ?_
  refine tp_i (y := (nI 0)) (by rw [(hpic j2 hj2).ki, h02]) ?_
  refine lv_if_le (tgt := 46) hx hb d_M_merge_39 (by decide) (fun c_39 => ?_) (fun c_39 => absurd (by decide) c_39)
  refine lv_iconst (v := (nI 0)) hx hb d_M_merge_46 (by decide) ?_
  refine lv_istore (lv' := [(4, .int (nI 0)), (3, .int (nI 1)), (0, .ref hm), (1, .int (nI j)), (2, .int (nI j2))]) hx hb d_M_merge_47 hl (by decide) rfl (fun ls hl => ?_)
  refine lv_iload hx hb d_M_merge_49 (lv_at hl 0 rfl) ?_
  refine lv_if_eq (tgt := 108) hx hb d_M_merge_51 (by decide) (fun c_51 => ?_) (fun c_51 => absurd (by decide) c_51)
  refine lv_iconst (v := (nI 0)) hx hb d_M_merge_108 (by decide) ?_
  refine lv_istore (lv' := [(5, .int (nI 0)), (4, .int (nI 0)), (3, .int (nI 1)), (0, .ref hm), (1, .int (nI j)), (2, .int (nI j2))]) hx hb d_M_merge_109 hl (by decide) rfl (fun ls hl => ?_)
  refine lv_aload_n hx hb d_M_merge_111 rfl (lv_at hl 3 rfl) ?_
  refine lv_iload_n hx hb d_M_merge_112 rfl (lv_at hl 2 rfl) ?_
  refine lv_if_ne (tgt := 120) hx hb d_M_merge_113 (by decide) (fun c_113 => ?_) (fun c_113 => absurd c_113 (by decide))
  refine lv_iload hx hb d_M_merge_120 (lv_at hl 1 rfl) ?_
  refine lv_if_ne (tgt := 129) hx hb d_M_merge_122 (by decide) (fun c_122 => absurd (rfl) c_122) (fun c_122 => ?_)
  refine lv_iconst (v := (nI 2)) hx hb d_M_merge_125 (by decide) ?_
  refine lv_goto (tgt := 167) hx hb d_M_merge_126 (by decide) ?_
  refine va_put (D := D) (ci := 4) (v := .int (nI 2)) (ty := .int) (C := R_M) (T := T_M) (N := 12) hx hb (us_M G hW) (fun _ h => h) t_M to_M nm_M hown hK hP hD hS 0 rfl rfl 0 (by decide) (fl_M_43 G hW) (fun _ h9 => h9) rfl (by decide +kernel) rfl rfl (Nat.le_of_ble_eq_true rfl) d_M_merge_167 (fun H locs hP hD hS => ?_)
  have hP : va_P D vcl [(hm, .inr (4, [.int (nI 2), .ref a1, .ref a2, .ref a3, .ref a4, .ref a5, .ref a6, .ref a7, .ref a8, .ref a9, .ref a10, .ref a11])), (a1, aN cI 4 ki), (a2, aN cI 4 ka), (a3, aN cI 4 kb), (a4, aI cI 4 zs), (a5, aI cI 4 pu), (a6, aN cI 4096 ce), (a7, aN cI 1024 pa), (a8, aN cI 1024 tr), (a9, aI cI 256 so), (a10, aN cI 6 pl), (a11, aN cI 6 ot)] H := hP
  have hD : va_D (Aa [hm, a1, a2, a3, a4, a5, a6, a7, a8, a9, a10, a11] H0.size) [(hm, .inr (4, [.int (nI 2), .ref a1, .ref a2, .ref a3, .ref a4, .ref a5, .ref a6, .ref a7, .ref a8, .ref a9, .ref a10, .ref a11])), (a1, aN cI 4 ki), (a2, aN cI 4 ka), (a3, aN cI 4 kb), (a4, aI cI 4 zs), (a5, aI cI 4 pu), (a6, aN cI 4096 ce), (a7, aN cI 1024 pa), (a8, aN cI 1024 tr), (a9, aI cI 256 so), (a10, aN cI 6 pl), (a11, aN cI 6 ot)] := hD
  refine lv_aload_n hx hb d_M_merge_170 rfl (lv_at hl 3 rfl) ?_
  refine va_get (D := D) (ci := 4) (v := .int (nI 2)) (C := R_M) (T := T_M) (N := 12) hx hb (us_M G hW) (fun _ h => h) hown hK hP 0 rfl rfl 0 (by decide) (fl_M_43 G hW) (fun _ h9 => h9) rfl d_M_merge_171 ?_
  refine lv_if_le (tgt := 179) hx hb d_M_merge_174 (by decide) (fun c_174 => absurd c_174 (by decide)) (fun c_174 => ?_)
  refine lv_iconst (v := (nI 0)) hx hb d_M_merge_177 (by decide) ?_
  exact mx_iret hx hb hr hlk d_M_merge_178 (Nat.le_of_ble_eq_true rfl) (Nat.le_of_ble_eq_true rfl) hS.2.2 (⟨rfl, ki, ka, kb, zs, pu, ce, pa, tr, so, pl, ot, hP, hpic⟩)

set_option maxHeartbeats 4000000 in
set_option maxRecDepth 100000 in
theorem c_M_merge_nr {l : Launch} {s0 : State} {D : va_G} {cI cF cJ : ClassId} (G : Gx l s0 D cI cF cJ) (hm a1 a2 a3 a4 a5 a6 a7 a8 a9 a10 a11 : Nat) (th : Int32) (S : Nat → FS) (j j2 kd A B n kd2 A2 B2 n2 : Nat) (hd pv hd2 pv2 : Int32) (cs f cs2 g : Nat → Nat) {H0 : Heap} {A0 : Nat → Prop} (hM : MP D cI hm a1 a2 a3 a4 a5 a6 a7 a8 a9 a10 a11 th S H0) (hD : va_D A0 (adM hm a1 a2 a3 a4 a5 a6 a7 a8 a9 a10 a11)) (hok : ∀ i, i < 4 → okS (S i)) (hj : j < 4) (hj2 : j2 < 4) (hSj : S j = (kd, A, B, hd, pv, cs, n, f)) (hSj2 : S j2 = (kd2, A2, B2, hd2, pv2, cs2, n2, g)) (hk0 : kd ≠ 0) (hk02 : kd2 ≠ 0) (hne : ¬ (kd = 3 ∧ kd2 = 3 ∧ A = A2 ∧ B = B2)) : Mx l s0 y_M_merge (.code y_M_merge b_M_merge 9 (some .int)) { frames := 7, cells := 0, slots := 0, locals := 170 } [.ref hm, .int (nI j), .int (nI j2)] H0 (Aa [hm, a1, a2, a3, a4, a5, a6, a7, a8, a9, a10, a11] H0.size) (Rw (.int (nI 0)) (fun H1 => MP D cI hm a1 a2 a3 a4 a5 a6 a7 a8 a9 a10 a11 (nI 3) S H1)) := by
  refine Mx.ofW (own := "FewBitsModel") rfl rfl ?_
  rintro p e s m below meth c ⟨hx, hb, hml, hr, hown, hW, hlk⟩ hnm het hH
  have hK := G.k hW
  have hD0 := hD
  obtain ⟨ki, ka, kb, zs, pu, ce, pa, tr, so, pl, ot, hP, hpic⟩ := hM
  have hD : va_D (Aa [hm, a1, a2, a3, a4, a5, a6, a7, a8, a9, a10, a11] H0.size) [(hm, .inr (4, [.int th, .ref a1, .ref a2, .ref a3, .ref a4, .ref a5, .ref a6, .ref a7, .ref a8, .ref a9, .ref a10, .ref a11])), (a1, aN cI 4 ki), (a2, aN cI 4 ka), (a3, aN cI 4 kb), (a4, aI cI 4 zs), (a5, aI cI 4 pu), (a6, aN cI 4096 ce), (a7, aN cI 1024 pa), (a8, aN cI 1024 tr), (a9, aI cI 256 so), (a10, aN cI 6 pl), (a11, aN cI 6 ot)] := va_D.same2 [hm, a1, a2, a3, a4, a5, a6, a7, a8, a9, a10, a11] (hD.aa (sz := H0.size)) rfl rfl
  have hS : va_S (Aa [hm, a1, a2, a3, a4, a5, a6, a7, a8, a9, a10, a11] H0.size) H0 H0 [] := va_S.rf
  have hpj := hpic j hj
  rw [hSj] at hpj
  obtain ⟨p1, p2, p3, p4⟩ := hpj.fg hk0
  have hoj := hok j hj
  rw [hSj] at hoj
  obtain ⟨o1, o2, o3⟩ := hoj.AB hk0
  have hpj2 := hpic j2 hj2
  rw [hSj2] at hpj2
  obtain ⟨q1, q2, q3, q4⟩ := hpj2.fg hk02
  have hoj2 := hok j2 hj2
  rw [hSj2] at hoj2
  obtain ⟨r1, r2, r3⟩ := hoj2.AB hk02
  have hl := lv_entry ([.ref hm, .int (nI j), .int (nI j2)]) (n := 9) (Nat.le_of_ble_eq_true rfl)
  rw [lg_entry_eq]
  generalize (lg_sl ([.ref hm, .int (nI j), .int (nI j2)]) ++ List.replicate (9 - (lg_sl ([.ref hm, .int (nI j), .int (nI j2)])).length) Slot.unset).toArray = ls at hl ⊢
  have hl : lv_has ls 9 [(0, .ref hm), (1, .int (nI j)), (2, .int (nI j2))] := hl
  refine lv_iload_n hx hb d_M_merge_0 rfl (lv_at hl 1 rfl) ?_
  refine mx_callR (r := .int (bI (isNum (nI j)))) (c_M_isNumber G (nI j)) hW (iv_M_merge_1 G hx hb hown hW [.int (nI j)] [] rfl) hml hl.1 (by rw [hb]; exact d_M_merge_1) (cd_M_isNumber G hW) ⟨Nat.le_of_ble_eq_true rfl, Nat.le_of_ble_eq_true rfl⟩ rfl rfl (Nat.le_of_ble_eq_true rfl) (Nat.le_of_ble_eq_true rfl) (Nat.le_of_ble_eq_true rfl) ?_
  refine tp_i (y := (bI true)) (by rw [isNum_nI hj]) ?_
  refine lv_if_eq (tgt := 18) hx hb d_M_merge_4 (by decide) (fun c_4 => absurd c_4 (by decide)) (fun c_4 => ?_)
  refine lv_iload_n hx hb d_M_merge_7 rfl (lv_at hl 2 rfl) ?_
  refine mx_callR (r := .int (bI (isNum (nI j2)))) (c_M_isNumber G (nI j2)) hW (iv_M_merge_8 G hx hb hown hW [.int (nI j2)] [] rfl) hml hl.1 (by rw [hb]; exact d_M_merge_8) (cd_M_isNumber G hW) ⟨Nat.le_of_ble_eq_true rfl, Nat.le_of_ble_eq_true rfl⟩ rfl rfl (Nat.le_of_ble_eq_true rfl) (Nat.le_of_ble_eq_true rfl) (Nat.le_of_ble_eq_true rfl) ?_
  refine tp_i (y := (bI true)) (by rw [isNum_nI hj2]) ?_
  refine lv_if_eq (tgt := 18) hx hb d_M_merge_11 (by decide) (fun c_11 => absurd c_11 (by decide)) (fun c_11 => ?_)
  refine lv_iconst (v := (nI 1)) hx hb d_M_merge_14 (by decide) ?_
  refine lv_goto (tgt := 19) hx hb d_M_merge_15 (by decide) ?_
  refine lv_istore_n (lv' := [(3, .int (nI 1)), (0, .ref hm), (1, .int (nI j)), (2, .int (nI j2))]) hx hb d_M_merge_19 rfl hl (by decide) rfl (fun ls hl => ?_)
  refine lv_iload_n hx hb d_M_merge_20 rfl (lv_at hl 0 rfl) ?_
  refine lv_if_eq (tgt := 46) hx hb d_M_merge_21 (by decide) (fun c_21 => absurd c_21 (by decide)) (fun c_21 => ?_)
  refine lv_aload_n hx hb d_M_merge_24 rfl (lv_at hl 1 rfl) ?_
  refine va_get (D := D) (ci := 4) (v := .ref a1) (C := R_M) (T := T_M) (N := 12) hx hb (us_M G hW) (fun _ h => h) hown hK hP 0 rfl rfl 1 (by decide) (fl_M_7 G hW) (fun _ h9 => h9) rfl d_M_merge_25 ?_
  refine lv_iload_n hx hb d_M_merge_28 rfl (lv_at hl 2 rfl) ?_
  refine ia_ld hx hb hK hP 1 (j := j) rfl (hj) (by decide) d_M_merge_29 ?_
  refine tp_i (y := (nI (ki j))) rfl ?_
  refine tp_i (y := (nI kd)) (by rw [p1]) ?_
  refine lv_if_le (tgt := 46) hx hb d_M_merge_30 (by decide) (fun c_30 => absurd c_30 (nI_nle (by omega) (by omega))) (fun c_30 => ?_)
  refine lv_aload_n hx hb d_M_merge_33 rfl (lv_at hl 1 rfl) ?_
  refine va_get (D := D) (ci := 4) (v := .ref a1) (C := R_M) (T := T_M) (N := 12) hx hb (us_M G hW) (fun _ h => h) hown hK hP 0 rfl rfl 1 (by decide) (fl_M_7 G hW) (fun _ h9 => h9) rfl d_M_merge_34 ?_
  refine lv_iload_n hx hb d_M_merge_37 rfl (lv_at hl 3 rfl) ?_
  refine ia_ld hx hb hK hP 1 (j := j2) rfl (hj2) (by decide) d_M_merge_38 ?_
  refine tp_i (y := (nI (ki j2))) rfl ?_
  refine tp_i (y := (nI kd2)) (by rw [q1]) ?_
  refine lv_if_le (tgt := 46) hx hb d_M_merge_39 (by decide) (fun c_39 => absurd c_39 (nI_nle (by omega) (by omega))) (fun c_39 => ?_)
  refine lv_iconst (v := (nI 1)) hx hb d_M_merge_42 (by decide) ?_
  refine lv_goto (tgt := 47) hx hb d_M_merge_43 (by decide) ?_
  refine lv_istore (lv' := [(4, .int (nI 1)), (3, .int (nI 1)), (0, .ref hm), (1, .int (nI j)), (2, .int (nI j2))]) hx hb d_M_merge_47 hl (by decide) rfl (fun ls hl => ?_)
  refine lv_iload hx hb d_M_merge_49 (lv_at hl 0 rfl) ?_
  refine lv_if_eq (tgt := 108) hx hb d_M_merge_51 (by decide) (fun c_51 => absurd c_51 (by decide)) (fun c_51 => ?_)
  refine lv_aload_n hx hb d_M_merge_54 rfl (lv_at hl 2 rfl) ?_
  refine va_get (D := D) (ci := 4) (v := .ref a1) (C := R_M) (T := T_M) (N := 12) hx hb (us_M G hW) (fun _ h => h) hown hK hP 0 rfl rfl 1 (by decide) (fl_M_7 G hW) (fun _ h9 => h9) rfl d_M_merge_55 ?_
  refine lv_iload_n hx hb d_M_merge_58 rfl (lv_at hl 3 rfl) ?_
  refine ia_ld hx hb hK hP 1 (j := j) rfl (hj) (by decide) d_M_merge_59 ?_
  refine tp_i (y := (nI (ki j))) rfl ?_
  refine tp_i (y := (nI kd)) (by rw [p1]) ?_
  refine lv_iconst (v := (nI 3)) hx hb d_M_merge_60 (by decide) ?_
  refine lv_icmp_ne (tgt := 108) hx hb d_M_merge_61 (by decide) (fun c_61 => ?_) (fun c_61 => ?_)
  · refine lv_iconst (v := (nI 0)) hx hb d_M_merge_108 (by decide) ?_
    refine lv_istore (lv' := [(5, .int (nI 0)), (4, .int (nI 1)), (3, .int (nI 1)), (0, .ref hm), (1, .int (nI j)), (2, .int (nI j2))]) hx hb d_M_merge_109 hl (by decide) rfl (fun ls hl => ?_)
    refine lv_aload_n hx hb d_M_merge_111 rfl (lv_at hl 3 rfl) ?_
    refine lv_iload_n hx hb d_M_merge_112 rfl (lv_at hl 2 rfl) ?_
    refine lv_if_ne (tgt := 120) hx hb d_M_merge_113 (by decide) (fun c_113 => ?_) (fun c_113 => absurd c_113 (by decide))
    refine lv_iload hx hb d_M_merge_120 (lv_at hl 1 rfl) ?_
    refine lv_if_ne (tgt := 129) hx hb d_M_merge_122 (by decide) (fun c_122 => ?_) (fun c_122 => absurd c_122 (by decide))
    refine lv_iload hx hb d_M_merge_129 (lv_at hl 0 rfl) ?_
    refine lv_if_ne (tgt := 138) hx hb d_M_merge_131 (by decide) (fun c_131 => absurd (rfl) c_131) (fun c_131 => ?_)
    refine lv_iconst (v := (nI 3)) hx hb d_M_merge_134 (by decide) ?_
    refine lv_goto (tgt := 167) hx hb d_M_merge_135 (by decide) ?_
    refine va_put (D := D) (ci := 4) (v := .int (nI 3)) (ty := .int) (C := R_M) (T := T_M) (N := 12) hx hb (us_M G hW) (fun _ h => h) t_M to_M nm_M hown hK hP hD hS 0 rfl rfl 0 (by decide) (fl_M_43 G hW) (fun _ h9 => h9) rfl (by decide +kernel) rfl rfl (Nat.le_of_ble_eq_true rfl) d_M_merge_167 (fun H locs hP hD hS => ?_)
    have hP : va_P D vcl [(hm, .inr (4, [.int (nI 3), .ref a1, .ref a2, .ref a3, .ref a4, .ref a5, .ref a6, .ref a7, .ref a8, .ref a9, .ref a10, .ref a11])), (a1, aN cI 4 ki), (a2, aN cI 4 ka), (a3, aN cI 4 kb), (a4, aI cI 4 zs), (a5, aI cI 4 pu), (a6, aN cI 4096 ce), (a7, aN cI 1024 pa), (a8, aN cI 1024 tr), (a9, aI cI 256 so), (a10, aN cI 6 pl), (a11, aN cI 6 ot)] H := hP
    have hD : va_D (Aa [hm, a1, a2, a3, a4, a5, a6, a7, a8, a9, a10, a11] H0.size) [(hm, .inr (4, [.int (nI 3), .ref a1, .ref a2, .ref a3, .ref a4, .ref a5, .ref a6, .ref a7, .ref a8, .ref a9, .ref a10, .ref a11])), (a1, aN cI 4 ki), (a2, aN cI 4 ka), (a3, aN cI 4 kb), (a4, aI cI 4 zs), (a5, aI cI 4 pu), (a6, aN cI 4096 ce), (a7, aN cI 1024 pa), (a8, aN cI 1024 tr), (a9, aI cI 256 so), (a10, aN cI 6 pl), (a11, aN cI 6 ot)] := hD
    refine lv_aload_n hx hb d_M_merge_170 rfl (lv_at hl 3 rfl) ?_
    refine va_get (D := D) (ci := 4) (v := .int (nI 3)) (C := R_M) (T := T_M) (N := 12) hx hb (us_M G hW) (fun _ h => h) hown hK hP 0 rfl rfl 0 (by decide) (fl_M_43 G hW) (fun _ h9 => h9) rfl d_M_merge_171 ?_
    refine lv_if_le (tgt := 179) hx hb d_M_merge_174 (by decide) (fun c_174 => absurd c_174 (by decide)) (fun c_174 => ?_)
    refine lv_iconst (v := (nI 0)) hx hb d_M_merge_177 (by decide) ?_
    exact mx_iret hx hb hr hlk d_M_merge_178 (Nat.le_of_ble_eq_true rfl) (Nat.le_of_ble_eq_true rfl) hS.2.2 (⟨rfl, ki, ka, kb, zs, pu, ce, pa, tr, so, pl, ot, hP, hpic⟩)
  · refine lv_aload_n hx hb d_M_merge_64 rfl (lv_at hl 2 rfl) ?_
    refine va_get (D := D) (ci := 4) (v := .ref a1) (C := R_M) (T := T_M) (N := 12) hx hb (us_M G hW) (fun _ h => h) hown hK hP 0 rfl rfl 1 (by decide) (fl_M_7 G hW) (fun _ h9 => h9) rfl d_M_merge_65 ?_
    refine lv_iload_n hx hb d_M_merge_68 rfl (lv_at hl 4 rfl) ?_
    refine ia_ld hx hb hK hP 1 (j := j2) rfl (hj2) (by decide) d_M_merge_69 ?_
    refine tp_i (y := (nI (ki j2))) rfl ?_
    refine tp_i (y := (nI kd2)) (by rw [q1]) ?_
    refine lv_iconst (v := (nI 3)) hx hb d_M_merge_70 (by decide) ?_
    refine lv_icmp_ne (tgt := 108) hx hb d_M_merge_71 (by decide) (fun c_71 => ?_) (fun c_71 => ?_)
    · refine lv_iconst (v := (nI 0)) hx hb d_M_merge_108 (by decide) ?_
      refine lv_istore (lv' := [(5, .int (nI 0)), (4, .int (nI 1)), (3, .int (nI 1)), (0, .ref hm), (1, .int (nI j)), (2, .int (nI j2))]) hx hb d_M_merge_109 hl (by decide) rfl (fun ls hl => ?_)
      refine lv_aload_n hx hb d_M_merge_111 rfl (lv_at hl 3 rfl) ?_
      refine lv_iload_n hx hb d_M_merge_112 rfl (lv_at hl 2 rfl) ?_
      refine lv_if_ne (tgt := 120) hx hb d_M_merge_113 (by decide) (fun c_113 => ?_) (fun c_113 => absurd c_113 (by decide))
      refine lv_iload hx hb d_M_merge_120 (lv_at hl 1 rfl) ?_
      refine lv_if_ne (tgt := 129) hx hb d_M_merge_122 (by decide) (fun c_122 => ?_) (fun c_122 => absurd c_122 (by decide))
      refine lv_iload hx hb d_M_merge_129 (lv_at hl 0 rfl) ?_
      refine lv_if_ne (tgt := 138) hx hb d_M_merge_131 (by decide) (fun c_131 => absurd (rfl) c_131) (fun c_131 => ?_)
      refine lv_iconst (v := (nI 3)) hx hb d_M_merge_134 (by decide) ?_
      refine lv_goto (tgt := 167) hx hb d_M_merge_135 (by decide) ?_
      refine va_put (D := D) (ci := 4) (v := .int (nI 3)) (ty := .int) (C := R_M) (T := T_M) (N := 12) hx hb (us_M G hW) (fun _ h => h) t_M to_M nm_M hown hK hP hD hS 0 rfl rfl 0 (by decide) (fl_M_43 G hW) (fun _ h9 => h9) rfl (by decide +kernel) rfl rfl (Nat.le_of_ble_eq_true rfl) d_M_merge_167 (fun H locs hP hD hS => ?_)
      have hP : va_P D vcl [(hm, .inr (4, [.int (nI 3), .ref a1, .ref a2, .ref a3, .ref a4, .ref a5, .ref a6, .ref a7, .ref a8, .ref a9, .ref a10, .ref a11])), (a1, aN cI 4 ki), (a2, aN cI 4 ka), (a3, aN cI 4 kb), (a4, aI cI 4 zs), (a5, aI cI 4 pu), (a6, aN cI 4096 ce), (a7, aN cI 1024 pa), (a8, aN cI 1024 tr), (a9, aI cI 256 so), (a10, aN cI 6 pl), (a11, aN cI 6 ot)] H := hP
      have hD : va_D (Aa [hm, a1, a2, a3, a4, a5, a6, a7, a8, a9, a10, a11] H0.size) [(hm, .inr (4, [.int (nI 3), .ref a1, .ref a2, .ref a3, .ref a4, .ref a5, .ref a6, .ref a7, .ref a8, .ref a9, .ref a10, .ref a11])), (a1, aN cI 4 ki), (a2, aN cI 4 ka), (a3, aN cI 4 kb), (a4, aI cI 4 zs), (a5, aI cI 4 pu), (a6, aN cI 4096 ce), (a7, aN cI 1024 pa), (a8, aN cI 1024 tr), (a9, aI cI 256 so), (a10, aN cI 6 pl), (a11, aN cI 6 ot)] := hD
      refine lv_aload_n hx hb d_M_merge_170 rfl (lv_at hl 3 rfl) ?_
      refine va_get (D := D) (ci := 4) (v := .int (nI 3)) (C := R_M) (T := T_M) (N := 12) hx hb (us_M G hW) (fun _ h => h) hown hK hP 0 rfl rfl 0 (by decide) (fl_M_43 G hW) (fun _ h9 => h9) rfl d_M_merge_171 ?_
      refine lv_if_le (tgt := 179) hx hb d_M_merge_174 (by decide) (fun c_174 => absurd c_174 (by decide)) (fun c_174 => ?_)
      refine lv_iconst (v := (nI 0)) hx hb d_M_merge_177 (by decide) ?_
      exact mx_iret hx hb hr hlk d_M_merge_178 (Nat.le_of_ble_eq_true rfl) (Nat.le_of_ble_eq_true rfl) hS.2.2 (⟨rfl, ki, ka, kb, zs, pu, ce, pa, tr, so, pl, ot, hP, hpic⟩)
    · refine lv_aload_n hx hb d_M_merge_74 rfl (lv_at hl 2 rfl) ?_
      refine va_get (D := D) (ci := 4) (v := .ref a2) (C := R_M) (T := T_M) (N := 12) hx hb (us_M G hW) (fun _ h => h) hown hK hP 0 rfl rfl 2 (by decide) (fl_M_13 G hW) (fun _ h9 => h9) rfl d_M_merge_75 ?_
      refine lv_iload_n hx hb d_M_merge_78 rfl (lv_at hl 3 rfl) ?_
      refine ia_ld hx hb hK hP 2 (j := j) rfl (hj) (by decide) d_M_merge_79 ?_
      refine tp_i (y := (nI (ka j))) rfl ?_
      refine tp_i (y := (nI A)) (by rw [p2]) ?_
      refine lv_aload_n hx hb d_M_merge_80 rfl (lv_at hl 2 rfl) ?_
      refine va_get (D := D) (ci := 4) (v := .ref a2) (C := R_M) (T := T_M) (N := 12) hx hb (us_M G hW) (fun _ h => h) hown hK hP 0 rfl rfl 2 (by decide) (fl_M_13 G hW) (fun _ h9 => h9) rfl d_M_merge_81 ?_
      refine lv_iload_n hx hb d_M_merge_84 rfl (lv_at hl 4 rfl) ?_
      refine ia_ld hx hb hK hP 2 (j := j2) rfl (hj2) (by decide) d_M_merge_85 ?_
      refine tp_i (y := (nI (ka j2))) rfl ?_
      refine tp_i (y := (nI A2)) (by rw [q2]) ?_
      refine lv_icmp_ne (tgt := 108) hx hb d_M_merge_86 (by decide) (fun c_86 => ?_) (fun c_86 => ?_)
      · refine lv_iconst (v := (nI 0)) hx hb d_M_merge_108 (by decide) ?_
        refine lv_istore (lv' := [(5, .int (nI 0)), (4, .int (nI 1)), (3, .int (nI 1)), (0, .ref hm), (1, .int (nI j)), (2, .int (nI j2))]) hx hb d_M_merge_109 hl (by decide) rfl (fun ls hl => ?_)
        refine lv_aload_n hx hb d_M_merge_111 rfl (lv_at hl 3 rfl) ?_
        refine lv_iload_n hx hb d_M_merge_112 rfl (lv_at hl 2 rfl) ?_
        refine lv_if_ne (tgt := 120) hx hb d_M_merge_113 (by decide) (fun c_113 => ?_) (fun c_113 => absurd c_113 (by decide))
        refine lv_iload hx hb d_M_merge_120 (lv_at hl 1 rfl) ?_
        refine lv_if_ne (tgt := 129) hx hb d_M_merge_122 (by decide) (fun c_122 => ?_) (fun c_122 => absurd c_122 (by decide))
        refine lv_iload hx hb d_M_merge_129 (lv_at hl 0 rfl) ?_
        refine lv_if_ne (tgt := 138) hx hb d_M_merge_131 (by decide) (fun c_131 => absurd (rfl) c_131) (fun c_131 => ?_)
        refine lv_iconst (v := (nI 3)) hx hb d_M_merge_134 (by decide) ?_
        refine lv_goto (tgt := 167) hx hb d_M_merge_135 (by decide) ?_
        refine va_put (D := D) (ci := 4) (v := .int (nI 3)) (ty := .int) (C := R_M) (T := T_M) (N := 12) hx hb (us_M G hW) (fun _ h => h) t_M to_M nm_M hown hK hP hD hS 0 rfl rfl 0 (by decide) (fl_M_43 G hW) (fun _ h9 => h9) rfl (by decide +kernel) rfl rfl (Nat.le_of_ble_eq_true rfl) d_M_merge_167 (fun H locs hP hD hS => ?_)
        have hP : va_P D vcl [(hm, .inr (4, [.int (nI 3), .ref a1, .ref a2, .ref a3, .ref a4, .ref a5, .ref a6, .ref a7, .ref a8, .ref a9, .ref a10, .ref a11])), (a1, aN cI 4 ki), (a2, aN cI 4 ka), (a3, aN cI 4 kb), (a4, aI cI 4 zs), (a5, aI cI 4 pu), (a6, aN cI 4096 ce), (a7, aN cI 1024 pa), (a8, aN cI 1024 tr), (a9, aI cI 256 so), (a10, aN cI 6 pl), (a11, aN cI 6 ot)] H := hP
        have hD : va_D (Aa [hm, a1, a2, a3, a4, a5, a6, a7, a8, a9, a10, a11] H0.size) [(hm, .inr (4, [.int (nI 3), .ref a1, .ref a2, .ref a3, .ref a4, .ref a5, .ref a6, .ref a7, .ref a8, .ref a9, .ref a10, .ref a11])), (a1, aN cI 4 ki), (a2, aN cI 4 ka), (a3, aN cI 4 kb), (a4, aI cI 4 zs), (a5, aI cI 4 pu), (a6, aN cI 4096 ce), (a7, aN cI 1024 pa), (a8, aN cI 1024 tr), (a9, aI cI 256 so), (a10, aN cI 6 pl), (a11, aN cI 6 ot)] := hD
        refine lv_aload_n hx hb d_M_merge_170 rfl (lv_at hl 3 rfl) ?_
        refine va_get (D := D) (ci := 4) (v := .int (nI 3)) (C := R_M) (T := T_M) (N := 12) hx hb (us_M G hW) (fun _ h => h) hown hK hP 0 rfl rfl 0 (by decide) (fl_M_43 G hW) (fun _ h9 => h9) rfl d_M_merge_171 ?_
        refine lv_if_le (tgt := 179) hx hb d_M_merge_174 (by decide) (fun c_174 => absurd c_174 (by decide)) (fun c_174 => ?_)
        refine lv_iconst (v := (nI 0)) hx hb d_M_merge_177 (by decide) ?_
        exact mx_iret hx hb hr hlk d_M_merge_178 (Nat.le_of_ble_eq_true rfl) (Nat.le_of_ble_eq_true rfl) hS.2.2 (⟨rfl, ki, ka, kb, zs, pu, ce, pa, tr, so, pl, ot, hP, hpic⟩)
      · refine lv_aload_n hx hb d_M_merge_89 rfl (lv_at hl 2 rfl) ?_
        refine va_get (D := D) (ci := 4) (v := .ref a3) (C := R_M) (T := T_M) (N := 12) hx hb (us_M G hW) (fun _ h => h) hown hK hP 0 rfl rfl 3 (by decide) (fl_M_16 G hW) (fun _ h9 => h9) rfl d_M_merge_90 ?_
        refine lv_iload_n hx hb d_M_merge_93 rfl (lv_at hl 3 rfl) ?_
        refine ia_ld hx hb hK hP 3 (j := j) rfl (hj) (by decide) d_M_merge_94 ?_
        refine tp_i (y := (nI (kb j))) rfl ?_
        refine tp_i (y := (nI B)) (by rw [p3]) ?_
        refine lv_aload_n hx hb d_M_merge_95 rfl (lv_at hl 2 rfl) ?_
        refine va_get (D := D) (ci := 4) (v := .ref a3) (C := R_M) (T := T_M) (N := 12) hx hb (us_M G hW) (fun _ h => h) hown hK hP 0 rfl rfl 3 (by decide) (fl_M_16 G hW) (fun _ h9 => h9) rfl d_M_merge_96 ?_
        refine lv_iload_n hx hb d_M_merge_99 rfl (lv_at hl 4 rfl) ?_
        refine ia_ld hx hb hK hP 3 (j := j2) rfl (hj2) (by decide) d_M_merge_100 ?_
        refine tp_i (y := (nI (kb j2))) rfl ?_
        refine tp_i (y := (nI B2)) (by rw [q3]) ?_
        refine lv_icmp_ne (tgt := 108) hx hb d_M_merge_101 (by decide) (fun c_101 => ?_) (fun c_101 => absurd c_101 (fun h9 => hne ⟨(nI_eq (by omega) (by omega)).mp c_61, (nI_eq (by omega) (by omega)).mp c_71, (nI_eq (by omega) (by omega)).mp c_86, (nI_eq (by omega) (by omega)).mp h9⟩))
        refine lv_iconst (v := (nI 0)) hx hb d_M_merge_108 (by decide) ?_
        refine lv_istore (lv' := [(5, .int (nI 0)), (4, .int (nI 1)), (3, .int (nI 1)), (0, .ref hm), (1, .int (nI j)), (2, .int (nI j2))]) hx hb d_M_merge_109 hl (by decide) rfl (fun ls hl => ?_)
        refine lv_aload_n hx hb d_M_merge_111 rfl (lv_at hl 3 rfl) ?_
        refine lv_iload_n hx hb d_M_merge_112 rfl (lv_at hl 2 rfl) ?_
        refine lv_if_ne (tgt := 120) hx hb d_M_merge_113 (by decide) (fun c_113 => ?_) (fun c_113 => absurd c_113 (by decide))
        refine lv_iload hx hb d_M_merge_120 (lv_at hl 1 rfl) ?_
        refine lv_if_ne (tgt := 129) hx hb d_M_merge_122 (by decide) (fun c_122 => ?_) (fun c_122 => absurd c_122 (by decide))
        refine lv_iload hx hb d_M_merge_129 (lv_at hl 0 rfl) ?_
        refine lv_if_ne (tgt := 138) hx hb d_M_merge_131 (by decide) (fun c_131 => absurd (rfl) c_131) (fun c_131 => ?_)
        refine lv_iconst (v := (nI 3)) hx hb d_M_merge_134 (by decide) ?_
        refine lv_goto (tgt := 167) hx hb d_M_merge_135 (by decide) ?_
        refine va_put (D := D) (ci := 4) (v := .int (nI 3)) (ty := .int) (C := R_M) (T := T_M) (N := 12) hx hb (us_M G hW) (fun _ h => h) t_M to_M nm_M hown hK hP hD hS 0 rfl rfl 0 (by decide) (fl_M_43 G hW) (fun _ h9 => h9) rfl (by decide +kernel) rfl rfl (Nat.le_of_ble_eq_true rfl) d_M_merge_167 (fun H locs hP hD hS => ?_)
        have hP : va_P D vcl [(hm, .inr (4, [.int (nI 3), .ref a1, .ref a2, .ref a3, .ref a4, .ref a5, .ref a6, .ref a7, .ref a8, .ref a9, .ref a10, .ref a11])), (a1, aN cI 4 ki), (a2, aN cI 4 ka), (a3, aN cI 4 kb), (a4, aI cI 4 zs), (a5, aI cI 4 pu), (a6, aN cI 4096 ce), (a7, aN cI 1024 pa), (a8, aN cI 1024 tr), (a9, aI cI 256 so), (a10, aN cI 6 pl), (a11, aN cI 6 ot)] H := hP
        have hD : va_D (Aa [hm, a1, a2, a3, a4, a5, a6, a7, a8, a9, a10, a11] H0.size) [(hm, .inr (4, [.int (nI 3), .ref a1, .ref a2, .ref a3, .ref a4, .ref a5, .ref a6, .ref a7, .ref a8, .ref a9, .ref a10, .ref a11])), (a1, aN cI 4 ki), (a2, aN cI 4 ka), (a3, aN cI 4 kb), (a4, aI cI 4 zs), (a5, aI cI 4 pu), (a6, aN cI 4096 ce), (a7, aN cI 1024 pa), (a8, aN cI 1024 tr), (a9, aI cI 256 so), (a10, aN cI 6 pl), (a11, aN cI 6 ot)] := hD
        refine lv_aload_n hx hb d_M_merge_170 rfl (lv_at hl 3 rfl) ?_
        refine va_get (D := D) (ci := 4) (v := .int (nI 3)) (C := R_M) (T := T_M) (N := 12) hx hb (us_M G hW) (fun _ h => h) hown hK hP 0 rfl rfl 0 (by decide) (fl_M_43 G hW) (fun _ h9 => h9) rfl d_M_merge_171 ?_
        refine lv_if_le (tgt := 179) hx hb d_M_merge_174 (by decide) (fun c_174 => absurd c_174 (by decide)) (fun c_174 => ?_)
        refine lv_iconst (v := (nI 0)) hx hb d_M_merge_177 (by decide) ?_
        exact mx_iret hx hb hr hlk d_M_merge_178 (Nat.le_of_ble_eq_true rfl) (Nat.le_of_ble_eq_true rfl) hS.2.2 (⟨rfl, ki, ka, kb, zs, pu, ce, pa, tr, so, pl, ot, hP, hpic⟩)

set_option maxHeartbeats 4000000 in
set_option maxRecDepth 100000 in
theorem c_M_merge_full {l : Launch} {s0 : State} {D : va_G} {cI cF cJ : ClassId} (G : Gx l s0 D cI cF cJ) (hm a1 a2 a3 a4 a5 a6 a7 a8 a9 a10 a11 : Nat) (th : Int32) (S : Nat → FS) (j j2 A B n n2 : Nat) (hd pv hd2 pv2 : Int32) (cs f cs2 g : Nat → Nat) {H0 : Heap} {A0 : Nat → Prop} (hM : MP D cI hm a1 a2 a3 a4 a5 a6 a7 a8 a9 a10 a11 th S H0) (hD : va_D A0 (adM hm a1 a2 a3 a4 a5 a6 a7 a8 a9 a10 a11)) (hok : ∀ i, i < 4 → okS (S i)) (hj : j < 4) (hj2 : j2 < 4) (hSj : S j = (3, A, B, hd, pv, cs, n, f)) (hSj2 : S j2 = (3, A, B, hd2, pv2, cs2, n2, g)) (hfl : ¬ n + n2 ≤ 2 ^ A) : Mx l s0 y_M_merge (.code y_M_merge b_M_merge 9 (some .int)) { frames := 7, cells := 0, slots := 0, locals := 170 } [.ref hm, .int (nI j), .int (nI j2)] H0 (Aa [hm, a1, a2, a3, a4, a5, a6, a7, a8, a9, a10, a11] H0.size) (Rw (.int (nI 0)) (fun H1 => MP D cI hm a1 a2 a3 a4 a5 a6 a7 a8 a9 a10 a11 (nI 4) S H1)) := by
  refine Mx.ofW (own := "FewBitsModel") rfl rfl ?_
  rintro p e s m below meth c ⟨hx, hb, hml, hr, hown, hW, hlk⟩ hnm het hH
  have hK := G.k hW
  have hD0 := hD
  obtain ⟨ki, ka, kb, zs, pu, ce, pa, tr, so, pl, ot, hP, hpic⟩ := hM
  have hD : va_D (Aa [hm, a1, a2, a3, a4, a5, a6, a7, a8, a9, a10, a11] H0.size) [(hm, .inr (4, [.int th, .ref a1, .ref a2, .ref a3, .ref a4, .ref a5, .ref a6, .ref a7, .ref a8, .ref a9, .ref a10, .ref a11])), (a1, aN cI 4 ki), (a2, aN cI 4 ka), (a3, aN cI 4 kb), (a4, aI cI 4 zs), (a5, aI cI 4 pu), (a6, aN cI 4096 ce), (a7, aN cI 1024 pa), (a8, aN cI 1024 tr), (a9, aI cI 256 so), (a10, aN cI 6 pl), (a11, aN cI 6 ot)] := va_D.same2 [hm, a1, a2, a3, a4, a5, a6, a7, a8, a9, a10, a11] (hD.aa (sz := H0.size)) rfl rfl
  have hS : va_S (Aa [hm, a1, a2, a3, a4, a5, a6, a7, a8, a9, a10, a11] H0.size) H0 H0 [] := va_S.rf
  have hpj := hpic j hj
  rw [hSj] at hpj
  obtain ⟨p1, p2, p3, p4, p5, p6⟩ := hpj.f3
  have hoj := hok j hj
  rw [hSj] at hoj
  have hq := (okS_3.mp hoj).1
  have p4n : zs j = nI n := by rw [p4, (okS_3.mp hoj).2]
  have hqA : A ≤ 8 := hq.2.1
  have hqB : B ≤ 20 := hq.2.2.2.1
  have hpj2 := hpic j2 hj2
  rw [hSj2] at hpj2
  obtain ⟨q1, q2, q3, q4, q5, q6⟩ := hpj2.f3
  have hoj2 := hok j2 hj2
  rw [hSj2] at hoj2
  have hr9 := (okS_3.mp hoj2).1
  have q4n : zs j2 = nI n2 := by rw [q4, (okS_3.mp hoj2).2]
  have h8 := p2_le hqA
  have hnn := hq.2.2.2.2.1
  have hnn2 := hr9.2.2.2.2.1
  have hl := lv_entry ([.ref hm, .int (nI j), .int (nI j2)]) (n := 9) (Nat.le_of_ble_eq_true rfl)
  rw [lg_entry_eq]
  generalize (lg_sl ([.ref hm, .int (nI j), .int (nI j2)]) ++ List.replicate (9 - (lg_sl ([.ref hm, .int (nI j), .int (nI j2)])).length) Slot.unset).toArray = ls at hl ⊢
  have hl : lv_has ls 9 [(0, .ref hm), (1, .int (nI j)), (2, .int (nI j2))] := hl
  refine lv_iload_n hx hb d_M_merge_0 rfl (lv_at hl 1 rfl) ?_
  refine mx_callR (r := .int (bI (isNum (nI j)))) (c_M_isNumber G (nI j)) hW (iv_M_merge_1 G hx hb hown hW [.int (nI j)] [] rfl) hml hl.1 (by rw [hb]; exact d_M_merge_1) (cd_M_isNumber G hW) ⟨Nat.le_of_ble_eq_true rfl, Nat.le_of_ble_eq_true rfl⟩ rfl rfl (Nat.le_of_ble_eq_true rfl) (Nat.le_of_ble_eq_true rfl) (Nat.le_of_ble_eq_true rfl) ?_
  refine tp_i (y := (bI true)) (by rw [isNum_nI hj]) ?_
  refine lv_if_eq (tgt := 18) hx hb d_M_merge_4 (by decide) (fun c_4 => absurd c_4 (by decide)) (fun c_4 => ?_)
  refine lv_iload_n hx hb d_M_merge_7 rfl (lv_at hl 2 rfl) ?_
  refine mx_callR (r := .int (bI (isNum (nI j2)))) (c_M_isNumber G (nI j2)) hW (iv_M_merge_8 G hx hb hown hW [.int (nI j2)] [] rfl) hml hl.1 (by rw [hb]; exact d_M_merge_8) (cd_M_isNumber G hW) ⟨Nat.le_of_ble_eq_true rfl, Nat.le_of_ble_eq_true rfl⟩ rfl rfl (Nat.le_of_ble_eq_true rfl) (Nat.le_of_ble_eq_true rfl) (Nat.le_of_ble_eq_true rfl) ?_
  refine tp_i (y := (bI true)) (by rw [isNum_nI hj2]) ?_
  refine lv_if_eq (tgt := 18) hx hb d_M_merge_11 (by decide) (fun c_11 => absurd c_11 (by decide)) (fun c_11 => ?_)
  refine lv_iconst (v := (nI 1)) hx hb d_M_merge_14 (by decide) ?_
  refine lv_goto (tgt := 19) hx hb d_M_merge_15 (by decide) ?_
  refine lv_istore_n (lv' := [(3, .int (nI 1)), (0, .ref hm), (1, .int (nI j)), (2, .int (nI j2))]) hx hb d_M_merge_19 rfl hl (by decide) rfl (fun ls hl => ?_)
  refine lv_iload_n hx hb d_M_merge_20 rfl (lv_at hl 0 rfl) ?_
  refine lv_if_eq (tgt := 46) hx hb d_M_merge_21 (by decide) (fun c_21 => absurd c_21 (by decide)) (fun c_21 => ?_)
  refine lv_aload_n hx hb d_M_merge_24 rfl (lv_at hl 1 rfl) ?_
  refine va_get (D := D) (ci := 4) (v := .ref a1) (C := R_M) (T := T_M) (N := 12) hx hb (us_M G hW) (fun _ h => h) hown hK hP 0 rfl rfl 1 (by decide) (fl_M_7 G hW) (fun _ h9 => h9) rfl d_M_merge_25 ?_
  refine lv_iload_n hx hb d_M_merge_28 rfl (lv_at hl 2 rfl) ?_
  refine ia_ld hx hb hK hP 1 (j := j) rfl (hj) (by decide) d_M_merge_29 ?_
  refine tp_i (y := (nI (ki j))) rfl ?_
  refine tp_i (y := (nI 3)) (by rw [p1]) ?_
  refine lv_if_le (tgt := 46) hx hb d_M_merge_30 (by decide) (fun c_30 => absurd c_30 (by decide)) (fun c_30 => ?_)
  refine lv_aload_n hx hb d_M_merge_33 rfl (lv_at hl 1 rfl) ?_
  refine va_get (D := D) (ci := 4) (v := .ref a1) (C := R_M) (T := T_M) (N := 12) hx hb (us_M G hW) (fun _ h => h) hown hK hP 0 rfl rfl 1 (by decide) (fl_M_7 G hW) (fun _ h9 => h9) rfl d_M_merge_34 ?_
  refine lv_iload_n hx hb d_M_merge_37 rfl (lv_at hl 3 rfl) ?_
  refine ia_ld hx hb hK hP 1 (j := j2) rfl (hj2) (by decide) d_M_merge_38 ?_
  refine tp_i (y := (nI (ki j2))) rfl ?_
  refine tp_i (y := (nI 3)) (by rw [q1]) ?_
  refine lv_if_le (tgt := 46) hx hb d_M_merge_39 (by decide) (fun c_39 => absurd c_39 (by decide)) (fun c_39 => ?_)
  refine lv_iconst (v := (nI 1)) hx hb d_M_merge_42 (by decide) ?_
  refine lv_goto (tgt := 47) hx hb d_M_merge_43 (by decide) ?_
  refine lv_istore (lv' := [(4, .int (nI 1)), (3, .int (nI 1)), (0, .ref hm), (1, .int (nI j)), (2, .int (nI j2))]) hx hb d_M_merge_47 hl (by decide) rfl (fun ls hl => ?_)
  refine lv_iload hx hb d_M_merge_49 (lv_at hl 0 rfl) ?_
  refine lv_if_eq (tgt := 108) hx hb d_M_merge_51 (by decide) (fun c_51 => absurd c_51 (by decide)) (fun c_51 => ?_)
  refine lv_aload_n hx hb d_M_merge_54 rfl (lv_at hl 2 rfl) ?_
  refine va_get (D := D) (ci := 4) (v := .ref a1) (C := R_M) (T := T_M) (N := 12) hx hb (us_M G hW) (fun _ h => h) hown hK hP 0 rfl rfl 1 (by decide) (fl_M_7 G hW) (fun _ h9 => h9) rfl d_M_merge_55 ?_
  refine lv_iload_n hx hb d_M_merge_58 rfl (lv_at hl 3 rfl) ?_
  refine ia_ld hx hb hK hP 1 (j := j) rfl (hj) (by decide) d_M_merge_59 ?_
  refine tp_i (y := (nI (ki j))) rfl ?_
  refine tp_i (y := (nI 3)) (by rw [p1]) ?_
  refine lv_iconst (v := (nI 3)) hx hb d_M_merge_60 (by decide) ?_
  refine lv_icmp_ne (tgt := 108) hx hb d_M_merge_61 (by decide) (fun c_61 => absurd (rfl) c_61) (fun c_61 => ?_)
  refine lv_aload_n hx hb d_M_merge_64 rfl (lv_at hl 2 rfl) ?_
  refine va_get (D := D) (ci := 4) (v := .ref a1) (C := R_M) (T := T_M) (N := 12) hx hb (us_M G hW) (fun _ h => h) hown hK hP 0 rfl rfl 1 (by decide) (fl_M_7 G hW) (fun _ h9 => h9) rfl d_M_merge_65 ?_
  refine lv_iload_n hx hb d_M_merge_68 rfl (lv_at hl 4 rfl) ?_
  refine ia_ld hx hb hK hP 1 (j := j2) rfl (hj2) (by decide) d_M_merge_69 ?_
  refine tp_i (y := (nI (ki j2))) rfl ?_
  refine tp_i (y := (nI 3)) (by rw [q1]) ?_
  refine lv_iconst (v := (nI 3)) hx hb d_M_merge_70 (by decide) ?_
  refine lv_icmp_ne (tgt := 108) hx hb d_M_merge_71 (by decide) (fun c_71 => absurd (rfl) c_71) (fun c_71 => ?_)
  refine lv_aload_n hx hb d_M_merge_74 rfl (lv_at hl 2 rfl) ?_
  refine va_get (D := D) (ci := 4) (v := .ref a2) (C := R_M) (T := T_M) (N := 12) hx hb (us_M G hW) (fun _ h => h) hown hK hP 0 rfl rfl 2 (by decide) (fl_M_13 G hW) (fun _ h9 => h9) rfl d_M_merge_75 ?_
  refine lv_iload_n hx hb d_M_merge_78 rfl (lv_at hl 3 rfl) ?_
  refine ia_ld hx hb hK hP 2 (j := j) rfl (hj) (by decide) d_M_merge_79 ?_
  refine tp_i (y := (nI (ka j))) rfl ?_
  refine tp_i (y := (nI A)) (by rw [p2]) ?_
  refine lv_aload_n hx hb d_M_merge_80 rfl (lv_at hl 2 rfl) ?_
  refine va_get (D := D) (ci := 4) (v := .ref a2) (C := R_M) (T := T_M) (N := 12) hx hb (us_M G hW) (fun _ h => h) hown hK hP 0 rfl rfl 2 (by decide) (fl_M_13 G hW) (fun _ h9 => h9) rfl d_M_merge_81 ?_
  refine lv_iload_n hx hb d_M_merge_84 rfl (lv_at hl 4 rfl) ?_
  refine ia_ld hx hb hK hP 2 (j := j2) rfl (hj2) (by decide) d_M_merge_85 ?_
  refine tp_i (y := (nI (ka j2))) rfl ?_
  refine tp_i (y := (nI A)) (by rw [q2]) ?_
  refine lv_icmp_ne (tgt := 108) hx hb d_M_merge_86 (by decide) (fun c_86 => absurd (rfl) c_86) (fun c_86 => ?_)
  refine lv_aload_n hx hb d_M_merge_89 rfl (lv_at hl 2 rfl) ?_
  refine va_get (D := D) (ci := 4) (v := .ref a3) (C := R_M) (T := T_M) (N := 12) hx hb (us_M G hW) (fun _ h => h) hown hK hP 0 rfl rfl 3 (by decide) (fl_M_16 G hW) (fun _ h9 => h9) rfl d_M_merge_90 ?_
  refine lv_iload_n hx hb d_M_merge_93 rfl (lv_at hl 3 rfl) ?_
  refine ia_ld hx hb hK hP 3 (j := j) rfl (hj) (by decide) d_M_merge_94 ?_
  refine tp_i (y := (nI (kb j))) rfl ?_
  refine tp_i (y := (nI B)) (by rw [p3]) ?_
  refine lv_aload_n hx hb d_M_merge_95 rfl (lv_at hl 2 rfl) ?_
  refine va_get (D := D) (ci := 4) (v := .ref a3) (C := R_M) (T := T_M) (N := 12) hx hb (us_M G hW) (fun _ h => h) hown hK hP 0 rfl rfl 3 (by decide) (fl_M_16 G hW) (fun _ h9 => h9) rfl d_M_merge_96 ?_
  refine lv_iload_n hx hb d_M_merge_99 rfl (lv_at hl 4 rfl) ?_
  refine ia_ld hx hb hK hP 3 (j := j2) rfl (hj2) (by decide) d_M_merge_100 ?_
  refine tp_i (y := (nI (kb j2))) rfl ?_
  refine tp_i (y := (nI B)) (by rw [q3]) ?_
  refine lv_icmp_ne (tgt := 108) hx hb d_M_merge_101 (by decide) (fun c_101 => absurd (rfl) c_101) (fun c_101 => ?_)
  refine lv_iconst (v := (nI 1)) hx hb d_M_merge_104 (by decide) ?_
  refine lv_goto (tgt := 109) hx hb d_M_merge_105 (by decide) ?_
  refine lv_istore (lv' := [(5, .int (nI 1)), (4, .int (nI 1)), (3, .int (nI 1)), (0, .ref hm), (1, .int (nI j)), (2, .int (nI j2))]) hx hb d_M_merge_109 hl (by decide) rfl (fun ls hl => ?_)
  refine lv_aload_n hx hb d_M_merge_111 rfl (lv_at hl 3 rfl) ?_
  refine lv_iload_n hx hb d_M_merge_112 rfl (lv_at hl 2 rfl) ?_
  refine lv_if_ne (tgt := 120) hx hb d_M_merge_113 (by decide) (fun c_113 => ?_) (fun c_113 => absurd c_113 (by decide))
  refine lv_iload hx hb d_M_merge_120 (lv_at hl 1 rfl) ?_
  refine lv_if_ne (tgt := 129) hx hb d_M_merge_122 (by decide) (fun c_122 => ?_) (fun c_122 => absurd c_122 (by decide))
  refine lv_iload hx hb d_M_merge_129 (lv_at hl 0 rfl) ?_
  refine lv_if_ne (tgt := 138) hx hb d_M_merge_131 (by decide) (fun c_131 => ?_) (fun c_131 => absurd c_131 (by decide))
  refine lv_aload_n hx hb d_M_merge_138 rfl (lv_at hl 3 rfl) ?_
  refine va_get (D := D) (ci := 4) (v := .ref a4) (C := R_M) (T := T_M) (N := 12) hx hb (us_M G hW) (fun _ h => h) hown hK hP 0 rfl rfl 4 (by decide) (fl_M_19 G hW) (fun _ h9 => h9) rfl d_M_merge_139 ?_
  refine lv_iload_n hx hb d_M_merge_142 rfl (lv_at hl 4 rfl) ?_
  refine ia_ld hx hb hK hP 4 (j := j) rfl (hj) (by decide) d_M_merge_143 ?_
  refine tp_i (y := (nI n)) (p4n) ?_
  refine lv_aload_n hx hb d_M_merge_144 rfl (lv_at hl 3 rfl) ?_
  refine va_get (D := D) (ci := 4) (v := .ref a4) (C := R_M) (T := T_M) (N := 12) hx hb (us_M G hW) (fun _ h => h) hown hK hP 0 rfl rfl 4 (by decide) (fl_M_19 G hW) (fun _ h9 => h9) rfl d_M_merge_145 ?_
  refine lv_iload_n hx hb d_M_merge_148 rfl (lv_at hl 5 rfl) ?_
  refine ia_ld hx hb hK hP 4 (j := j2) rfl (hj2) (by decide) d_M_merge_149 ?_
  refine tp_i (y := (nI n2)) (q4n) ?_
  refine lv_iadd hx hb d_M_merge_150 ?_
  refine tp_i (y := (nI (n + n2))) (nI_add _ _) ?_
  refine lv_iconst (v := (nI 1)) hx hb d_M_merge_151 (by decide) ?_
  refine lv_aload_n hx hb d_M_merge_152 rfl (lv_at hl 3 rfl) ?_
  refine va_get (D := D) (ci := 4) (v := .ref a2) (C := R_M) (T := T_M) (N := 12) hx hb (us_M G hW) (fun _ h => h) hown hK hP 0 rfl rfl 2 (by decide) (fl_M_13 G hW) (fun _ h9 => h9) rfl d_M_merge_153 ?_
  refine lv_iload_n hx hb d_M_merge_156 rfl (lv_at hl 4 rfl) ?_
  refine ia_ld hx hb hK hP 2 (j := j) rfl (hj) (by decide) d_M_merge_157 ?_
  refine tp_i (y := (nI (ka j))) rfl ?_
  refine tp_i (y := (nI A)) (by rw [p2]) ?_
  refine lv_ishl hx hb d_M_merge_158 ?_
  refine tp_i (y := (nI (2 ^ A))) (pw_shl A (by omega)) ?_
  refine lv_icmp_le (tgt := 166) hx hb d_M_merge_159 (by decide) (fun c_159 => absurd c_159 (nI_gt (by omega) (by omega))) (fun c_159 => ?_)
  refine lv_iconst (v := (nI 4)) hx hb d_M_merge_162 (by decide) ?_
  refine lv_goto (tgt := 167) hx hb d_M_merge_163 (by decide) ?_
  refine va_put (D := D) (ci := 4) (v := .int (nI 4)) (ty := .int) (C := R_M) (T := T_M) (N := 12) hx hb (us_M G hW) (fun _ h => h) t_M to_M nm_M hown hK hP hD hS 0 rfl rfl 0 (by decide) (fl_M_43 G hW) (fun _ h9 => h9) rfl (by decide +kernel) rfl rfl (Nat.le_of_ble_eq_true rfl) d_M_merge_167 (fun H locs hP hD hS => ?_)
  have hP : va_P D vcl [(hm, .inr (4, [.int (nI 4), .ref a1, .ref a2, .ref a3, .ref a4, .ref a5, .ref a6, .ref a7, .ref a8, .ref a9, .ref a10, .ref a11])), (a1, aN cI 4 ki), (a2, aN cI 4 ka), (a3, aN cI 4 kb), (a4, aI cI 4 zs), (a5, aI cI 4 pu), (a6, aN cI 4096 ce), (a7, aN cI 1024 pa), (a8, aN cI 1024 tr), (a9, aI cI 256 so), (a10, aN cI 6 pl), (a11, aN cI 6 ot)] H := hP
  have hD : va_D (Aa [hm, a1, a2, a3, a4, a5, a6, a7, a8, a9, a10, a11] H0.size) [(hm, .inr (4, [.int (nI 4), .ref a1, .ref a2, .ref a3, .ref a4, .ref a5, .ref a6, .ref a7, .ref a8, .ref a9, .ref a10, .ref a11])), (a1, aN cI 4 ki), (a2, aN cI 4 ka), (a3, aN cI 4 kb), (a4, aI cI 4 zs), (a5, aI cI 4 pu), (a6, aN cI 4096 ce), (a7, aN cI 1024 pa), (a8, aN cI 1024 tr), (a9, aI cI 256 so), (a10, aN cI 6 pl), (a11, aN cI 6 ot)] := hD
  refine lv_aload_n hx hb d_M_merge_170 rfl (lv_at hl 3 rfl) ?_
  refine va_get (D := D) (ci := 4) (v := .int (nI 4)) (C := R_M) (T := T_M) (N := 12) hx hb (us_M G hW) (fun _ h => h) hown hK hP 0 rfl rfl 0 (by decide) (fl_M_43 G hW) (fun _ h9 => h9) rfl d_M_merge_171 ?_
  refine lv_if_le (tgt := 179) hx hb d_M_merge_174 (by decide) (fun c_174 => absurd c_174 (by decide)) (fun c_174 => ?_)
  refine lv_iconst (v := (nI 0)) hx hb d_M_merge_177 (by decide) ?_
  exact mx_iret hx hb hr hlk d_M_merge_178 (Nat.le_of_ble_eq_true rfl) (Nat.le_of_ble_eq_true rfl) hS.2.2 (⟨rfl, ki, ka, kb, zs, pu, ce, pa, tr, so, pl, ot, hP, hpic⟩)

set_option maxHeartbeats 4000000 in
set_option maxRecDepth 100000 in
theorem c_M_merge_o {l : Launch} {s0 : State} {D : va_G} {cI cF cJ : ClassId} (G : Gx l s0 D cI cF cJ) (hm a1 a2 a3 a4 a5 a6 a7 a8 a9 a10 a11 : Nat) (th : Int32) (S : Nat → FS) (j j2 A B n n2 : Nat) (hd pv hd2 pv2 : Int32) (cs f cs2 g : Nat → Nat) {H0 : Heap} {A0 : Nat → Prop} (hM : MP D cI hm a1 a2 a3 a4 a5 a6 a7 a8 a9 a10 a11 th S H0) (hD : va_D A0 (adM hm a1 a2 a3 a4 a5 a6 a7 a8 a9 a10 a11)) (hok : ∀ i, i < 4 → okS (S i)) (hj : j < 4) (hj2 : j2 < 4) (hSj : S j = (3, A, B, hd, pv, cs, n, f)) (hSj2 : S j2 = (3, A, B, hd2, pv2, cs2, n2, g)) (hne : j ≠ j2) (hfl : n + n2 ≤ 2 ^ A) : Mx l s0 y_M_merge (.code y_M_merge b_M_merge 9 (some .int)) { frames := 7, cells := 0, slots := 0, locals := 170 } [.ref hm, .int (nI j), .int (nI j2)] H0 (Aa [hm, a1, a2, a3, a4, a5, a6, a7, a8, a9, a10, a11] H0.size) (Rw (.int (nI (n + n2))) (fun H1 => MP D cI hm a1 a2 a3 a4 a5 a6 a7 a8 a9 a10 a11 (nI 0) (va_up S j (3, A, B, nI (n + n2), pv, cs, n + n2, mrg g (n + n2) n n2 f)) H1)) := by
  refine Mx.ofW (own := "FewBitsModel") rfl rfl ?_
  rintro p e s m below meth c ⟨hx, hb, hml, hr, hown, hW, hlk⟩ hnm het hH
  have hK := G.k hW
  have hD0 := hD
  obtain ⟨ki, ka, kb, zs, pu, ce, pa, tr, so, pl, ot, hP, hpic⟩ := hM
  have hD : va_D (Aa [hm, a1, a2, a3, a4, a5, a6, a7, a8, a9, a10, a11] H0.size) [(hm, .inr (4, [.int th, .ref a1, .ref a2, .ref a3, .ref a4, .ref a5, .ref a6, .ref a7, .ref a8, .ref a9, .ref a10, .ref a11])), (a1, aN cI 4 ki), (a2, aN cI 4 ka), (a3, aN cI 4 kb), (a4, aI cI 4 zs), (a5, aI cI 4 pu), (a6, aN cI 4096 ce), (a7, aN cI 1024 pa), (a8, aN cI 1024 tr), (a9, aI cI 256 so), (a10, aN cI 6 pl), (a11, aN cI 6 ot)] := va_D.same2 [hm, a1, a2, a3, a4, a5, a6, a7, a8, a9, a10, a11] (hD.aa (sz := H0.size)) rfl rfl
  have hS : va_S (Aa [hm, a1, a2, a3, a4, a5, a6, a7, a8, a9, a10, a11] H0.size) H0 H0 [] := va_S.rf
  have hpj := hpic j hj
  rw [hSj] at hpj
  obtain ⟨p1, p2, p3, p4, p5, p6⟩ := hpj.f3
  have hoj := hok j hj
  rw [hSj] at hoj
  have hq := (okS_3.mp hoj).1
  have p4n : zs j = nI n := by rw [p4, (okS_3.mp hoj).2]
  have hqA : A ≤ 8 := hq.2.1
  have hqB : B ≤ 20 := hq.2.2.2.1
  have hpj2 := hpic j2 hj2
  rw [hSj2] at hpj2
  obtain ⟨q1, q2, q3, q4, q5, q6⟩ := hpj2.f3
  have hoj2 := hok j2 hj2
  rw [hSj2] at hoj2
  have hr9 := (okS_3.mp hoj2).1
  have q4n : zs j2 = nI n2 := by rw [q4, (okS_3.mp hoj2).2]
  have h8 := p2_le hqA
  have hnn := hq.2.2.2.2.1
  have hnn2 := hr9.2.2.2.2.1
  have hsr := hq.2.2.2.2.2.1
  have hl := lv_entry ([.ref hm, .int (nI j), .int (nI j2)]) (n := 9) (Nat.le_of_ble_eq_true rfl)
  rw [lg_entry_eq]
  generalize (lg_sl ([.ref hm, .int (nI j), .int (nI j2)]) ++ List.replicate (9 - (lg_sl ([.ref hm, .int (nI j), .int (nI j2)])).length) Slot.unset).toArray = ls at hl ⊢
  have hl : lv_has ls 9 [(0, .ref hm), (1, .int (nI j)), (2, .int (nI j2))] := hl
  refine lv_iload_n hx hb d_M_merge_0 rfl (lv_at hl 1 rfl) ?_
  refine mx_callR (r := .int (bI (isNum (nI j)))) (c_M_isNumber G (nI j)) hW (iv_M_merge_1 G hx hb hown hW [.int (nI j)] [] rfl) hml hl.1 (by rw [hb]; exact d_M_merge_1) (cd_M_isNumber G hW) ⟨Nat.le_of_ble_eq_true rfl, Nat.le_of_ble_eq_true rfl⟩ rfl rfl (Nat.le_of_ble_eq_true rfl) (Nat.le_of_ble_eq_true rfl) (Nat.le_of_ble_eq_true rfl) ?_
  refine tp_i (y := (bI true)) (by rw [isNum_nI hj]) ?_
  refine lv_if_eq (tgt := 18) hx hb d_M_merge_4 (by decide) (fun c_4 => absurd c_4 (by decide)) (fun c_4 => ?_)
  refine lv_iload_n hx hb d_M_merge_7 rfl (lv_at hl 2 rfl) ?_
  refine mx_callR (r := .int (bI (isNum (nI j2)))) (c_M_isNumber G (nI j2)) hW (iv_M_merge_8 G hx hb hown hW [.int (nI j2)] [] rfl) hml hl.1 (by rw [hb]; exact d_M_merge_8) (cd_M_isNumber G hW) ⟨Nat.le_of_ble_eq_true rfl, Nat.le_of_ble_eq_true rfl⟩ rfl rfl (Nat.le_of_ble_eq_true rfl) (Nat.le_of_ble_eq_true rfl) (Nat.le_of_ble_eq_true rfl) ?_
  refine tp_i (y := (bI true)) (by rw [isNum_nI hj2]) ?_
  refine lv_if_eq (tgt := 18) hx hb d_M_merge_11 (by decide) (fun c_11 => absurd c_11 (by decide)) (fun c_11 => ?_)
  refine lv_iconst (v := (nI 1)) hx hb d_M_merge_14 (by decide) ?_
  refine lv_goto (tgt := 19) hx hb d_M_merge_15 (by decide) ?_
  refine lv_istore_n (lv' := [(3, .int (nI 1)), (0, .ref hm), (1, .int (nI j)), (2, .int (nI j2))]) hx hb d_M_merge_19 rfl hl (by decide) rfl (fun ls hl => ?_)
  refine lv_iload_n hx hb d_M_merge_20 rfl (lv_at hl 0 rfl) ?_
  refine lv_if_eq (tgt := 46) hx hb d_M_merge_21 (by decide) (fun c_21 => absurd c_21 (by decide)) (fun c_21 => ?_)
  refine lv_aload_n hx hb d_M_merge_24 rfl (lv_at hl 1 rfl) ?_
  refine va_get (D := D) (ci := 4) (v := .ref a1) (C := R_M) (T := T_M) (N := 12) hx hb (us_M G hW) (fun _ h => h) hown hK hP 0 rfl rfl 1 (by decide) (fl_M_7 G hW) (fun _ h9 => h9) rfl d_M_merge_25 ?_
  refine lv_iload_n hx hb d_M_merge_28 rfl (lv_at hl 2 rfl) ?_
  refine ia_ld hx hb hK hP 1 (j := j) rfl (hj) (by decide) d_M_merge_29 ?_
  refine tp_i (y := (nI (ki j))) rfl ?_
  refine tp_i (y := (nI 3)) (by rw [p1]) ?_
  refine lv_if_le (tgt := 46) hx hb d_M_merge_30 (by decide) (fun c_30 => absurd c_30 (by decide)) (fun c_30 => ?_)
  refine lv_aload_n hx hb d_M_merge_33 rfl (lv_at hl 1 rfl) ?_
  refine va_get (D := D) (ci := 4) (v := .ref a1) (C := R_M) (T := T_M) (N := 12) hx hb (us_M G hW) (fun _ h => h) hown hK hP 0 rfl rfl 1 (by decide) (fl_M_7 G hW) (fun _ h9 => h9) rfl d_M_merge_34 ?_
  refine lv_iload_n hx hb d_M_merge_37 rfl (lv_at hl 3 rfl) ?_
  refine ia_ld hx hb hK hP 1 (j := j2) rfl (hj2) (by decide) d_M_merge_38 ?_
  refine tp_i (y := (nI (ki j2))) rfl ?_
  refine tp_i (y := (nI 3)) (by rw [q1]) ?_
  refine lv_if_le (tgt := 46) hx hb d_M_merge_39 (by decide) (fun c_39 => absurd c_39 (by decide)) (fun c_39 => ?_)
  refine lv_iconst (v := (nI 1)) hx hb d_M_merge_42 (by decide) ?_
  refine lv_goto (tgt := 47) hx hb d_M_merge_43 (by decide) ?_
  refine lv_istore (lv' := [(4, .int (nI 1)), (3, .int (nI 1)), (0, .ref hm), (1, .int (nI j)), (2, .int (nI j2))]) hx hb d_M_merge_47 hl (by decide) rfl (fun ls hl => ?_)
  refine lv_iload hx hb d_M_merge_49 (lv_at hl 0 rfl) ?_
  refine lv_if_eq (tgt := 108) hx hb d_M_merge_51 (by decide) (fun c_51 => absurd c_51 (by decide)) (fun c_51 => ?_)
  refine lv_aload_n hx hb d_M_merge_54 rfl (lv_at hl 2 rfl) ?_
  refine va_get (D := D) (ci := 4) (v := .ref a1) (C := R_M) (T := T_M) (N := 12) hx hb (us_M G hW) (fun _ h => h) hown hK hP 0 rfl rfl 1 (by decide) (fl_M_7 G hW) (fun _ h9 => h9) rfl d_M_merge_55 ?_
  refine lv_iload_n hx hb d_M_merge_58 rfl (lv_at hl 3 rfl) ?_
  refine ia_ld hx hb hK hP 1 (j := j) rfl (hj) (by decide) d_M_merge_59 ?_
  refine tp_i (y := (nI (ki j))) rfl ?_
  refine tp_i (y := (nI 3)) (by rw [p1]) ?_
  refine lv_iconst (v := (nI 3)) hx hb d_M_merge_60 (by decide) ?_
  refine lv_icmp_ne (tgt := 108) hx hb d_M_merge_61 (by decide) (fun c_61 => absurd (rfl) c_61) (fun c_61 => ?_)
  refine lv_aload_n hx hb d_M_merge_64 rfl (lv_at hl 2 rfl) ?_
  refine va_get (D := D) (ci := 4) (v := .ref a1) (C := R_M) (T := T_M) (N := 12) hx hb (us_M G hW) (fun _ h => h) hown hK hP 0 rfl rfl 1 (by decide) (fl_M_7 G hW) (fun _ h9 => h9) rfl d_M_merge_65 ?_
  refine lv_iload_n hx hb d_M_merge_68 rfl (lv_at hl 4 rfl) ?_
  refine ia_ld hx hb hK hP 1 (j := j2) rfl (hj2) (by decide) d_M_merge_69 ?_
  refine tp_i (y := (nI (ki j2))) rfl ?_
  refine tp_i (y := (nI 3)) (by rw [q1]) ?_
  refine lv_iconst (v := (nI 3)) hx hb d_M_merge_70 (by decide) ?_
  refine lv_icmp_ne (tgt := 108) hx hb d_M_merge_71 (by decide) (fun c_71 => absurd (rfl) c_71) (fun c_71 => ?_)
  refine lv_aload_n hx hb d_M_merge_74 rfl (lv_at hl 2 rfl) ?_
  refine va_get (D := D) (ci := 4) (v := .ref a2) (C := R_M) (T := T_M) (N := 12) hx hb (us_M G hW) (fun _ h => h) hown hK hP 0 rfl rfl 2 (by decide) (fl_M_13 G hW) (fun _ h9 => h9) rfl d_M_merge_75 ?_
  refine lv_iload_n hx hb d_M_merge_78 rfl (lv_at hl 3 rfl) ?_
  refine ia_ld hx hb hK hP 2 (j := j) rfl (hj) (by decide) d_M_merge_79 ?_
  refine tp_i (y := (nI (ka j))) rfl ?_
  refine tp_i (y := (nI A)) (by rw [p2]) ?_
  refine lv_aload_n hx hb d_M_merge_80 rfl (lv_at hl 2 rfl) ?_
  refine va_get (D := D) (ci := 4) (v := .ref a2) (C := R_M) (T := T_M) (N := 12) hx hb (us_M G hW) (fun _ h => h) hown hK hP 0 rfl rfl 2 (by decide) (fl_M_13 G hW) (fun _ h9 => h9) rfl d_M_merge_81 ?_
  refine lv_iload_n hx hb d_M_merge_84 rfl (lv_at hl 4 rfl) ?_
  refine ia_ld hx hb hK hP 2 (j := j2) rfl (hj2) (by decide) d_M_merge_85 ?_
  refine tp_i (y := (nI (ka j2))) rfl ?_
  refine tp_i (y := (nI A)) (by rw [q2]) ?_
  refine lv_icmp_ne (tgt := 108) hx hb d_M_merge_86 (by decide) (fun c_86 => absurd (rfl) c_86) (fun c_86 => ?_)
  refine lv_aload_n hx hb d_M_merge_89 rfl (lv_at hl 2 rfl) ?_
  refine va_get (D := D) (ci := 4) (v := .ref a3) (C := R_M) (T := T_M) (N := 12) hx hb (us_M G hW) (fun _ h => h) hown hK hP 0 rfl rfl 3 (by decide) (fl_M_16 G hW) (fun _ h9 => h9) rfl d_M_merge_90 ?_
  refine lv_iload_n hx hb d_M_merge_93 rfl (lv_at hl 3 rfl) ?_
  refine ia_ld hx hb hK hP 3 (j := j) rfl (hj) (by decide) d_M_merge_94 ?_
  refine tp_i (y := (nI (kb j))) rfl ?_
  refine tp_i (y := (nI B)) (by rw [p3]) ?_
  refine lv_aload_n hx hb d_M_merge_95 rfl (lv_at hl 2 rfl) ?_
  refine va_get (D := D) (ci := 4) (v := .ref a3) (C := R_M) (T := T_M) (N := 12) hx hb (us_M G hW) (fun _ h => h) hown hK hP 0 rfl rfl 3 (by decide) (fl_M_16 G hW) (fun _ h9 => h9) rfl d_M_merge_96 ?_
  refine lv_iload_n hx hb d_M_merge_99 rfl (lv_at hl 4 rfl) ?_
  refine ia_ld hx hb hK hP 3 (j := j2) rfl (hj2) (by decide) d_M_merge_100 ?_
  refine tp_i (y := (nI (kb j2))) rfl ?_
  refine tp_i (y := (nI B)) (by rw [q3]) ?_
  refine lv_icmp_ne (tgt := 108) hx hb d_M_merge_101 (by decide) (fun c_101 => absurd (rfl) c_101) (fun c_101 => ?_)
  refine lv_iconst (v := (nI 1)) hx hb d_M_merge_104 (by decide) ?_
  refine lv_goto (tgt := 109) hx hb d_M_merge_105 (by decide) ?_
  refine lv_istore (lv' := [(5, .int (nI 1)), (4, .int (nI 1)), (3, .int (nI 1)), (0, .ref hm), (1, .int (nI j)), (2, .int (nI j2))]) hx hb d_M_merge_109 hl (by decide) rfl (fun ls hl => ?_)
  refine lv_aload_n hx hb d_M_merge_111 rfl (lv_at hl 3 rfl) ?_
  refine lv_iload_n hx hb d_M_merge_112 rfl (lv_at hl 2 rfl) ?_
  refine lv_if_ne (tgt := 120) hx hb d_M_merge_113 (by decide) (fun c_113 => ?_) (fun c_113 => absurd c_113 (by decide))
  refine lv_iload hx hb d_M_merge_120 (lv_at hl 1 rfl) ?_
  refine lv_if_ne (tgt := 129) hx hb d_M_merge_122 (by decide) (fun c_122 => ?_) (fun c_122 => absurd c_122 (by decide))
  refine lv_iload hx hb d_M_merge_129 (lv_at hl 0 rfl) ?_
  refine lv_if_ne (tgt := 138) hx hb d_M_merge_131 (by decide) (fun c_131 => ?_) (fun c_131 => absurd c_131 (by decide))
  refine lv_aload_n hx hb d_M_merge_138 rfl (lv_at hl 3 rfl) ?_
  refine va_get (D := D) (ci := 4) (v := .ref a4) (C := R_M) (T := T_M) (N := 12) hx hb (us_M G hW) (fun _ h => h) hown hK hP 0 rfl rfl 4 (by decide) (fl_M_19 G hW) (fun _ h9 => h9) rfl d_M_merge_139 ?_
  refine lv_iload_n hx hb d_M_merge_142 rfl (lv_at hl 4 rfl) ?_
  refine ia_ld hx hb hK hP 4 (j := j) rfl (hj) (by decide) d_M_merge_143 ?_
  refine tp_i (y := (nI n)) (p4n) ?_
  refine lv_aload_n hx hb d_M_merge_144 rfl (lv_at hl 3 rfl) ?_
  refine va_get (D := D) (ci := 4) (v := .ref a4) (C := R_M) (T := T_M) (N := 12) hx hb (us_M G hW) (fun _ h => h) hown hK hP 0 rfl rfl 4 (by decide) (fl_M_19 G hW) (fun _ h9 => h9) rfl d_M_merge_145 ?_
  refine lv_iload_n hx hb d_M_merge_148 rfl (lv_at hl 5 rfl) ?_
  refine ia_ld hx hb hK hP 4 (j := j2) rfl (hj2) (by decide) d_M_merge_149 ?_
  refine tp_i (y := (nI n2)) (q4n) ?_
  refine lv_iadd hx hb d_M_merge_150 ?_
  refine tp_i (y := (nI (n + n2))) (nI_add _ _) ?_
  refine lv_iconst (v := (nI 1)) hx hb d_M_merge_151 (by decide) ?_
  refine lv_aload_n hx hb d_M_merge_152 rfl (lv_at hl 3 rfl) ?_
  refine va_get (D := D) (ci := 4) (v := .ref a2) (C := R_M) (T := T_M) (N := 12) hx hb (us_M G hW) (fun _ h => h) hown hK hP 0 rfl rfl 2 (by decide) (fl_M_13 G hW) (fun _ h9 => h9) rfl d_M_merge_153 ?_
  refine lv_iload_n hx hb d_M_merge_156 rfl (lv_at hl 4 rfl) ?_
  refine ia_ld hx hb hK hP 2 (j := j) rfl (hj) (by decide) d_M_merge_157 ?_
  refine tp_i (y := (nI (ka j))) rfl ?_
  refine tp_i (y := (nI A)) (by rw [p2]) ?_
  refine lv_ishl hx hb d_M_merge_158 ?_
  refine tp_i (y := (nI (2 ^ A))) (pw_shl A (by omega)) ?_
  refine lv_icmp_le (tgt := 166) hx hb d_M_merge_159 (by decide) (fun c_159 => ?_) (fun c_159 => absurd (nI_le hfl (by omega)) c_159)
  refine lv_iconst (v := (nI 0)) hx hb d_M_merge_166 (by decide) ?_
  refine va_put (D := D) (ci := 4) (v := .int (nI 0)) (ty := .int) (C := R_M) (T := T_M) (N := 12) hx hb (us_M G hW) (fun _ h => h) t_M to_M nm_M hown hK hP hD hS 0 rfl rfl 0 (by decide) (fl_M_43 G hW) (fun _ h9 => h9) rfl (by decide +kernel) rfl rfl (Nat.le_of_ble_eq_true rfl) d_M_merge_167 (fun H locs hP hD hS => ?_)
  have hP : va_P D vcl [(hm, .inr (4, [.int (nI 0), .ref a1, .ref a2, .ref a3, .ref a4, .ref a5, .ref a6, .ref a7, .ref a8, .ref a9, .ref a10, .ref a11])), (a1, aN cI 4 ki), (a2, aN cI 4 ka), (a3, aN cI 4 kb), (a4, aI cI 4 zs), (a5, aI cI 4 pu), (a6, aN cI 4096 ce), (a7, aN cI 1024 pa), (a8, aN cI 1024 tr), (a9, aI cI 256 so), (a10, aN cI 6 pl), (a11, aN cI 6 ot)] H := hP
  have hD : va_D (Aa [hm, a1, a2, a3, a4, a5, a6, a7, a8, a9, a10, a11] H0.size) [(hm, .inr (4, [.int (nI 0), .ref a1, .ref a2, .ref a3, .ref a4, .ref a5, .ref a6, .ref a7, .ref a8, .ref a9, .ref a10, .ref a11])), (a1, aN cI 4 ki), (a2, aN cI 4 ka), (a3, aN cI 4 kb), (a4, aI cI 4 zs), (a5, aI cI 4 pu), (a6, aN cI 4096 ce), (a7, aN cI 1024 pa), (a8, aN cI 1024 tr), (a9, aI cI 256 so), (a10, aN cI 6 pl), (a11, aN cI 6 ot)] := hD
  refine lv_aload_n hx hb d_M_merge_170 rfl (lv_at hl 3 rfl) ?_
  refine va_get (D := D) (ci := 4) (v := .int (nI 0)) (C := R_M) (T := T_M) (N := 12) hx hb (us_M G hW) (fun _ h => h) hown hK hP 0 rfl rfl 0 (by decide) (fl_M_43 G hW) (fun _ h9 => h9) rfl d_M_merge_171 ?_
  refine lv_if_le (tgt := 179) hx hb d_M_merge_174 (by decide) (fun c_174 => ?_) (fun c_174 => absurd (by decide) c_174)
  refine lv_aload_n hx hb d_M_merge_179 rfl (lv_at hl 3 rfl) ?_
  refine va_get (D := D) (ci := 4) (v := .ref a4) (C := R_M) (T := T_M) (N := 12) hx hb (us_M G hW) (fun _ h => h) hown hK hP 0 rfl rfl 4 (by decide) (fl_M_19 G hW) (fun _ h9 => h9) rfl d_M_merge_180 ?_
  refine lv_iload_n hx hb d_M_merge_183 rfl (lv_at hl 5 rfl) ?_
  refine ia_ld hx hb hK hP 4 (j := j2) rfl (hj2) (by decide) d_M_merge_184 ?_
  refine tp_i (y := (nI n2)) (q4n) ?_
  refine lv_istore (lv' := [(6, .int (nI n2)), (5, .int (nI 1)), (4, .int (nI 1)), (3, .int (nI 1)), (0, .ref hm), (1, .int (nI j)), (2, .int (nI j2))]) hx hb d_M_merge_185 hl (by decide) rfl (fun ls hl => ?_)
  refine lv_iconst (v := (nI 0)) hx hb d_M_merge_187 (by decide) ?_
  refine lv_istore (lv' := [(7, .int (nI 0)), (6, .int (nI n2)), (5, .int (nI 1)), (4, .int (nI 1)), (3, .int (nI 1)), (0, .ref hm), (1, .int (nI j)), (2, .int (nI j2))]) hx hb d_M_merge_188 hl (by decide) rfl (fun ls hl => ?_)
  have loop_190 : ∀ (k : Nat) (i : Nat), (i + k = n2) → ∀ (H : Heap) (locs : List Loc), va_P D vcl [(hm, .inr (4, [.int (nI 0), .ref a1, .ref a2, .ref a3, .ref a4, .ref a5, .ref a6, .ref a7, .ref a8, .ref a9, .ref a10, .ref a11])), (a1, aN cI 4 ki), (a2, aN cI 4 ka), (a3, aN cI 4 kb), (a4, aI cI 4 (upd zs j (nI (n + i)))), (a5, aI cI 4 pu), (a6, aN cI 4096 ce), (a7, aN cI 1024 (stO 256 pa (256 * j) (itE (vw pa (256 * j)) n (fun q => enc B (g q)) i))), (a8, aN cI 1024 tr), (a9, aI cI 256 so), (a10, aN cI 6 pl), (a11, aN cI 6 ot)] H → va_D (Aa [hm, a1, a2, a3, a4, a5, a6, a7, a8, a9, a10, a11] H0.size) [(hm, .inr (4, [.int (nI 0), .ref a1, .ref a2, .ref a3, .ref a4, .ref a5, .ref a6, .ref a7, .ref a8, .ref a9, .ref a10, .ref a11])), (a1, aN cI 4 ki), (a2, aN cI 4 ka), (a3, aN cI 4 kb), (a4, aI cI 4 (upd zs j (nI (n + i)))), (a5, aI cI 4 pu), (a6, aN cI 4096 ce), (a7, aN cI 1024 (stO 256 pa (256 * j) (itE (vw pa (256 * j)) n (fun q => enc B (g q)) i))), (a8, aN cI 1024 tr), (a9, aI cI 256 so), (a10, aN cI 6 pl), (a11, aN cI 6 ot)] → va_S (Aa [hm, a1, a2, a3, a4, a5, a6, a7, a8, a9, a10, a11] H0.size) H0 H locs → ∀ (ls : Array Slot), lv_has ls 9 [(7, .int (nI i)), (6, .int (nI n2)), (5, .int (nI 1)), (4, .int (nI 1)), (3, .int (nI 1)), (0, .ref hm), (1, .int (nI j)), (2, .int (nI j2))] → W p l e { frames := 7, cells := 0, slots := 0, locals := 170 } s m ([.ref hm, .int (nI j), .int (nI j2)] : List Value).toArray below meth c H locs 0 0 (MQx below (Rw (.int (nI (n + n2))) (fun H1 => MP D cI hm a1 a2 a3 a4 a5 a6 a7 a8 a9 a10 a11 (nI 0) (va_up S j (3, A, B, nI (n + n2), pv, cs, n + n2, mrg g (n + n2) n n2 f)) H1)) s 0 0 (Aa [hm, a1, a2, a3, a4, a5, a6, a7, a8, a9, a10, a11] H0.size)) (F0 m 190 ls []) := by
    intro k
    induction k with
    | zero =>
      intro i hk H locs hP hD hS ls hl
      refine lv_iload hx hb d_M_merge_190 (lv_at hl 0 rfl) ?_
      refine lv_iload hx hb d_M_merge_192 (lv_at hl 1 rfl) ?_
      refine lv_icmp_ge (tgt := 253) hx hb d_M_merge_194 (by decide) (fun c_194 => ?_) (fun c_194 => absurd (nI_le (by omega) (by omega)) c_194)
      refine lv_aload_n hx hb d_M_merge_253 rfl (lv_at hl 5 rfl) ?_
      refine va_get (D := D) (ci := 4) (v := .ref a4) (C := R_M) (T := T_M) (N := 12) hx hb (us_M G hW) (fun _ h => h) hown hK hP 0 rfl rfl 4 (by decide) (fl_M_19 G hW) (fun _ h9 => h9) rfl d_M_merge_254 ?_
      refine lv_iload_n hx hb d_M_merge_257 rfl (lv_at hl 6 rfl) ?_
      refine ia_ld hx hb hK hP 4 (j := j) rfl (hj) (by decide) d_M_merge_258 ?_
      refine tp_i (y := (nI (n + n2))) (by rw [upd_eq, show i = n2 by omega]) ?_
      exact mx_iret hx hb hr hlk d_M_merge_259 (Nat.le_of_ble_eq_true rfl) (Nat.le_of_ble_eq_true rfl) hS.2.2 (⟨rfl, ki, ka, kb, _, pu, ce, _, tr, so, pl, ot, hP, pics_up hpic hok (PicM.k3 p1 p2 p3 (by rw [upd_eq, show i = n2 by omega]) (fun q hq9 => by rw [stO_at (by omega), show i = n2 by omega, itE_spec (n2 := n) (R := vw pa (256 * j)) hqB hsr p5 n2 q hq9, mrg_it hsr hr9.2.2.2.2.2.1 q hq9]) (fun q hq9 => by rw [vw_stO hq9]; exact itE_lt p6 i (by omega) (fun i9 hi9 => enc_lt hqA hqB (hr9.2.2.2.2.2.2 i9 (by omega))) q hq9)) id_off id_off id_off upd_off id_off idC offP⟩)
    | succ k ih_190 =>
      intro i hk H locs hP hD hS ls hl
      refine lv_iload hx hb d_M_merge_190 (lv_at hl 0 rfl) ?_
      refine lv_iload hx hb d_M_merge_192 (lv_at hl 1 rfl) ?_
      refine lv_icmp_ge (tgt := 253) hx hb d_M_merge_194 (by decide) (fun c_194 => absurd c_194 (nI_ge (by omega) (by omega))) (fun c_194 => ?_)
      refine lv_aload_n hx hb d_M_merge_197 rfl (lv_at hl 5 rfl) ?_
      refine va_get (D := D) (ci := 4) (v := .ref a7) (C := R_M) (T := T_M) (N := 12) hx hb (us_M G hW) (fun _ h => h) hown hK hP 0 rfl rfl 7 (by decide) (fl_M_28 G hW) (fun _ h9 => h9) rfl d_M_merge_198 ?_
      refine lv_sipush (v := (nI 256)) hx hb d_M_merge_201 (by decide) ?_
      refine lv_iload_n hx hb d_M_merge_204 rfl (lv_at hl 7 rfl) ?_
      refine lv_imul hx hb d_M_merge_205 ?_
      refine tp_i (y := (nI (256 * j2))) (pk_mul _ _) ?_
      refine lv_iload_n hx hb d_M_merge_206 rfl (lv_at hl 6 rfl) ?_
      refine lv_iload_n hx hb d_M_merge_207 rfl (lv_at hl 7 rfl) ?_
      refine lv_icmp_ne (tgt := 218) hx hb d_M_merge_208 (by decide) (fun c_208 => ?_) (fun c_208 => absurd c_208 (fun h9 => hne ((nI_eq (by omega) (by omega)).mp h9)))
      refine lv_iload hx hb d_M_merge_218 (lv_at hl 0 rfl) ?_
      refine lv_iadd hx hb d_M_merge_220 ?_
      refine tp_i (y := (nI ((256 * j2) + i))) (nI_add _ _) ?_
      refine ia_ld hx hb hK hP 7 (j := ((256 * j2) + i)) rfl (by omega) (by decide) d_M_merge_221 ?_
      refine tp_i (y := (nI ((stO 256 pa (256 * j) (itE (vw pa (256 * j)) n (fun q => enc B (g q)) i)) ((256 * j2) + i)))) rfl ?_
      refine tp_i (y := (nI (enc B (g i)))) (by rw [offP j2 (fun h9 => hne h9.symm) i (by omega), q5 i (by omega)]) ?_
      refine lv_istore (lv' := [(8, .int (nI (enc B (g i)))), (7, .int (nI i)), (6, .int (nI n2)), (5, .int (nI 1)), (4, .int (nI 1)), (3, .int (nI 1)), (0, .ref hm), (1, .int (nI j)), (2, .int (nI j2))]) hx hb d_M_merge_222 hl (by decide) rfl (fun ls hl => ?_)
      refine lv_aload_n hx hb d_M_merge_224 rfl (lv_at hl 6 rfl) ?_
      refine lv_iload_n hx hb d_M_merge_225 rfl (lv_at hl 7 rfl) ?_
      refine lv_aload_n hx hb d_M_merge_226 rfl (lv_at hl 6 rfl) ?_
      refine va_get (D := D) (ci := 4) (v := .ref a4) (C := R_M) (T := T_M) (N := 12) hx hb (us_M G hW) (fun _ h => h) hown hK hP 0 rfl rfl 4 (by decide) (fl_M_19 G hW) (fun _ h9 => h9) rfl d_M_merge_227 ?_
      refine lv_iload_n hx hb d_M_merge_230 rfl (lv_at hl 7 rfl) ?_
      refine ia_ld hx hb hK hP 4 (j := j) rfl (hj) (by decide) d_M_merge_231 ?_
      refine tp_i (y := (nI (n + i))) (upd_eq) ?_
      refine lv_iload hx hb d_M_merge_232 (lv_at hl 0 rfl) ?_
      refine mx_callN (c_M_insertPair G hm a1 a2 a3 a4 a5 a6 a7 a8 a9 a10 a11 (nI 0) ki ka kb (upd zs j (nI (n + i))) pu ce (stO 256 pa (256 * j) (itE (vw pa (256 * j)) n (fun q => enc B (g q)) i)) tr so pl ot j (n + i) (enc B (g i)) hP hD hj (by omega) (enc_lt hqA hqB (hr9.2.2.2.2.2.2 i (by omega))) (fun q hq9 => by rw [vw_stO hq9]; exact itE_lt p6 i (by omega) (fun i9 hi9 => enc_lt hqA hqB (hr9.2.2.2.2.2.2 i9 (by omega))) q hq9)) hW (iv_M_merge_234 G hx hb hown hW (va_recv hK hP (ci := 4) (q0 := 0) rfl rfl) [.int (nI j), .int (nI (n + i)), .int (nI (enc B (g i)))] [] rfl) hml hl.1 (by rw [hb]; exact d_M_merge_234) (cd_M_insertPair G hW) ⟨Nat.le_of_ble_eq_true rfl, Nat.le_of_ble_eq_true rfl⟩ (Nat.le_of_ble_eq_true rfl) (Nat.le_of_ble_eq_true rfl) (Nat.le_of_ble_eq_true rfl) hS (Aa.mono (fun _ h => h) hS.1) (fun H locs hP _ _ hS => ?_)
      rw [show enc B (g i) = (fun q => enc B (g q)) i from rfl, stO_its (by omega)] at hP
      have hP : va_P D vcl [(hm, .inr (4, [.int (nI 0), .ref a1, .ref a2, .ref a3, .ref a4, .ref a5, .ref a6, .ref a7, .ref a8, .ref a9, .ref a10, .ref a11])), (a1, aN cI 4 ki), (a2, aN cI 4 ka), (a3, aN cI 4 kb), (a4, aI cI 4 (upd zs j (nI (n + i)))), (a5, aI cI 4 pu), (a6, aN cI 4096 ce), (a7, aN cI 1024 (stO 256 pa (256 * j) (itE (vw pa (256 * j)) n (fun q => enc B (g q)) (i + 1)))), (a8, aN cI 1024 tr), (a9, aI cI 256 so), (a10, aN cI 6 pl), (a11, aN cI 6 ot)] H := hP
      have hD : va_D (Aa [hm, a1, a2, a3, a4, a5, a6, a7, a8, a9, a10, a11] H0.size) [(hm, .inr (4, [.int (nI 0), .ref a1, .ref a2, .ref a3, .ref a4, .ref a5, .ref a6, .ref a7, .ref a8, .ref a9, .ref a10, .ref a11])), (a1, aN cI 4 ki), (a2, aN cI 4 ka), (a3, aN cI 4 kb), (a4, aI cI 4 (upd zs j (nI (n + i)))), (a5, aI cI 4 pu), (a6, aN cI 4096 ce), (a7, aN cI 1024 (stO 256 pa (256 * j) (itE (vw pa (256 * j)) n (fun q => enc B (g q)) (i + 1)))), (a8, aN cI 1024 tr), (a9, aI cI 256 so), (a10, aN cI 6 pl), (a11, aN cI 6 ot)] := va_D.same2 [hm, a1, a2, a3, a4, a5, a6, a7, a8, a9, a10, a11] hD rfl rfl
      refine lv_aload_n hx hb d_M_merge_237 rfl (lv_at hl 6 rfl) ?_
      refine va_get (D := D) (ci := 4) (v := .ref a4) (C := R_M) (T := T_M) (N := 12) hx hb (us_M G hW) (fun _ h => h) hown hK hP 0 rfl rfl 4 (by decide) (fl_M_19 G hW) (fun _ h9 => h9) rfl d_M_merge_238 ?_
      refine lv_iload_n hx hb d_M_merge_241 rfl (lv_at hl 7 rfl) ?_
      refine lv_dup2_11 hx hb d_M_merge_242 rfl rfl ?_
      refine ia_ld hx hb hK hP 4 (j := j) rfl (hj) (by decide) d_M_merge_243 ?_
      refine tp_i (y := (nI (n + i))) (upd_eq) ?_
      refine lv_iconst (v := (nI 1)) hx hb d_M_merge_244 (by decide) ?_
      refine lv_iadd hx hb d_M_merge_245 ?_
      refine tp_i (y := (nI (n + (i + 1)))) (by rw [nI_add, Nat.add_assoc]) ?_
      refine ia_st hx hb hK hP hD hS 4 (j := j) rfl (hj) (by decide) d_M_merge_246 (fun H locs hP hD hS => ?_)
      have hP : va_P D vcl [(hm, .inr (4, [.int (nI 0), .ref a1, .ref a2, .ref a3, .ref a4, .ref a5, .ref a6, .ref a7, .ref a8, .ref a9, .ref a10, .ref a11])), (a1, aN cI 4 ki), (a2, aN cI 4 ka), (a3, aN cI 4 kb), (a4, aI cI 4 (upd (upd zs j (nI (n + i))) j (nI (n + (i + 1))))), (a5, aI cI 4 pu), (a6, aN cI 4096 ce), (a7, aN cI 1024 (stO 256 pa (256 * j) (itE (vw pa (256 * j)) n (fun q => enc B (g q)) (i + 1)))), (a8, aN cI 1024 tr), (a9, aI cI 256 so), (a10, aN cI 6 pl), (a11, aN cI 6 ot)] H := hP
      have hD : va_D (Aa [hm, a1, a2, a3, a4, a5, a6, a7, a8, a9, a10, a11] H0.size) [(hm, .inr (4, [.int (nI 0), .ref a1, .ref a2, .ref a3, .ref a4, .ref a5, .ref a6, .ref a7, .ref a8, .ref a9, .ref a10, .ref a11])), (a1, aN cI 4 ki), (a2, aN cI 4 ka), (a3, aN cI 4 kb), (a4, aI cI 4 (upd (upd zs j (nI (n + i))) j (nI (n + (i + 1))))), (a5, aI cI 4 pu), (a6, aN cI 4096 ce), (a7, aN cI 1024 (stO 256 pa (256 * j) (itE (vw pa (256 * j)) n (fun q => enc B (g q)) (i + 1)))), (a8, aN cI 1024 tr), (a9, aI cI 256 so), (a10, aN cI 6 pl), (a11, aN cI 6 ot)] := hD
      rw [upd_upd] at hP hD
      refine lv_iinc (v := (nI (i + 1))) (lv' := [(7, .int (nI (i + 1))), (8, .int (nI (enc B (g i)))), (6, .int (nI n2)), (5, .int (nI 1)), (4, .int (nI 1)), (3, .int (nI 1)), (0, .ref hm), (1, .int (nI j)), (2, .int (nI j2))]) hx hb d_M_merge_247 hl (k := 1) rfl (nI_1 _) (by decide) rfl (fun ls hl => ?_)
      refine lv_goto (tgt := 190) hx hb d_M_merge_250 (by decide) ?_
      exact ih_190 (i + 1) (by omega) H locs hP hD hS ls (lv_sub hl [0, 2, 3, 4, 5, 6, 7, 8] rfl)
  rw [← stO_it0 pa (256 * j) n (fun q => enc B (g q)), ← upd_id (f := zs) (j := j) (a := nI (n + 0)) p4n] at hP hD
  exact loop_190 (n2) (0) (by omega) H locs hP hD hS ls (lv_sub hl [0, 1, 2, 3, 4, 5, 6, 7] rfl)

set_option maxHeartbeats 4000000 in
set_option maxRecDepth 100000 in
theorem c_M_merge_s {l : Launch} {s0 : State} {D : va_G} {cI cF cJ : ClassId} (G : Gx l s0 D cI cF cJ) (hm a1 a2 a3 a4 a5 a6 a7 a8 a9 a10 a11 : Nat) (th : Int32) (S : Nat → FS) (j A B n : Nat) (hd pv : Int32) (cs f : Nat → Nat) {H0 : Heap} {A0 : Nat → Prop} (hM : MP D cI hm a1 a2 a3 a4 a5 a6 a7 a8 a9 a10 a11 th S H0) (hD : va_D A0 (adM hm a1 a2 a3 a4 a5 a6 a7 a8 a9 a10 a11)) (hok : ∀ i, i < 4 → okS (S i)) (hj : j < 4) (hSj : S j = (3, A, B, hd, pv, cs, n, f)) (hfl : n + n ≤ 2 ^ A) : Mx l s0 y_M_merge (.code y_M_merge b_M_merge 9 (some .int)) { frames := 7, cells := 0, slots := 0, locals := 170 } [.ref hm, .int (nI j), .int (nI j)] H0 (Aa [hm, a1, a2, a3, a4, a5, a6, a7, a8, a9, a10, a11] H0.size) (Rw (.int (nI (n + n))) (fun H1 => MP D cI hm a1 a2 a3 a4 a5 a6 a7 a8 a9 a10 a11 (nI 0) (va_up S j (3, A, B, nI (n + n), pv, cs, n + n, mrg f (n + n) n n f)) H1)) := by
  refine Mx.ofW (own := "FewBitsModel") rfl rfl ?_
  rintro p e s m below meth c ⟨hx, hb, hml, hr, hown, hW, hlk⟩ hnm het hH
  have hK := G.k hW
  have hD0 := hD
  obtain ⟨ki, ka, kb, zs, pu, ce, pa, tr, so, pl, ot, hP, hpic⟩ := hM
  have hD : va_D (Aa [hm, a1, a2, a3, a4, a5, a6, a7, a8, a9, a10, a11] H0.size) [(hm, .inr (4, [.int th, .ref a1, .ref a2, .ref a3, .ref a4, .ref a5, .ref a6, .ref a7, .ref a8, .ref a9, .ref a10, .ref a11])), (a1, aN cI 4 ki), (a2, aN cI 4 ka), (a3, aN cI 4 kb), (a4, aI cI 4 zs), (a5, aI cI 4 pu), (a6, aN cI 4096 ce), (a7, aN cI 1024 pa), (a8, aN cI 1024 tr), (a9, aI cI 256 so), (a10, aN cI 6 pl), (a11, aN cI 6 ot)] := va_D.same2 [hm, a1, a2, a3, a4, a5, a6, a7, a8, a9, a10, a11] (hD.aa (sz := H0.size)) rfl rfl
  have hS : va_S (Aa [hm, a1, a2, a3, a4, a5, a6, a7, a8, a9, a10, a11] H0.size) H0 H0 [] := va_S.rf
  have hpj := hpic j hj
  rw [hSj] at hpj
  obtain ⟨p1, p2, p3, p4, p5, p6⟩ := hpj.f3
  have hoj := hok j hj
  rw [hSj] at hoj
  have hq := (okS_3.mp hoj).1
  have p4n : zs j = nI n := by rw [p4, (okS_3.mp hoj).2]
  have hqA : A ≤ 8 := hq.2.1
  have hqB : B ≤ 20 := hq.2.2.2.1
  have h8 := p2_le hqA
  have hnn := hq.2.2.2.2.1
  have hj2 := hj
  have q1 := p1
  have q2 := p2
  have q3 := p3
  have q4n := p4n
  have hsr := hq.2.2.2.2.2.1
  have hl := lv_entry ([.ref hm, .int (nI j), .int (nI j)]) (n := 9) (Nat.le_of_ble_eq_true rfl)
  rw [lg_entry_eq]
  generalize (lg_sl ([.ref hm, .int (nI j), .int (nI j)]) ++ List.replicate (9 - (lg_sl ([.ref hm, .int (nI j), .int (nI j)])).length) Slot.unset).toArray = ls at hl ⊢
  have hl : lv_has ls 9 [(0, .ref hm), (1, .int (nI j)), (2, .int (nI j))] := hl
  refine lv_iload_n hx hb d_M_merge_0 rfl (lv_at hl 1 rfl) ?_
  refine mx_callR (r := .int (bI (isNum (nI j)))) (c_M_isNumber G (nI j)) hW (iv_M_merge_1 G hx hb hown hW [.int (nI j)] [] rfl) hml hl.1 (by rw [hb]; exact d_M_merge_1) (cd_M_isNumber G hW) ⟨Nat.le_of_ble_eq_true rfl, Nat.le_of_ble_eq_true rfl⟩ rfl rfl (Nat.le_of_ble_eq_true rfl) (Nat.le_of_ble_eq_true rfl) (Nat.le_of_ble_eq_true rfl) ?_
  refine tp_i (y := (bI true)) (by rw [isNum_nI hj]) ?_
  refine lv_if_eq (tgt := 18) hx hb d_M_merge_4 (by decide) (fun c_4 => absurd c_4 (by decide)) (fun c_4 => ?_)
  refine lv_iload_n hx hb d_M_merge_7 rfl (lv_at hl 2 rfl) ?_
  refine mx_callR (r := .int (bI (isNum (nI j)))) (c_M_isNumber G (nI j)) hW (iv_M_merge_8 G hx hb hown hW [.int (nI j)] [] rfl) hml hl.1 (by rw [hb]; exact d_M_merge_8) (cd_M_isNumber G hW) ⟨Nat.le_of_ble_eq_true rfl, Nat.le_of_ble_eq_true rfl⟩ rfl rfl (Nat.le_of_ble_eq_true rfl) (Nat.le_of_ble_eq_true rfl) (Nat.le_of_ble_eq_true rfl) ?_
  refine tp_i (y := (bI true)) (by rw [isNum_nI hj]) ?_
  refine lv_if_eq (tgt := 18) hx hb d_M_merge_11 (by decide) (fun c_11 => absurd c_11 (by decide)) (fun c_11 => ?_)
  refine lv_iconst (v := (nI 1)) hx hb d_M_merge_14 (by decide) ?_
  refine lv_goto (tgt := 19) hx hb d_M_merge_15 (by decide) ?_
  refine lv_istore_n (lv' := [(3, .int (nI 1)), (0, .ref hm), (1, .int (nI j)), (2, .int (nI j))]) hx hb d_M_merge_19 rfl hl (by decide) rfl (fun ls hl => ?_)
  refine lv_iload_n hx hb d_M_merge_20 rfl (lv_at hl 0 rfl) ?_
  refine lv_if_eq (tgt := 46) hx hb d_M_merge_21 (by decide) (fun c_21 => absurd c_21 (by decide)) (fun c_21 => ?_)
  refine lv_aload_n hx hb d_M_merge_24 rfl (lv_at hl 1 rfl) ?_
  refine va_get (D := D) (ci := 4) (v := .ref a1) (C := R_M) (T := T_M) (N := 12) hx hb (us_M G hW) (fun _ h => h) hown hK hP 0 rfl rfl 1 (by decide) (fl_M_7 G hW) (fun _ h9 => h9) rfl d_M_merge_25 ?_
  refine lv_iload_n hx hb d_M_merge_28 rfl (lv_at hl 2 rfl) ?_
  refine ia_ld hx hb hK hP 1 (j := j) rfl (hj) (by decide) d_M_merge_29 ?_
  refine tp_i (y := (nI (ki j))) rfl ?_
  refine tp_i (y := (nI 3)) (by rw [p1]) ?_
  refine lv_if_le (tgt := 46) hx hb d_M_merge_30 (by decide) (fun c_30 => absurd c_30 (by decide)) (fun c_30 => ?_)
  refine lv_aload_n hx hb d_M_merge_33 rfl (lv_at hl 1 rfl) ?_
  refine va_get (D := D) (ci := 4) (v := .ref a1) (C := R_M) (T := T_M) (N := 12) hx hb (us_M G hW) (fun _ h => h) hown hK hP 0 rfl rfl 1 (by decide) (fl_M_7 G hW) (fun _ h9 => h9) rfl d_M_merge_34 ?_
  refine lv_iload_n hx hb d_M_merge_37 rfl (lv_at hl 3 rfl) ?_
  refine ia_ld hx hb hK hP 1 (j := j) rfl (hj2) (by decide) d_M_merge_38 ?_
  refine tp_i (y := (nI (ki j))) rfl ?_
  refine tp_i (y := (nI 3)) (by rw [q1]) ?_
  refine lv_if_le (tgt := 46) hx hb d_M_merge_39 (by decide) (fun c_39 => absurd c_39 (by decide)) (fun c_39 => ?_)
  refine lv_iconst (v := (nI 1)) hx hb d_M_merge_42 (by decide) ?_
  refine lv_goto (tgt := 47) hx hb d_M_merge_43 (by decide) ?_
  refine lv_istore (lv' := [(4, .int (nI 1)), (3, .int (nI 1)), (0, .ref hm), (1, .int (nI j)), (2, .int (nI j))]) hx hb d_M_merge_47 hl (by decide) rfl (fun ls hl => ?_)
  refine lv_iload hx hb d_M_merge_49 (lv_at hl 0 rfl) ?_
  refine lv_if_eq (tgt := 108) hx hb d_M_merge_51 (by decide) (fun c_51 => absurd c_51 (by decide)) (fun c_51 => ?_)
  refine lv_aload_n hx hb d_M_merge_54 rfl (lv_at hl 2 rfl) ?_
  refine va_get (D := D) (ci := 4) (v := .ref a1) (C := R_M) (T := T_M) (N := 12) hx hb (us_M G hW) (fun _ h => h) hown hK hP 0 rfl rfl 1 (by decide) (fl_M_7 G hW) (fun _ h9 => h9) rfl d_M_merge_55 ?_
  refine lv_iload_n hx hb d_M_merge_58 rfl (lv_at hl 3 rfl) ?_
  refine ia_ld hx hb hK hP 1 (j := j) rfl (hj) (by decide) d_M_merge_59 ?_
  refine tp_i (y := (nI (ki j))) rfl ?_
  refine tp_i (y := (nI 3)) (by rw [p1]) ?_
  refine lv_iconst (v := (nI 3)) hx hb d_M_merge_60 (by decide) ?_
  refine lv_icmp_ne (tgt := 108) hx hb d_M_merge_61 (by decide) (fun c_61 => absurd (rfl) c_61) (fun c_61 => ?_)
  refine lv_aload_n hx hb d_M_merge_64 rfl (lv_at hl 2 rfl) ?_
  refine va_get (D := D) (ci := 4) (v := .ref a1) (C := R_M) (T := T_M) (N := 12) hx hb (us_M G hW) (fun _ h => h) hown hK hP 0 rfl rfl 1 (by decide) (fl_M_7 G hW) (fun _ h9 => h9) rfl d_M_merge_65 ?_
  refine lv_iload_n hx hb d_M_merge_68 rfl (lv_at hl 4 rfl) ?_
  refine ia_ld hx hb hK hP 1 (j := j) rfl (hj2) (by decide) d_M_merge_69 ?_
  refine tp_i (y := (nI (ki j))) rfl ?_
  refine tp_i (y := (nI 3)) (by rw [q1]) ?_
  refine lv_iconst (v := (nI 3)) hx hb d_M_merge_70 (by decide) ?_
  refine lv_icmp_ne (tgt := 108) hx hb d_M_merge_71 (by decide) (fun c_71 => absurd (rfl) c_71) (fun c_71 => ?_)
  refine lv_aload_n hx hb d_M_merge_74 rfl (lv_at hl 2 rfl) ?_
  refine va_get (D := D) (ci := 4) (v := .ref a2) (C := R_M) (T := T_M) (N := 12) hx hb (us_M G hW) (fun _ h => h) hown hK hP 0 rfl rfl 2 (by decide) (fl_M_13 G hW) (fun _ h9 => h9) rfl d_M_merge_75 ?_
  refine lv_iload_n hx hb d_M_merge_78 rfl (lv_at hl 3 rfl) ?_
  refine ia_ld hx hb hK hP 2 (j := j) rfl (hj) (by decide) d_M_merge_79 ?_
  refine tp_i (y := (nI (ka j))) rfl ?_
  refine tp_i (y := (nI A)) (by rw [p2]) ?_
  refine lv_aload_n hx hb d_M_merge_80 rfl (lv_at hl 2 rfl) ?_
  refine va_get (D := D) (ci := 4) (v := .ref a2) (C := R_M) (T := T_M) (N := 12) hx hb (us_M G hW) (fun _ h => h) hown hK hP 0 rfl rfl 2 (by decide) (fl_M_13 G hW) (fun _ h9 => h9) rfl d_M_merge_81 ?_
  refine lv_iload_n hx hb d_M_merge_84 rfl (lv_at hl 4 rfl) ?_
  refine ia_ld hx hb hK hP 2 (j := j) rfl (hj2) (by decide) d_M_merge_85 ?_
  refine tp_i (y := (nI (ka j))) rfl ?_
  refine tp_i (y := (nI A)) (by rw [q2]) ?_
  refine lv_icmp_ne (tgt := 108) hx hb d_M_merge_86 (by decide) (fun c_86 => absurd (rfl) c_86) (fun c_86 => ?_)
  refine lv_aload_n hx hb d_M_merge_89 rfl (lv_at hl 2 rfl) ?_
  refine va_get (D := D) (ci := 4) (v := .ref a3) (C := R_M) (T := T_M) (N := 12) hx hb (us_M G hW) (fun _ h => h) hown hK hP 0 rfl rfl 3 (by decide) (fl_M_16 G hW) (fun _ h9 => h9) rfl d_M_merge_90 ?_
  refine lv_iload_n hx hb d_M_merge_93 rfl (lv_at hl 3 rfl) ?_
  refine ia_ld hx hb hK hP 3 (j := j) rfl (hj) (by decide) d_M_merge_94 ?_
  refine tp_i (y := (nI (kb j))) rfl ?_
  refine tp_i (y := (nI B)) (by rw [p3]) ?_
  refine lv_aload_n hx hb d_M_merge_95 rfl (lv_at hl 2 rfl) ?_
  refine va_get (D := D) (ci := 4) (v := .ref a3) (C := R_M) (T := T_M) (N := 12) hx hb (us_M G hW) (fun _ h => h) hown hK hP 0 rfl rfl 3 (by decide) (fl_M_16 G hW) (fun _ h9 => h9) rfl d_M_merge_96 ?_
  refine lv_iload_n hx hb d_M_merge_99 rfl (lv_at hl 4 rfl) ?_
  refine ia_ld hx hb hK hP 3 (j := j) rfl (hj2) (by decide) d_M_merge_100 ?_
  refine tp_i (y := (nI (kb j))) rfl ?_
  refine tp_i (y := (nI B)) (by rw [q3]) ?_
  refine lv_icmp_ne (tgt := 108) hx hb d_M_merge_101 (by decide) (fun c_101 => absurd (rfl) c_101) (fun c_101 => ?_)
  refine lv_iconst (v := (nI 1)) hx hb d_M_merge_104 (by decide) ?_
  refine lv_goto (tgt := 109) hx hb d_M_merge_105 (by decide) ?_
  refine lv_istore (lv' := [(5, .int (nI 1)), (4, .int (nI 1)), (3, .int (nI 1)), (0, .ref hm), (1, .int (nI j)), (2, .int (nI j))]) hx hb d_M_merge_109 hl (by decide) rfl (fun ls hl => ?_)
  refine lv_aload_n hx hb d_M_merge_111 rfl (lv_at hl 3 rfl) ?_
  refine lv_iload_n hx hb d_M_merge_112 rfl (lv_at hl 2 rfl) ?_
  refine lv_if_ne (tgt := 120) hx hb d_M_merge_113 (by decide) (fun c_113 => ?_) (fun c_113 => absurd c_113 (by decide))
  refine lv_iload hx hb d_M_merge_120 (lv_at hl 1 rfl) ?_
  refine lv_if_ne (tgt := 129) hx hb d_M_merge_122 (by decide) (fun c_122 => ?_) (fun c_122 => absurd c_122 (by decide))
  refine lv_iload hx hb d_M_merge_129 (lv_at hl 0 rfl) ?_
  refine lv_if_ne (tgt := 138) hx hb d_M_merge_131 (by decide) (fun c_131 => ?_) (fun c_131 => absurd c_131 (by decide))
  refine lv_aload_n hx hb d_M_merge_138 rfl (lv_at hl 3 rfl) ?_
  refine va_get (D := D) (ci := 4) (v := .ref a4) (C := R_M) (T := T_M) (N := 12) hx hb (us_M G hW) (fun _ h => h) hown hK hP 0 rfl rfl 4 (by decide) (fl_M_19 G hW) (fun _ h9 => h9) rfl d_M_merge_139 ?_
  refine lv_iload_n hx hb d_M_merge_142 rfl (lv_at hl 4 rfl) ?_
  refine ia_ld hx hb hK hP 4 (j := j) rfl (hj) (by decide) d_M_merge_143 ?_
  refine tp_i (y := (nI n)) (p4n) ?_
  refine lv_aload_n hx hb d_M_merge_144 rfl (lv_at hl 3 rfl) ?_
  refine va_get (D := D) (ci := 4) (v := .ref a4) (C := R_M) (T := T_M) (N := 12) hx hb (us_M G hW) (fun _ h => h) hown hK hP 0 rfl rfl 4 (by decide) (fl_M_19 G hW) (fun _ h9 => h9) rfl d_M_merge_145 ?_
  refine lv_iload_n hx hb d_M_merge_148 rfl (lv_at hl 5 rfl) ?_
  refine ia_ld hx hb hK hP 4 (j := j) rfl (hj2) (by decide) d_M_merge_149 ?_
  refine tp_i (y := (nI n)) (q4n) ?_
  refine lv_iadd hx hb d_M_merge_150 ?_
  refine tp_i (y := (nI (n + n))) (nI_add _ _) ?_
  refine lv_iconst (v := (nI 1)) hx hb d_M_merge_151 (by decide) ?_
  refine lv_aload_n hx hb d_M_merge_152 rfl (lv_at hl 3 rfl) ?_
  refine va_get (D := D) (ci := 4) (v := .ref a2) (C := R_M) (T := T_M) (N := 12) hx hb (us_M G hW) (fun _ h => h) hown hK hP 0 rfl rfl 2 (by decide) (fl_M_13 G hW) (fun _ h9 => h9) rfl d_M_merge_153 ?_
  refine lv_iload_n hx hb d_M_merge_156 rfl (lv_at hl 4 rfl) ?_
  refine ia_ld hx hb hK hP 2 (j := j) rfl (hj) (by decide) d_M_merge_157 ?_
  refine tp_i (y := (nI (ka j))) rfl ?_
  refine tp_i (y := (nI A)) (by rw [p2]) ?_
  refine lv_ishl hx hb d_M_merge_158 ?_
  refine tp_i (y := (nI (2 ^ A))) (pw_shl A (by omega)) ?_
  refine lv_icmp_le (tgt := 166) hx hb d_M_merge_159 (by decide) (fun c_159 => ?_) (fun c_159 => absurd (nI_le hfl (by omega)) c_159)
  refine lv_iconst (v := (nI 0)) hx hb d_M_merge_166 (by decide) ?_
  refine va_put (D := D) (ci := 4) (v := .int (nI 0)) (ty := .int) (C := R_M) (T := T_M) (N := 12) hx hb (us_M G hW) (fun _ h => h) t_M to_M nm_M hown hK hP hD hS 0 rfl rfl 0 (by decide) (fl_M_43 G hW) (fun _ h9 => h9) rfl (by decide +kernel) rfl rfl (Nat.le_of_ble_eq_true rfl) d_M_merge_167 (fun H locs hP hD hS => ?_)
  have hP : va_P D vcl [(hm, .inr (4, [.int (nI 0), .ref a1, .ref a2, .ref a3, .ref a4, .ref a5, .ref a6, .ref a7, .ref a8, .ref a9, .ref a10, .ref a11])), (a1, aN cI 4 ki), (a2, aN cI 4 ka), (a3, aN cI 4 kb), (a4, aI cI 4 zs), (a5, aI cI 4 pu), (a6, aN cI 4096 ce), (a7, aN cI 1024 pa), (a8, aN cI 1024 tr), (a9, aI cI 256 so), (a10, aN cI 6 pl), (a11, aN cI 6 ot)] H := hP
  have hD : va_D (Aa [hm, a1, a2, a3, a4, a5, a6, a7, a8, a9, a10, a11] H0.size) [(hm, .inr (4, [.int (nI 0), .ref a1, .ref a2, .ref a3, .ref a4, .ref a5, .ref a6, .ref a7, .ref a8, .ref a9, .ref a10, .ref a11])), (a1, aN cI 4 ki), (a2, aN cI 4 ka), (a3, aN cI 4 kb), (a4, aI cI 4 zs), (a5, aI cI 4 pu), (a6, aN cI 4096 ce), (a7, aN cI 1024 pa), (a8, aN cI 1024 tr), (a9, aI cI 256 so), (a10, aN cI 6 pl), (a11, aN cI 6 ot)] := hD
  refine lv_aload_n hx hb d_M_merge_170 rfl (lv_at hl 3 rfl) ?_
  refine va_get (D := D) (ci := 4) (v := .int (nI 0)) (C := R_M) (T := T_M) (N := 12) hx hb (us_M G hW) (fun _ h => h) hown hK hP 0 rfl rfl 0 (by decide) (fl_M_43 G hW) (fun _ h9 => h9) rfl d_M_merge_171 ?_
  refine lv_if_le (tgt := 179) hx hb d_M_merge_174 (by decide) (fun c_174 => ?_) (fun c_174 => absurd (by decide) c_174)
  refine lv_aload_n hx hb d_M_merge_179 rfl (lv_at hl 3 rfl) ?_
  refine va_get (D := D) (ci := 4) (v := .ref a4) (C := R_M) (T := T_M) (N := 12) hx hb (us_M G hW) (fun _ h => h) hown hK hP 0 rfl rfl 4 (by decide) (fl_M_19 G hW) (fun _ h9 => h9) rfl d_M_merge_180 ?_
  refine lv_iload_n hx hb d_M_merge_183 rfl (lv_at hl 5 rfl) ?_
  refine ia_ld hx hb hK hP 4 (j := j) rfl (hj2) (by decide) d_M_merge_184 ?_
  refine tp_i (y := (nI n)) (q4n) ?_
  refine lv_istore (lv' := [(6, .int (nI n)), (5, .int (nI 1)), (4, .int (nI 1)), (3, .int (nI 1)), (0, .ref hm), (1, .int (nI j)), (2, .int (nI j))]) hx hb d_M_merge_185 hl (by decide) rfl (fun ls hl => ?_)
  refine lv_iconst (v := (nI 0)) hx hb d_M_merge_187 (by decide) ?_
  refine lv_istore (lv' := [(7, .int (nI 0)), (6, .int (nI n)), (5, .int (nI 1)), (4, .int (nI 1)), (3, .int (nI 1)), (0, .ref hm), (1, .int (nI j)), (2, .int (nI j))]) hx hb d_M_merge_188 hl (by decide) rfl (fun ls hl => ?_)
  have loop_190 : ∀ (k : Nat) (i : Nat), (i + k = n) → ∀ (H : Heap) (locs : List Loc), va_P D vcl [(hm, .inr (4, [.int (nI 0), .ref a1, .ref a2, .ref a3, .ref a4, .ref a5, .ref a6, .ref a7, .ref a8, .ref a9, .ref a10, .ref a11])), (a1, aN cI 4 ki), (a2, aN cI 4 ka), (a3, aN cI 4 kb), (a4, aI cI 4 (upd zs j (nI (n + i)))), (a5, aI cI 4 pu), (a6, aN cI 4096 ce), (a7, aN cI 1024 (stO 256 pa (256 * j) (itE (vw pa (256 * j)) n (fun q => enc B (f q)) i))), (a8, aN cI 1024 tr), (a9, aI cI 256 so), (a10, aN cI 6 pl), (a11, aN cI 6 ot)] H → va_D (Aa [hm, a1, a2, a3, a4, a5, a6, a7, a8, a9, a10, a11] H0.size) [(hm, .inr (4, [.int (nI 0), .ref a1, .ref a2, .ref a3, .ref a4, .ref a5, .ref a6, .ref a7, .ref a8, .ref a9, .ref a10, .ref a11])), (a1, aN cI 4 ki), (a2, aN cI 4 ka), (a3, aN cI 4 kb), (a4, aI cI 4 (upd zs j (nI (n + i)))), (a5, aI cI 4 pu), (a6, aN cI 4096 ce), (a7, aN cI 1024 (stO 256 pa (256 * j) (itE (vw pa (256 * j)) n (fun q => enc B (f q)) i))), (a8, aN cI 1024 tr), (a9, aI cI 256 so), (a10, aN cI 6 pl), (a11, aN cI 6 ot)] → va_S (Aa [hm, a1, a2, a3, a4, a5, a6, a7, a8, a9, a10, a11] H0.size) H0 H locs → ∀ (ls : Array Slot), lv_has ls 9 [(7, .int (nI i)), (6, .int (nI n)), (5, .int (nI 1)), (4, .int (nI 1)), (3, .int (nI 1)), (0, .ref hm), (1, .int (nI j)), (2, .int (nI j))] → W p l e { frames := 7, cells := 0, slots := 0, locals := 170 } s m ([.ref hm, .int (nI j), .int (nI j)] : List Value).toArray below meth c H locs 0 0 (MQx below (Rw (.int (nI (n + n))) (fun H1 => MP D cI hm a1 a2 a3 a4 a5 a6 a7 a8 a9 a10 a11 (nI 0) (va_up S j (3, A, B, nI (n + n), pv, cs, n + n, mrg f (n + n) n n f)) H1)) s 0 0 (Aa [hm, a1, a2, a3, a4, a5, a6, a7, a8, a9, a10, a11] H0.size)) (F0 m 190 ls []) := by
    intro k
    induction k with
    | zero =>
      intro i hk H locs hP hD hS ls hl
      refine lv_iload hx hb d_M_merge_190 (lv_at hl 0 rfl) ?_
      refine lv_iload hx hb d_M_merge_192 (lv_at hl 1 rfl) ?_
      refine lv_icmp_ge (tgt := 253) hx hb d_M_merge_194 (by decide) (fun c_194 => ?_) (fun c_194 => absurd (nI_le (by omega) (by omega)) c_194)
      refine lv_aload_n hx hb d_M_merge_253 rfl (lv_at hl 5 rfl) ?_
      refine va_get (D := D) (ci := 4) (v := .ref a4) (C := R_M) (T := T_M) (N := 12) hx hb (us_M G hW) (fun _ h => h) hown hK hP 0 rfl rfl 4 (by decide) (fl_M_19 G hW) (fun _ h9 => h9) rfl d_M_merge_254 ?_
      refine lv_iload_n hx hb d_M_merge_257 rfl (lv_at hl 6 rfl) ?_
      refine ia_ld hx hb hK hP 4 (j := j) rfl (hj) (by decide) d_M_merge_258 ?_
      refine tp_i (y := (nI (n + n))) (by rw [upd_eq, show i = n by omega]) ?_
      exact mx_iret hx hb hr hlk d_M_merge_259 (Nat.le_of_ble_eq_true rfl) (Nat.le_of_ble_eq_true rfl) hS.2.2 (⟨rfl, ki, ka, kb, _, pu, ce, _, tr, so, pl, ot, hP, pics_up hpic hok (PicM.k3 p1 p2 p3 (by rw [upd_eq, show i = n by omega]) (fun q hq9 => by rw [stO_at (by omega), show i = n by omega, itE_spec (n2 := n) (R := vw pa (256 * j)) hqB hsr p5 n q hq9, mrg_it hsr hsr q hq9]) (fun q hq9 => by rw [vw_stO hq9]; exact itE_lt p6 i (by omega) (fun i9 hi9 => enc_lt hqA hqB (hq.2.2.2.2.2.2 i9 (by omega))) q hq9)) id_off id_off id_off upd_off id_off idC offP⟩)
    | succ k ih_190 =>
      intro i hk H locs hP hD hS ls hl
      refine lv_iload hx hb d_M_merge_190 (lv_at hl 0 rfl) ?_
      refine lv_iload hx hb d_M_merge_192 (lv_at hl 1 rfl) ?_
      refine lv_icmp_ge (tgt := 253) hx hb d_M_merge_194 (by decide) (fun c_194 => absurd c_194 (nI_ge (by omega) (by omega))) (fun c_194 => ?_)
      refine lv_aload_n hx hb d_M_merge_197 rfl (lv_at hl 5 rfl) ?_
      refine va_get (D := D) (ci := 4) (v := .ref a7) (C := R_M) (T := T_M) (N := 12) hx hb (us_M G hW) (fun _ h => h) hown hK hP 0 rfl rfl 7 (by decide) (fl_M_28 G hW) (fun _ h9 => h9) rfl d_M_merge_198 ?_
      refine lv_sipush (v := (nI 256)) hx hb d_M_merge_201 (by decide) ?_
      refine lv_iload_n hx hb d_M_merge_204 rfl (lv_at hl 7 rfl) ?_
      refine lv_imul hx hb d_M_merge_205 ?_
      refine tp_i (y := (nI (256 * j))) (pk_mul _ _) ?_
      refine lv_iload_n hx hb d_M_merge_206 rfl (lv_at hl 6 rfl) ?_
      refine lv_iload_n hx hb d_M_merge_207 rfl (lv_at hl 7 rfl) ?_
      refine lv_icmp_ne (tgt := 218) hx hb d_M_merge_208 (by decide) (fun c_208 => absurd (rfl) c_208) (fun c_208 => ?_)
      refine lv_iconst (v := (nI 2)) hx hb d_M_merge_211 (by decide) ?_
      refine lv_iload hx hb d_M_merge_212 (lv_at hl 0 rfl) ?_
      refine lv_imul hx hb d_M_merge_214 ?_
      refine tp_i (y := (nI (2 * i))) (pk_mul _ _) ?_
      refine lv_goto (tgt := 220) hx hb d_M_merge_215 (by decide) ?_
      refine lv_iadd hx hb d_M_merge_220 ?_
      refine tp_i (y := (nI ((256 * j) + 2 * i))) (nI_add _ _) ?_
      refine ia_ld hx hb hK hP 7 (j := ((256 * j) + 2 * i)) rfl (by omega) (by decide) d_M_merge_221 ?_
      refine tp_i (y := (nI ((stO 256 pa (256 * j) (itE (vw pa (256 * j)) n (fun q => enc B (f q)) i)) ((256 * j) + 2 * i)))) rfl ?_
      refine tp_i (y := (nI (enc B (f i)))) (by rw [stO_at (by omega), itE_spec (n2 := n) (R := vw pa (256 * j)) hqB hsr p5 i (2 * i) (by omega), itI_two hsr (by omega)]) ?_
      refine lv_istore (lv' := [(8, .int (nI (enc B (f i)))), (7, .int (nI i)), (6, .int (nI n)), (5, .int (nI 1)), (4, .int (nI 1)), (3, .int (nI 1)), (0, .ref hm), (1, .int (nI j)), (2, .int (nI j))]) hx hb d_M_merge_222 hl (by decide) rfl (fun ls hl => ?_)
      refine lv_aload_n hx hb d_M_merge_224 rfl (lv_at hl 6 rfl) ?_
      refine lv_iload_n hx hb d_M_merge_225 rfl (lv_at hl 7 rfl) ?_
      refine lv_aload_n hx hb d_M_merge_226 rfl (lv_at hl 6 rfl) ?_
      refine va_get (D := D) (ci := 4) (v := .ref a4) (C := R_M) (T := T_M) (N := 12) hx hb (us_M G hW) (fun _ h => h) hown hK hP 0 rfl rfl 4 (by decide) (fl_M_19 G hW) (fun _ h9 => h9) rfl d_M_merge_227 ?_
      refine lv_iload_n hx hb d_M_merge_230 rfl (lv_at hl 7 rfl) ?_
      refine ia_ld hx hb hK hP 4 (j := j) rfl (hj) (by decide) d_M_merge_231 ?_
      refine tp_i (y := (nI (n + i))) (upd_eq) ?_
      refine lv_iload hx hb d_M_merge_232 (lv_at hl 0 rfl) ?_
      refine mx_callN (c_M_insertPair G hm a1 a2 a3 a4 a5 a6 a7 a8 a9 a10 a11 (nI 0) ki ka kb (upd zs j (nI (n + i))) pu ce (stO 256 pa (256 * j) (itE (vw pa (256 * j)) n (fun q => enc B (f q)) i)) tr so pl ot j (n + i) (enc B (f i)) hP hD hj (by omega) (enc_lt hqA hqB (hq.2.2.2.2.2.2 i (by omega))) (fun q hq9 => by rw [vw_stO hq9]; exact itE_lt p6 i (by omega) (fun i9 hi9 => enc_lt hqA hqB (hq.2.2.2.2.2.2 i9 (by omega))) q hq9)) hW (iv_M_merge_234 G hx hb hown hW (va_recv hK hP (ci := 4) (q0 := 0) rfl rfl) [.int (nI j), .int (nI (n + i)), .int (nI (enc B (f i)))] [] rfl) hml hl.1 (by rw [hb]; exact d_M_merge_234) (cd_M_insertPair G hW) ⟨Nat.le_of_ble_eq_true rfl, Nat.le_of_ble_eq_true rfl⟩ (Nat.le_of_ble_eq_true rfl) (Nat.le_of_ble_eq_true rfl) (Nat.le_of_ble_eq_true rfl) hS (Aa.mono (fun _ h => h) hS.1) (fun H locs hP _ _ hS => ?_)
      rw [show enc B (f i) = (fun q => enc B (f q)) i from rfl, stO_its (by omega)] at hP
      have hP : va_P D vcl [(hm, .inr (4, [.int (nI 0), .ref a1, .ref a2, .ref a3, .ref a4, .ref a5, .ref a6, .ref a7, .ref a8, .ref a9, .ref a10, .ref a11])), (a1, aN cI 4 ki), (a2, aN cI 4 ka), (a3, aN cI 4 kb), (a4, aI cI 4 (upd zs j (nI (n + i)))), (a5, aI cI 4 pu), (a6, aN cI 4096 ce), (a7, aN cI 1024 (stO 256 pa (256 * j) (itE (vw pa (256 * j)) n (fun q => enc B (f q)) (i + 1)))), (a8, aN cI 1024 tr), (a9, aI cI 256 so), (a10, aN cI 6 pl), (a11, aN cI 6 ot)] H := hP
      have hD : va_D (Aa [hm, a1, a2, a3, a4, a5, a6, a7, a8, a9, a10, a11] H0.size) [(hm, .inr (4, [.int (nI 0), .ref a1, .ref a2, .ref a3, .ref a4, .ref a5, .ref a6, .ref a7, .ref a8, .ref a9, .ref a10, .ref a11])), (a1, aN cI 4 ki), (a2, aN cI 4 ka), (a3, aN cI 4 kb), (a4, aI cI 4 (upd zs j (nI (n + i)))), (a5, aI cI 4 pu), (a6, aN cI 4096 ce), (a7, aN cI 1024 (stO 256 pa (256 * j) (itE (vw pa (256 * j)) n (fun q => enc B (f q)) (i + 1)))), (a8, aN cI 1024 tr), (a9, aI cI 256 so), (a10, aN cI 6 pl), (a11, aN cI 6 ot)] := va_D.same2 [hm, a1, a2, a3, a4, a5, a6, a7, a8, a9, a10, a11] hD rfl rfl
      refine lv_aload_n hx hb d_M_merge_237 rfl (lv_at hl 6 rfl) ?_
      refine va_get (D := D) (ci := 4) (v := .ref a4) (C := R_M) (T := T_M) (N := 12) hx hb (us_M G hW) (fun _ h => h) hown hK hP 0 rfl rfl 4 (by decide) (fl_M_19 G hW) (fun _ h9 => h9) rfl d_M_merge_238 ?_
      refine lv_iload_n hx hb d_M_merge_241 rfl (lv_at hl 7 rfl) ?_
      refine lv_dup2_11 hx hb d_M_merge_242 rfl rfl ?_
      refine ia_ld hx hb hK hP 4 (j := j) rfl (hj) (by decide) d_M_merge_243 ?_
      refine tp_i (y := (nI (n + i))) (upd_eq) ?_
      refine lv_iconst (v := (nI 1)) hx hb d_M_merge_244 (by decide) ?_
      refine lv_iadd hx hb d_M_merge_245 ?_
      refine tp_i (y := (nI (n + (i + 1)))) (by rw [nI_add, Nat.add_assoc]) ?_
      refine ia_st hx hb hK hP hD hS 4 (j := j) rfl (hj) (by decide) d_M_merge_246 (fun H locs hP hD hS => ?_)
      have hP : va_P D vcl [(hm, .inr (4, [.int (nI 0), .ref a1, .ref a2, .ref a3, .ref a4, .ref a5, .ref a6, .ref a7, .ref a8, .ref a9, .ref a10, .ref a11])), (a1, aN cI 4 ki), (a2, aN cI 4 ka), (a3, aN cI 4 kb), (a4, aI cI 4 (upd (upd zs j (nI (n + i))) j (nI (n + (i + 1))))), (a5, aI cI 4 pu), (a6, aN cI 4096 ce), (a7, aN cI 1024 (stO 256 pa (256 * j) (itE (vw pa (256 * j)) n (fun q => enc B (f q)) (i + 1)))), (a8, aN cI 1024 tr), (a9, aI cI 256 so), (a10, aN cI 6 pl), (a11, aN cI 6 ot)] H := hP
      have hD : va_D (Aa [hm, a1, a2, a3, a4, a5, a6, a7, a8, a9, a10, a11] H0.size) [(hm, .inr (4, [.int (nI 0), .ref a1, .ref a2, .ref a3, .ref a4, .ref a5, .ref a6, .ref a7, .ref a8, .ref a9, .ref a10, .ref a11])), (a1, aN cI 4 ki), (a2, aN cI 4 ka), (a3, aN cI 4 kb), (a4, aI cI 4 (upd (upd zs j (nI (n + i))) j (nI (n + (i + 1))))), (a5, aI cI 4 pu), (a6, aN cI 4096 ce), (a7, aN cI 1024 (stO 256 pa (256 * j) (itE (vw pa (256 * j)) n (fun q => enc B (f q)) (i + 1)))), (a8, aN cI 1024 tr), (a9, aI cI 256 so), (a10, aN cI 6 pl), (a11, aN cI 6 ot)] := hD
      rw [upd_upd] at hP hD
      refine lv_iinc (v := (nI (i + 1))) (lv' := [(7, .int (nI (i + 1))), (8, .int (nI (enc B (f i)))), (6, .int (nI n)), (5, .int (nI 1)), (4, .int (nI 1)), (3, .int (nI 1)), (0, .ref hm), (1, .int (nI j)), (2, .int (nI j))]) hx hb d_M_merge_247 hl (k := 1) rfl (nI_1 _) (by decide) rfl (fun ls hl => ?_)
      refine lv_goto (tgt := 190) hx hb d_M_merge_250 (by decide) ?_
      exact ih_190 (i + 1) (by omega) H locs hP hD hS ls (lv_sub hl [0, 2, 3, 4, 5, 6, 7, 8] rfl)
  rw [← stO_it0 pa (256 * j) n (fun q => enc B (f q)), ← upd_id (f := zs) (j := j) (a := nI (n + 0)) p4n] at hP hD
  exact loop_190 (n) (0) (by omega) H locs hP hD hS ls (lv_sub hl [0, 1, 2, 3, 4, 5, 6, 7] rfl)

set_option maxHeartbeats 4000000 in
set_option maxRecDepth 100000 in
theorem c_M_init {l : Launch} {s0 : State} {D : va_G} {cI cF cJ : ClassId} (G : Gx l s0 D cI cF cJ) (hm : Nat) {H0 : Heap} {A0 : Nat → Prop} (hP : va_P D vcl [(hm, .inr (4, [.int 0, .null, .null, .null, .null, .null, .null, .null, .null, .null, .null, .null]))] H0) (hD : va_D A0 [(hm, .inr (4, [.int 0, .null, .null, .null, .null, .null, .null, .null, .null, .null, .null, .null]))]) : Mx l s0 y_M_init (.code y_M_init b_M_init 1 none) { frames := 1, cells := 11, slots := 6432, locals := 12 } [.ref hm] H0 (Aa [hm] H0.size) (Rn (fun H1 => ∃ a1 a2 a3 a4 a5 a6 a7 a8 a9 a10 a11 : Nat, va_P D vcl [(hm, .inr (4, [.int 0, .ref a1, .ref a2, .ref a3, .ref a4, .ref a5, .ref a6, .ref a7, .ref a8, .ref a9, .ref a10, .ref a11])), (a1, aN cI 4 (fun _ => 0)), (a2, aN cI 4 (fun _ => 0)), (a3, aN cI 4 (fun _ => 0)), (a4, aN cI 4 (fun _ => 0)), (a5, aN cI 4 (fun _ => 0)), (a6, aN cI 4096 (fun _ => 0)), (a7, aN cI 1024 (fun _ => 0)), (a8, aN cI 1024 (fun _ => 0)), (a9, aN cI 256 (fun _ => 0)), (a10, aN cI 6 (fun _ => 0)), (a11, aN cI 6 (fun _ => 0))] H1 ∧ va_D (Aa [hm] H0.size) [(hm, .inr (4, [.int 0, .ref a1, .ref a2, .ref a3, .ref a4, .ref a5, .ref a6, .ref a7, .ref a8, .ref a9, .ref a10, .ref a11])), (a1, aN cI 4 (fun _ => 0)), (a2, aN cI 4 (fun _ => 0)), (a3, aN cI 4 (fun _ => 0)), (a4, aN cI 4 (fun _ => 0)), (a5, aN cI 4 (fun _ => 0)), (a6, aN cI 4096 (fun _ => 0)), (a7, aN cI 1024 (fun _ => 0)), (a8, aN cI 1024 (fun _ => 0)), (a9, aN cI 256 (fun _ => 0)), (a10, aN cI 6 (fun _ => 0)), (a11, aN cI 6 (fun _ => 0))])) := by
  refine Mx.ofW (own := "FewBitsModel") rfl rfl ?_
  rintro p e s m below meth c ⟨hx, hb, hml, hr, hown, hW, hlk⟩ hnm het hH
  have hK := G.k hW
  have hD := hD.aa (sz := H0.size)
  have hD : va_D (Aa [hm] H0.size) [(hm, .inr (4, [.int 0, .null, .null, .null, .null, .null, .null, .null, .null, .null, .null, .null]))] := hD
  have hS : va_S (Aa [hm] H0.size) H0 H0 [] := va_S.rf
  have hl := lv_entry ([.ref hm]) (n := 1) (Nat.le_of_ble_eq_true rfl)
  rw [lg_entry_eq]
  generalize (lg_sl ([.ref hm]) ++ List.replicate (1 - (lg_sl ([.ref hm])).length) Slot.unset).toArray = ls at hl ⊢
  have hl : lv_has ls 1 [(0, .ref hm)] := hl
  refine lv_aload_n hx hb d_M_init_0 rfl (lv_at hl 0 rfl) ?_
  refine W.objInit hx hb hown (G.1.at 652 rfl rfl _ hW) (G.1.at 24 rfl rfl _ hW) (G.1.at 25 rfl rfl _ hW) rfl (by rw [hml]; exact hl.1) rfl d_M_init_1 (Nat.le_of_ble_eq_true rfl) (Nat.le_of_ble_eq_true rfl) ?_
  refine W.eq (g2 := F0 m 4 ls []) rfl ?_
  refine lv_aload_n hx hb d_M_init_4 rfl (lv_at hl 0 rfl) ?_
  refine lv_iconst (v := (nI 4)) hx hb d_M_init_5 (by decide) ?_
  refine na_i (N := 4) hx hb (G.1.at 203 rfl rfl _ hW) hK hP hD hS Aa.up (by decide) (Nat.le_of_ble_eq_true rfl) (Nat.le_of_ble_eq_true rfl) d_M_init_6 (fun a1 H hP hD hS => ?_)
  have hP : va_P D vcl [(hm, .inr (4, [.int 0, .null, .null, .null, .null, .null, .null, .null, .null, .null, .null, .null])), (a1, aN cI 4 (fun _ => 0))] H := hP
  have hD : va_D (Aa [hm] H0.size) [(hm, .inr (4, [.int 0, .null, .null, .null, .null, .null, .null, .null, .null, .null, .null, .null])), (a1, aN cI 4 (fun _ => 0))] := hD
  refine va_putF (D := D) (ci := 4) (v := .ref a1) (ty := .array .int) (C := R_M) (T := T_M) (N := 12) hx hb (us_M G hW) (fun _ h => h) t_M to_M nm_M hown hK hP hD hS 0 rfl rfl 1 (by decide) (fl_M_7 G hW) (fun _ h9 => h9) rfl hnm rfl (by decide +kernel) rfl rfl (Nat.le_of_ble_eq_true rfl) d_M_init_8 (fun H locs hP hD hS => ?_)
  have hP : va_P D vcl [(hm, .inr (4, [.int 0, .ref a1, .null, .null, .null, .null, .null, .null, .null, .null, .null, .null])), (a1, aN cI 4 (fun _ => 0))] H := hP
  have hD : va_D (Aa [hm] H0.size) [(hm, .inr (4, [.int 0, .ref a1, .null, .null, .null, .null, .null, .null, .null, .null, .null, .null])), (a1, aN cI 4 (fun _ => 0))] := hD
  refine lv_aload_n hx hb d_M_init_11 rfl (lv_at hl 0 rfl) ?_
  refine lv_iconst (v := (nI 4)) hx hb d_M_init_12 (by decide) ?_
  refine na_i (N := 4) hx hb (G.1.at 203 rfl rfl _ hW) hK hP hD hS Aa.up (by decide) (Nat.le_of_ble_eq_true rfl) (Nat.le_of_ble_eq_true rfl) d_M_init_13 (fun a2 H hP hD hS => ?_)
  have hP : va_P D vcl [(hm, .inr (4, [.int 0, .ref a1, .null, .null, .null, .null, .null, .null, .null, .null, .null, .null])), (a1, aN cI 4 (fun _ => 0)), (a2, aN cI 4 (fun _ => 0))] H := hP
  have hD : va_D (Aa [hm] H0.size) [(hm, .inr (4, [.int 0, .ref a1, .null, .null, .null, .null, .null, .null, .null, .null, .null, .null])), (a1, aN cI 4 (fun _ => 0)), (a2, aN cI 4 (fun _ => 0))] := hD
  refine va_putF (D := D) (ci := 4) (v := .ref a2) (ty := .array .int) (C := R_M) (T := T_M) (N := 12) hx hb (us_M G hW) (fun _ h => h) t_M to_M nm_M hown hK hP hD hS 0 rfl rfl 2 (by decide) (fl_M_13 G hW) (fun _ h9 => h9) rfl hnm rfl (by decide +kernel) rfl rfl (Nat.le_of_ble_eq_true rfl) d_M_init_15 (fun H locs hP hD hS => ?_)
  have hP : va_P D vcl [(hm, .inr (4, [.int 0, .ref a1, .ref a2, .null, .null, .null, .null, .null, .null, .null, .null, .null])), (a1, aN cI 4 (fun _ => 0)), (a2, aN cI 4 (fun _ => 0))] H := hP
  have hD : va_D (Aa [hm] H0.size) [(hm, .inr (4, [.int 0, .ref a1, .ref a2, .null, .null, .null, .null, .null, .null, .null, .null, .null])), (a1, aN cI 4 (fun _ => 0)), (a2, aN cI 4 (fun _ => 0))] := hD
  refine lv_aload_n hx hb d_M_init_18 rfl (lv_at hl 0 rfl) ?_
  refine lv_iconst (v := (nI 4)) hx hb d_M_init_19 (by decide) ?_
  refine na_i (N := 4) hx hb (G.1.at 203 rfl rfl _ hW) hK hP hD hS Aa.up (by decide) (Nat.le_of_ble_eq_true rfl) (Nat.le_of_ble_eq_true rfl) d_M_init_20 (fun a3 H hP hD hS => ?_)
  have hP : va_P D vcl [(hm, .inr (4, [.int 0, .ref a1, .ref a2, .null, .null, .null, .null, .null, .null, .null, .null, .null])), (a1, aN cI 4 (fun _ => 0)), (a2, aN cI 4 (fun _ => 0)), (a3, aN cI 4 (fun _ => 0))] H := hP
  have hD : va_D (Aa [hm] H0.size) [(hm, .inr (4, [.int 0, .ref a1, .ref a2, .null, .null, .null, .null, .null, .null, .null, .null, .null])), (a1, aN cI 4 (fun _ => 0)), (a2, aN cI 4 (fun _ => 0)), (a3, aN cI 4 (fun _ => 0))] := hD
  refine va_putF (D := D) (ci := 4) (v := .ref a3) (ty := .array .int) (C := R_M) (T := T_M) (N := 12) hx hb (us_M G hW) (fun _ h => h) t_M to_M nm_M hown hK hP hD hS 0 rfl rfl 3 (by decide) (fl_M_16 G hW) (fun _ h9 => h9) rfl hnm rfl (by decide +kernel) rfl rfl (Nat.le_of_ble_eq_true rfl) d_M_init_22 (fun H locs hP hD hS => ?_)
  have hP : va_P D vcl [(hm, .inr (4, [.int 0, .ref a1, .ref a2, .ref a3, .null, .null, .null, .null, .null, .null, .null, .null])), (a1, aN cI 4 (fun _ => 0)), (a2, aN cI 4 (fun _ => 0)), (a3, aN cI 4 (fun _ => 0))] H := hP
  have hD : va_D (Aa [hm] H0.size) [(hm, .inr (4, [.int 0, .ref a1, .ref a2, .ref a3, .null, .null, .null, .null, .null, .null, .null, .null])), (a1, aN cI 4 (fun _ => 0)), (a2, aN cI 4 (fun _ => 0)), (a3, aN cI 4 (fun _ => 0))] := hD
  refine lv_aload_n hx hb d_M_init_25 rfl (lv_at hl 0 rfl) ?_
  refine lv_iconst (v := (nI 4)) hx hb d_M_init_26 (by decide) ?_
  refine na_i (N := 4) hx hb (G.1.at 203 rfl rfl _ hW) hK hP hD hS Aa.up (by decide) (Nat.le_of_ble_eq_true rfl) (Nat.le_of_ble_eq_true rfl) d_M_init_27 (fun a4 H hP hD hS => ?_)
  have hP : va_P D vcl [(hm, .inr (4, [.int 0, .ref a1, .ref a2, .ref a3, .null, .null, .null, .null, .null, .null, .null, .null])), (a1, aN cI 4 (fun _ => 0)), (a2, aN cI 4 (fun _ => 0)), (a3, aN cI 4 (fun _ => 0)), (a4, aN cI 4 (fun _ => 0))] H := hP
  have hD : va_D (Aa [hm] H0.size) [(hm, .inr (4, [.int 0, .ref a1, .ref a2, .ref a3, .null, .null, .null, .null, .null, .null, .null, .null])), (a1, aN cI 4 (fun _ => 0)), (a2, aN cI 4 (fun _ => 0)), (a3, aN cI 4 (fun _ => 0)), (a4, aN cI 4 (fun _ => 0))] := hD
  refine va_putF (D := D) (ci := 4) (v := .ref a4) (ty := .array .int) (C := R_M) (T := T_M) (N := 12) hx hb (us_M G hW) (fun _ h => h) t_M to_M nm_M hown hK hP hD hS 0 rfl rfl 4 (by decide) (fl_M_19 G hW) (fun _ h9 => h9) rfl hnm rfl (by decide +kernel) rfl rfl (Nat.le_of_ble_eq_true rfl) d_M_init_29 (fun H locs hP hD hS => ?_)
  have hP : va_P D vcl [(hm, .inr (4, [.int 0, .ref a1, .ref a2, .ref a3, .ref a4, .null, .null, .null, .null, .null, .null, .null])), (a1, aN cI 4 (fun _ => 0)), (a2, aN cI 4 (fun _ => 0)), (a3, aN cI 4 (fun _ => 0)), (a4, aN cI 4 (fun _ => 0))] H := hP
  have hD : va_D (Aa [hm] H0.size) [(hm, .inr (4, [.int 0, .ref a1, .ref a2, .ref a3, .ref a4, .null, .null, .null, .null, .null, .null, .null])), (a1, aN cI 4 (fun _ => 0)), (a2, aN cI 4 (fun _ => 0)), (a3, aN cI 4 (fun _ => 0)), (a4, aN cI 4 (fun _ => 0))] := hD
  refine lv_aload_n hx hb d_M_init_32 rfl (lv_at hl 0 rfl) ?_
  refine lv_iconst (v := (nI 4)) hx hb d_M_init_33 (by decide) ?_
  refine na_i (N := 4) hx hb (G.1.at 203 rfl rfl _ hW) hK hP hD hS Aa.up (by decide) (Nat.le_of_ble_eq_true rfl) (Nat.le_of_ble_eq_true rfl) d_M_init_34 (fun a5 H hP hD hS => ?_)
  have hP : va_P D vcl [(hm, .inr (4, [.int 0, .ref a1, .ref a2, .ref a3, .ref a4, .null, .null, .null, .null, .null, .null, .null])), (a1, aN cI 4 (fun _ => 0)), (a2, aN cI 4 (fun _ => 0)), (a3, aN cI 4 (fun _ => 0)), (a4, aN cI 4 (fun _ => 0)), (a5, aN cI 4 (fun _ => 0))] H := hP
  have hD : va_D (Aa [hm] H0.size) [(hm, .inr (4, [.int 0, .ref a1, .ref a2, .ref a3, .ref a4, .null, .null, .null, .null, .null, .null, .null])), (a1, aN cI 4 (fun _ => 0)), (a2, aN cI 4 (fun _ => 0)), (a3, aN cI 4 (fun _ => 0)), (a4, aN cI 4 (fun _ => 0)), (a5, aN cI 4 (fun _ => 0))] := hD
  refine va_putF (D := D) (ci := 4) (v := .ref a5) (ty := .array .int) (C := R_M) (T := T_M) (N := 12) hx hb (us_M G hW) (fun _ h => h) t_M to_M nm_M hown hK hP hD hS 0 rfl rfl 5 (by decide) (fl_M_22 G hW) (fun _ h9 => h9) rfl hnm rfl (by decide +kernel) rfl rfl (Nat.le_of_ble_eq_true rfl) d_M_init_36 (fun H locs hP hD hS => ?_)
  have hP : va_P D vcl [(hm, .inr (4, [.int 0, .ref a1, .ref a2, .ref a3, .ref a4, .ref a5, .null, .null, .null, .null, .null, .null])), (a1, aN cI 4 (fun _ => 0)), (a2, aN cI 4 (fun _ => 0)), (a3, aN cI 4 (fun _ => 0)), (a4, aN cI 4 (fun _ => 0)), (a5, aN cI 4 (fun _ => 0))] H := hP
  have hD : va_D (Aa [hm] H0.size) [(hm, .inr (4, [.int 0, .ref a1, .ref a2, .ref a3, .ref a4, .ref a5, .null, .null, .null, .null, .null, .null])), (a1, aN cI 4 (fun _ => 0)), (a2, aN cI 4 (fun _ => 0)), (a3, aN cI 4 (fun _ => 0)), (a4, aN cI 4 (fun _ => 0)), (a5, aN cI 4 (fun _ => 0))] := hD
  refine lv_aload_n hx hb d_M_init_39 rfl (lv_at hl 0 rfl) ?_
  refine lv_sipush (v := (nI 4096)) hx hb d_M_init_40 (by decide) ?_
  refine na_i (N := 4096) hx hb (G.1.at 203 rfl rfl _ hW) hK hP hD hS Aa.up (by decide) (Nat.le_of_ble_eq_true rfl) (Nat.le_of_ble_eq_true rfl) d_M_init_43 (fun a6 H hP hD hS => ?_)
  have hP : va_P D vcl [(hm, .inr (4, [.int 0, .ref a1, .ref a2, .ref a3, .ref a4, .ref a5, .null, .null, .null, .null, .null, .null])), (a1, aN cI 4 (fun _ => 0)), (a2, aN cI 4 (fun _ => 0)), (a3, aN cI 4 (fun _ => 0)), (a4, aN cI 4 (fun _ => 0)), (a5, aN cI 4 (fun _ => 0)), (a6, aN cI 4096 (fun _ => 0))] H := hP
  have hD : va_D (Aa [hm] H0.size) [(hm, .inr (4, [.int 0, .ref a1, .ref a2, .ref a3, .ref a4, .ref a5, .null, .null, .null, .null, .null, .null])), (a1, aN cI 4 (fun _ => 0)), (a2, aN cI 4 (fun _ => 0)), (a3, aN cI 4 (fun _ => 0)), (a4, aN cI 4 (fun _ => 0)), (a5, aN cI 4 (fun _ => 0)), (a6, aN cI 4096 (fun _ => 0))] := hD
  refine va_putF (D := D) (ci := 4) (v := .ref a6) (ty := .array .int) (C := R_M) (T := T_M) (N := 12) hx hb (us_M G hW) (fun _ h => h) t_M to_M nm_M hown hK hP hD hS 0 rfl rfl 6 (by decide) (fl_M_25 G hW) (fun _ h9 => h9) rfl hnm rfl (by decide +kernel) rfl rfl (Nat.le_of_ble_eq_true rfl) d_M_init_45 (fun H locs hP hD hS => ?_)
  have hP : va_P D vcl [(hm, .inr (4, [.int 0, .ref a1, .ref a2, .ref a3, .ref a4, .ref a5, .ref a6, .null, .null, .null, .null, .null])), (a1, aN cI 4 (fun _ => 0)), (a2, aN cI 4 (fun _ => 0)), (a3, aN cI 4 (fun _ => 0)), (a4, aN cI 4 (fun _ => 0)), (a5, aN cI 4 (fun _ => 0)), (a6, aN cI 4096 (fun _ => 0))] H := hP
  have hD : va_D (Aa [hm] H0.size) [(hm, .inr (4, [.int 0, .ref a1, .ref a2, .ref a3, .ref a4, .ref a5, .ref a6, .null, .null, .null, .null, .null])), (a1, aN cI 4 (fun _ => 0)), (a2, aN cI 4 (fun _ => 0)), (a3, aN cI 4 (fun _ => 0)), (a4, aN cI 4 (fun _ => 0)), (a5, aN cI 4 (fun _ => 0)), (a6, aN cI 4096 (fun _ => 0))] := hD
  refine lv_aload_n hx hb d_M_init_48 rfl (lv_at hl 0 rfl) ?_
  refine lv_sipush (v := (nI 1024)) hx hb d_M_init_49 (by decide) ?_
  refine na_i (N := 1024) hx hb (G.1.at 203 rfl rfl _ hW) hK hP hD hS Aa.up (by decide) (Nat.le_of_ble_eq_true rfl) (Nat.le_of_ble_eq_true rfl) d_M_init_52 (fun a7 H hP hD hS => ?_)
  have hP : va_P D vcl [(hm, .inr (4, [.int 0, .ref a1, .ref a2, .ref a3, .ref a4, .ref a5, .ref a6, .null, .null, .null, .null, .null])), (a1, aN cI 4 (fun _ => 0)), (a2, aN cI 4 (fun _ => 0)), (a3, aN cI 4 (fun _ => 0)), (a4, aN cI 4 (fun _ => 0)), (a5, aN cI 4 (fun _ => 0)), (a6, aN cI 4096 (fun _ => 0)), (a7, aN cI 1024 (fun _ => 0))] H := hP
  have hD : va_D (Aa [hm] H0.size) [(hm, .inr (4, [.int 0, .ref a1, .ref a2, .ref a3, .ref a4, .ref a5, .ref a6, .null, .null, .null, .null, .null])), (a1, aN cI 4 (fun _ => 0)), (a2, aN cI 4 (fun _ => 0)), (a3, aN cI 4 (fun _ => 0)), (a4, aN cI 4 (fun _ => 0)), (a5, aN cI 4 (fun _ => 0)), (a6, aN cI 4096 (fun _ => 0)), (a7, aN cI 1024 (fun _ => 0))] := hD
  refine va_putF (D := D) (ci := 4) (v := .ref a7) (ty := .array .int) (C := R_M) (T := T_M) (N := 12) hx hb (us_M G hW) (fun _ h => h) t_M to_M nm_M hown hK hP hD hS 0 rfl rfl 7 (by decide) (fl_M_28 G hW) (fun _ h9 => h9) rfl hnm rfl (by decide +kernel) rfl rfl (Nat.le_of_ble_eq_true rfl) d_M_init_54 (fun H locs hP hD hS => ?_)
  have hP : va_P D vcl [(hm, .inr (4, [.int 0, .ref a1, .ref a2, .ref a3, .ref a4, .ref a5, .ref a6, .ref a7, .null, .null, .null, .null])), (a1, aN cI 4 (fun _ => 0)), (a2, aN cI 4 (fun _ => 0)), (a3, aN cI 4 (fun _ => 0)), (a4, aN cI 4 (fun _ => 0)), (a5, aN cI 4 (fun _ => 0)), (a6, aN cI 4096 (fun _ => 0)), (a7, aN cI 1024 (fun _ => 0))] H := hP
  have hD : va_D (Aa [hm] H0.size) [(hm, .inr (4, [.int 0, .ref a1, .ref a2, .ref a3, .ref a4, .ref a5, .ref a6, .ref a7, .null, .null, .null, .null])), (a1, aN cI 4 (fun _ => 0)), (a2, aN cI 4 (fun _ => 0)), (a3, aN cI 4 (fun _ => 0)), (a4, aN cI 4 (fun _ => 0)), (a5, aN cI 4 (fun _ => 0)), (a6, aN cI 4096 (fun _ => 0)), (a7, aN cI 1024 (fun _ => 0))] := hD
  refine lv_aload_n hx hb d_M_init_57 rfl (lv_at hl 0 rfl) ?_
  refine lv_sipush (v := (nI 1024)) hx hb d_M_init_58 (by decide) ?_
  refine na_i (N := 1024) hx hb (G.1.at 203 rfl rfl _ hW) hK hP hD hS Aa.up (by decide) (Nat.le_of_ble_eq_true rfl) (Nat.le_of_ble_eq_true rfl) d_M_init_61 (fun a8 H hP hD hS => ?_)
  have hP : va_P D vcl [(hm, .inr (4, [.int 0, .ref a1, .ref a2, .ref a3, .ref a4, .ref a5, .ref a6, .ref a7, .null, .null, .null, .null])), (a1, aN cI 4 (fun _ => 0)), (a2, aN cI 4 (fun _ => 0)), (a3, aN cI 4 (fun _ => 0)), (a4, aN cI 4 (fun _ => 0)), (a5, aN cI 4 (fun _ => 0)), (a6, aN cI 4096 (fun _ => 0)), (a7, aN cI 1024 (fun _ => 0)), (a8, aN cI 1024 (fun _ => 0))] H := hP
  have hD : va_D (Aa [hm] H0.size) [(hm, .inr (4, [.int 0, .ref a1, .ref a2, .ref a3, .ref a4, .ref a5, .ref a6, .ref a7, .null, .null, .null, .null])), (a1, aN cI 4 (fun _ => 0)), (a2, aN cI 4 (fun _ => 0)), (a3, aN cI 4 (fun _ => 0)), (a4, aN cI 4 (fun _ => 0)), (a5, aN cI 4 (fun _ => 0)), (a6, aN cI 4096 (fun _ => 0)), (a7, aN cI 1024 (fun _ => 0)), (a8, aN cI 1024 (fun _ => 0))] := hD
  refine va_putF (D := D) (ci := 4) (v := .ref a8) (ty := .array .int) (C := R_M) (T := T_M) (N := 12) hx hb (us_M G hW) (fun _ h => h) t_M to_M nm_M hown hK hP hD hS 0 rfl rfl 8 (by decide) (fl_M_31 G hW) (fun _ h9 => h9) rfl hnm rfl (by decide +kernel) rfl rfl (Nat.le_of_ble_eq_true rfl) d_M_init_63 (fun H locs hP hD hS => ?_)
  have hP : va_P D vcl [(hm, .inr (4, [.int 0, .ref a1, .ref a2, .ref a3, .ref a4, .ref a5, .ref a6, .ref a7, .ref a8, .null, .null, .null])), (a1, aN cI 4 (fun _ => 0)), (a2, aN cI 4 (fun _ => 0)), (a3, aN cI 4 (fun _ => 0)), (a4, aN cI 4 (fun _ => 0)), (a5, aN cI 4 (fun _ => 0)), (a6, aN cI 4096 (fun _ => 0)), (a7, aN cI 1024 (fun _ => 0)), (a8, aN cI 1024 (fun _ => 0))] H := hP
  have hD : va_D (Aa [hm] H0.size) [(hm, .inr (4, [.int 0, .ref a1, .ref a2, .ref a3, .ref a4, .ref a5, .ref a6, .ref a7, .ref a8, .null, .null, .null])), (a1, aN cI 4 (fun _ => 0)), (a2, aN cI 4 (fun _ => 0)), (a3, aN cI 4 (fun _ => 0)), (a4, aN cI 4 (fun _ => 0)), (a5, aN cI 4 (fun _ => 0)), (a6, aN cI 4096 (fun _ => 0)), (a7, aN cI 1024 (fun _ => 0)), (a8, aN cI 1024 (fun _ => 0))] := hD
  refine lv_aload_n hx hb d_M_init_66 rfl (lv_at hl 0 rfl) ?_
  refine lv_sipush (v := (nI 256)) hx hb d_M_init_67 (by decide) ?_
  refine na_i (N := 256) hx hb (G.1.at 203 rfl rfl _ hW) hK hP hD hS Aa.up (by decide) (Nat.le_of_ble_eq_true rfl) (Nat.le_of_ble_eq_true rfl) d_M_init_70 (fun a9 H hP hD hS => ?_)
  have hP : va_P D vcl [(hm, .inr (4, [.int 0, .ref a1, .ref a2, .ref a3, .ref a4, .ref a5, .ref a6, .ref a7, .ref a8, .null, .null, .null])), (a1, aN cI 4 (fun _ => 0)), (a2, aN cI 4 (fun _ => 0)), (a3, aN cI 4 (fun _ => 0)), (a4, aN cI 4 (fun _ => 0)), (a5, aN cI 4 (fun _ => 0)), (a6, aN cI 4096 (fun _ => 0)), (a7, aN cI 1024 (fun _ => 0)), (a8, aN cI 1024 (fun _ => 0)), (a9, aN cI 256 (fun _ => 0))] H := hP
  have hD : va_D (Aa [hm] H0.size) [(hm, .inr (4, [.int 0, .ref a1, .ref a2, .ref a3, .ref a4, .ref a5, .ref a6, .ref a7, .ref a8, .null, .null, .null])), (a1, aN cI 4 (fun _ => 0)), (a2, aN cI 4 (fun _ => 0)), (a3, aN cI 4 (fun _ => 0)), (a4, aN cI 4 (fun _ => 0)), (a5, aN cI 4 (fun _ => 0)), (a6, aN cI 4096 (fun _ => 0)), (a7, aN cI 1024 (fun _ => 0)), (a8, aN cI 1024 (fun _ => 0)), (a9, aN cI 256 (fun _ => 0))] := hD
  refine va_putF (D := D) (ci := 4) (v := .ref a9) (ty := .array .int) (C := R_M) (T := T_M) (N := 12) hx hb (us_M G hW) (fun _ h => h) t_M to_M nm_M hown hK hP hD hS 0 rfl rfl 9 (by decide) (fl_M_34 G hW) (fun _ h9 => h9) rfl hnm rfl (by decide +kernel) rfl rfl (Nat.le_of_ble_eq_true rfl) d_M_init_72 (fun H locs hP hD hS => ?_)
  have hP : va_P D vcl [(hm, .inr (4, [.int 0, .ref a1, .ref a2, .ref a3, .ref a4, .ref a5, .ref a6, .ref a7, .ref a8, .ref a9, .null, .null])), (a1, aN cI 4 (fun _ => 0)), (a2, aN cI 4 (fun _ => 0)), (a3, aN cI 4 (fun _ => 0)), (a4, aN cI 4 (fun _ => 0)), (a5, aN cI 4 (fun _ => 0)), (a6, aN cI 4096 (fun _ => 0)), (a7, aN cI 1024 (fun _ => 0)), (a8, aN cI 1024 (fun _ => 0)), (a9, aN cI 256 (fun _ => 0))] H := hP
  have hD : va_D (Aa [hm] H0.size) [(hm, .inr (4, [.int 0, .ref a1, .ref a2, .ref a3, .ref a4, .ref a5, .ref a6, .ref a7, .ref a8, .ref a9, .null, .null])), (a1, aN cI 4 (fun _ => 0)), (a2, aN cI 4 (fun _ => 0)), (a3, aN cI 4 (fun _ => 0)), (a4, aN cI 4 (fun _ => 0)), (a5, aN cI 4 (fun _ => 0)), (a6, aN cI 4096 (fun _ => 0)), (a7, aN cI 1024 (fun _ => 0)), (a8, aN cI 1024 (fun _ => 0)), (a9, aN cI 256 (fun _ => 0))] := hD
  refine lv_aload_n hx hb d_M_init_75 rfl (lv_at hl 0 rfl) ?_
  refine lv_bipush (v := (nI 6)) hx hb d_M_init_76 (by decide) ?_
  refine na_i (N := 6) hx hb (G.1.at 203 rfl rfl _ hW) hK hP hD hS Aa.up (by decide) (Nat.le_of_ble_eq_true rfl) (Nat.le_of_ble_eq_true rfl) d_M_init_78 (fun a10 H hP hD hS => ?_)
  have hP : va_P D vcl [(hm, .inr (4, [.int 0, .ref a1, .ref a2, .ref a3, .ref a4, .ref a5, .ref a6, .ref a7, .ref a8, .ref a9, .null, .null])), (a1, aN cI 4 (fun _ => 0)), (a2, aN cI 4 (fun _ => 0)), (a3, aN cI 4 (fun _ => 0)), (a4, aN cI 4 (fun _ => 0)), (a5, aN cI 4 (fun _ => 0)), (a6, aN cI 4096 (fun _ => 0)), (a7, aN cI 1024 (fun _ => 0)), (a8, aN cI 1024 (fun _ => 0)), (a9, aN cI 256 (fun _ => 0)), (a10, aN cI 6 (fun _ => 0))] H := hP
  have hD : va_D (Aa [hm] H0.size) [(hm, .inr (4, [.int 0, .ref a1, .ref a2, .ref a3, .ref a4, .ref a5, .ref a6, .ref a7, .ref a8, .ref a9, .null, .null])), (a1, aN cI 4 (fun _ => 0)), (a2, aN cI 4 (fun _ => 0)), (a3, aN cI 4 (fun _ => 0)), (a4, aN cI 4 (fun _ => 0)), (a5, aN cI 4 (fun _ => 0)), (a6, aN cI 4096 (fun _ => 0)), (a7, aN cI 1024 (fun _ => 0)), (a8, aN cI 1024 (fun _ => 0)), (a9, aN cI 256 (fun _ => 0)), (a10, aN cI 6 (fun _ => 0))] := hD
  refine va_putF (D := D) (ci := 4) (v := .ref a10) (ty := .array .int) (C := R_M) (T := T_M) (N := 12) hx hb (us_M G hW) (fun _ h => h) t_M to_M nm_M hown hK hP hD hS 0 rfl rfl 10 (by decide) (fl_M_37 G hW) (fun _ h9 => h9) rfl hnm rfl (by decide +kernel) rfl rfl (Nat.le_of_ble_eq_true rfl) d_M_init_80 (fun H locs hP hD hS => ?_)
  have hP : va_P D vcl [(hm, .inr (4, [.int 0, .ref a1, .ref a2, .ref a3, .ref a4, .ref a5, .ref a6, .ref a7, .ref a8, .ref a9, .ref a10, .null])), (a1, aN cI 4 (fun _ => 0)), (a2, aN cI 4 (fun _ => 0)), (a3, aN cI 4 (fun _ => 0)), (a4, aN cI 4 (fun _ => 0)), (a5, aN cI 4 (fun _ => 0)), (a6, aN cI 4096 (fun _ => 0)), (a7, aN cI 1024 (fun _ => 0)), (a8, aN cI 1024 (fun _ => 0)), (a9, aN cI 256 (fun _ => 0)), (a10, aN cI 6 (fun _ => 0))] H := hP
  have hD : va_D (Aa [hm] H0.size) [(hm, .inr (4, [.int 0, .ref a1, .ref a2, .ref a3, .ref a4, .ref a5, .ref a6, .ref a7, .ref a8, .ref a9, .ref a10, .null])), (a1, aN cI 4 (fun _ => 0)), (a2, aN cI 4 (fun _ => 0)), (a3, aN cI 4 (fun _ => 0)), (a4, aN cI 4 (fun _ => 0)), (a5, aN cI 4 (fun _ => 0)), (a6, aN cI 4096 (fun _ => 0)), (a7, aN cI 1024 (fun _ => 0)), (a8, aN cI 1024 (fun _ => 0)), (a9, aN cI 256 (fun _ => 0)), (a10, aN cI 6 (fun _ => 0))] := hD
  refine lv_aload_n hx hb d_M_init_83 rfl (lv_at hl 0 rfl) ?_
  refine lv_bipush (v := (nI 6)) hx hb d_M_init_84 (by decide) ?_
  refine na_i (N := 6) hx hb (G.1.at 203 rfl rfl _ hW) hK hP hD hS Aa.up (by decide) (Nat.le_of_ble_eq_true rfl) (Nat.le_of_ble_eq_true rfl) d_M_init_86 (fun a11 H hP hD hS => ?_)
  have hP : va_P D vcl [(hm, .inr (4, [.int 0, .ref a1, .ref a2, .ref a3, .ref a4, .ref a5, .ref a6, .ref a7, .ref a8, .ref a9, .ref a10, .null])), (a1, aN cI 4 (fun _ => 0)), (a2, aN cI 4 (fun _ => 0)), (a3, aN cI 4 (fun _ => 0)), (a4, aN cI 4 (fun _ => 0)), (a5, aN cI 4 (fun _ => 0)), (a6, aN cI 4096 (fun _ => 0)), (a7, aN cI 1024 (fun _ => 0)), (a8, aN cI 1024 (fun _ => 0)), (a9, aN cI 256 (fun _ => 0)), (a10, aN cI 6 (fun _ => 0)), (a11, aN cI 6 (fun _ => 0))] H := hP
  have hD : va_D (Aa [hm] H0.size) [(hm, .inr (4, [.int 0, .ref a1, .ref a2, .ref a3, .ref a4, .ref a5, .ref a6, .ref a7, .ref a8, .ref a9, .ref a10, .null])), (a1, aN cI 4 (fun _ => 0)), (a2, aN cI 4 (fun _ => 0)), (a3, aN cI 4 (fun _ => 0)), (a4, aN cI 4 (fun _ => 0)), (a5, aN cI 4 (fun _ => 0)), (a6, aN cI 4096 (fun _ => 0)), (a7, aN cI 1024 (fun _ => 0)), (a8, aN cI 1024 (fun _ => 0)), (a9, aN cI 256 (fun _ => 0)), (a10, aN cI 6 (fun _ => 0)), (a11, aN cI 6 (fun _ => 0))] := hD
  refine va_putF (D := D) (ci := 4) (v := .ref a11) (ty := .array .int) (C := R_M) (T := T_M) (N := 12) hx hb (us_M G hW) (fun _ h => h) t_M to_M nm_M hown hK hP hD hS 0 rfl rfl 11 (by decide) (fl_M_40 G hW) (fun _ h9 => h9) rfl hnm rfl (by decide +kernel) rfl rfl (Nat.le_of_ble_eq_true rfl) d_M_init_88 (fun H locs hP hD hS => ?_)
  have hP : va_P D vcl [(hm, .inr (4, [.int 0, .ref a1, .ref a2, .ref a3, .ref a4, .ref a5, .ref a6, .ref a7, .ref a8, .ref a9, .ref a10, .ref a11])), (a1, aN cI 4 (fun _ => 0)), (a2, aN cI 4 (fun _ => 0)), (a3, aN cI 4 (fun _ => 0)), (a4, aN cI 4 (fun _ => 0)), (a5, aN cI 4 (fun _ => 0)), (a6, aN cI 4096 (fun _ => 0)), (a7, aN cI 1024 (fun _ => 0)), (a8, aN cI 1024 (fun _ => 0)), (a9, aN cI 256 (fun _ => 0)), (a10, aN cI 6 (fun _ => 0)), (a11, aN cI 6 (fun _ => 0))] H := hP
  have hD : va_D (Aa [hm] H0.size) [(hm, .inr (4, [.int 0, .ref a1, .ref a2, .ref a3, .ref a4, .ref a5, .ref a6, .ref a7, .ref a8, .ref a9, .ref a10, .ref a11])), (a1, aN cI 4 (fun _ => 0)), (a2, aN cI 4 (fun _ => 0)), (a3, aN cI 4 (fun _ => 0)), (a4, aN cI 4 (fun _ => 0)), (a5, aN cI 4 (fun _ => 0)), (a6, aN cI 4096 (fun _ => 0)), (a7, aN cI 1024 (fun _ => 0)), (a8, aN cI 1024 (fun _ => 0)), (a9, aN cI 256 (fun _ => 0)), (a10, aN cI 6 (fun _ => 0)), (a11, aN cI 6 (fun _ => 0))] := hD
  exact mx_vret hx hb hr hlk d_M_init_91 (Nat.le_of_ble_eq_true rfl) (Nat.le_of_ble_eq_true rfl) hS.2.2 (⟨rfl, a1, a2, a3, a4, a5, a6, a7, a8, a9, a10, a11, hP, hD⟩)

set_option maxHeartbeats 4000000 in
set_option maxRecDepth 100000 in
theorem c_F_init {l : Launch} {s0 : State} {D : va_G} {cI cF cJ : ClassId} (G : Gx l s0 D cI cF cJ) (xo : Nat) {H0 : Heap} {A0 : Nat → Prop} (hP : va_P D vcl [(xo, .inr (3, [.null, .null]))] H0) (hD : va_D A0 [(xo, .inr (3, [.null, .null]))]) : Mx l s0 y_F_init (.code y_F_init b_F_init 1 none) { frames := 1, cells := 2, slots := 16, locals := 12 } [.ref xo] H0 (Aa [xo] H0.size) (Rn (fun H1 => ∃ fa ma : Nat, va_P D vcl [(xo, .inr (3, [.ref fa, .ref ma])), (fa, aQ cF 4 (fun _ => none)), (ma, aQ cF 12 (fun _ => none))] H1 ∧ va_D (Aa [xo] H0.size) [(xo, .inr (3, [.ref fa, .ref ma])), (fa, aQ cF 4 (fun _ => none)), (ma, aQ cF 12 (fun _ => none))])) := by
  refine Mx.ofW (own := "FewBits") rfl rfl ?_
  rintro p e s m below meth c ⟨hx, hb, hml, hr, hown, hW, hlk⟩ hnm het hH
  have hK := G.k hW
  have hD := hD.aa (sz := H0.size)
  have hD : va_D (Aa [xo] H0.size) [(xo, .inr (3, [.null, .null]))] := hD
  have hS : va_S (Aa [xo] H0.size) H0 H0 [] := va_S.rf
  have hl := lv_entry ([.ref xo]) (n := 1) (Nat.le_of_ble_eq_true rfl)
  rw [lg_entry_eq]
  generalize (lg_sl ([.ref xo]) ++ List.replicate (1 - (lg_sl ([.ref xo])).length) Slot.unset).toArray = ls at hl ⊢
  have hl : lv_has ls 1 [(0, .ref xo)] := hl
  refine lv_aload_n hx hb d_F_init_0 rfl (lv_at hl 0 rfl) ?_
  refine W.objInit hx hb hown (G.1.at 23 rfl rfl _ hW) (G.1.at 24 rfl rfl _ hW) (G.1.at 25 rfl rfl _ hW) rfl (by rw [hml]; exact hl.1) rfl d_F_init_1 (Nat.le_of_ble_eq_true rfl) (Nat.le_of_ble_eq_true rfl) ?_
  refine W.eq (g2 := F0 m 4 ls []) rfl ?_
  refine lv_aload_n hx hb d_F_init_4 rfl (lv_at hl 0 rfl) ?_
  refine lv_iconst (v := (nI 4)) hx hb d_F_init_5 (by decide) ?_
  refine na_q (N := 4) hx hb hown (G.1.at 26 rfl rfl _ hW) (ao_F G hW) hK hP hD hS Aa.up (by decide) (Nat.le_of_ble_eq_true rfl) (Nat.le_of_ble_eq_true rfl) d_F_init_6 (fun fa H hP hD hS => ?_)
  have hP : va_P D vcl [(xo, .inr (3, [.null, .null])), (fa, aQ cF 4 (fun _ => none))] H := hP
  have hD : va_D (Aa [xo] H0.size) [(xo, .inr (3, [.null, .null])), (fa, aQ cF 4 (fun _ => none))] := hD
  refine va_putF (D := D) (ci := 3) (v := .ref fa) (ty := .array (.object "FewBits$Filter")) (C := R_F) (T := T_F) (N := 2) hx hb (us_F G hW) (fun _ h => h) t_F to_F nm_F hown hK hP hD hS 0 rfl rfl 0 (by decide) (fl_F_11 G hW) (fun _ h9 => h9) rfl hnm rfl (by decide +kernel) rfl rfl (Nat.le_of_ble_eq_true rfl) d_F_init_9 (fun H locs hP hD hS => ?_)
  have hP : va_P D vcl [(xo, .inr (3, [.ref fa, .null])), (fa, aQ cF 4 (fun _ => none))] H := hP
  have hD : va_D (Aa [xo] H0.size) [(xo, .inr (3, [.ref fa, .null])), (fa, aQ cF 4 (fun _ => none))] := hD
  refine lv_aload_n hx hb d_F_init_12 rfl (lv_at hl 0 rfl) ?_
  refine lv_bipush (v := (nI 12)) hx hb d_F_init_13 (by decide) ?_
  refine na_q (N := 12) hx hb hown (G.1.at 26 rfl rfl _ hW) (ao_F G hW) hK hP hD hS Aa.up (by decide) (Nat.le_of_ble_eq_true rfl) (Nat.le_of_ble_eq_true rfl) d_F_init_15 (fun ma H hP hD hS => ?_)
  have hP : va_P D vcl [(xo, .inr (3, [.ref fa, .null])), (fa, aQ cF 4 (fun _ => none)), (ma, aQ cF 12 (fun _ => none))] H := hP
  have hD : va_D (Aa [xo] H0.size) [(xo, .inr (3, [.ref fa, .null])), (fa, aQ cF 4 (fun _ => none)), (ma, aQ cF 12 (fun _ => none))] := hD
  refine va_putF (D := D) (ci := 3) (v := .ref ma) (ty := .array (.object "FewBits$Filter")) (C := R_F) (T := T_F) (N := 2) hx hb (us_F G hW) (fun _ h => h) t_F to_F nm_F hown hK hP hD hS 0 rfl rfl 1 (by decide) (fl_F_15 G hW) (fun _ h9 => h9) rfl hnm rfl (by decide +kernel) rfl rfl (Nat.le_of_ble_eq_true rfl) d_F_init_18 (fun H locs hP hD hS => ?_)
  have hP : va_P D vcl [(xo, .inr (3, [.ref fa, .ref ma])), (fa, aQ cF 4 (fun _ => none)), (ma, aQ cF 12 (fun _ => none))] H := hP
  have hD : va_D (Aa [xo] H0.size) [(xo, .inr (3, [.ref fa, .ref ma])), (fa, aQ cF 4 (fun _ => none)), (ma, aQ cF 12 (fun _ => none))] := hD
  exact mx_vret hx hb hr hlk d_F_init_21 (Nat.le_of_ble_eq_true rfl) (Nat.le_of_ble_eq_true rfl) hS.2.2 (⟨rfl, fa, ma, hP, hD⟩)
