set_option maxHeartbeats 4000000 in
set_option maxRecDepth 100000 in
theorem c_M_thrown {l : Launch} {s0 : State} {D : va_G} {cI cF cJ : ClassId} (G : Gx l s0 D cI cF cJ) (hm a1 a2 a3 a4 a5 a6 a7 a8 a9 a10 a11 : Nat) (th : Int32) (ki ka kb : Nat → Nat) (zs pu : Nat → Int32) (ce pa tr : Nat → Nat) (so : Nat → Int32) (pl ot : Nat → Nat) {H0 : Heap} (hP : va_P D vcl [(hm, .inr (4, [.int th, .ref a1, .ref a2, .ref a3, .ref a4, .ref a5, .ref a6, .ref a7, .ref a8, .ref a9, .ref a10, .ref a11])), (a1, aN cI 4 ki), (a2, aN cI 4 ka), (a3, aN cI 4 kb), (a4, aI cI 4 zs), (a5, aI cI 4 pu), (a6, aN cI 4096 ce), (a7, aN cI 1024 pa), (a8, aN cI 1024 tr), (a9, aI cI 256 so), (a10, aN cI 6 pl), (a11, aN cI 6 ot)] H0) : Mx l s0 y_M_thrown (.code y_M_thrown b_M_thrown 1 (some .int)) { frames := 0, cells := 0, slots := 0, locals := 0 } [.ref hm] H0 (fun _ => False) (Rd H0 (.int th)) := by
  refine Mx.ofW (own := "FewBitsModel") rfl rfl ?_
  rintro p e s m below meth c ⟨hx, hb, hml, hr, hown, hW, hlk⟩ hnm het hH
  have hK := G.k hW
  have hl := lv_entry ([.ref hm]) (n := 1) (Nat.le_of_ble_eq_true rfl)
  rw [lg_entry_eq]
  generalize (lg_sl ([.ref hm]) ++ List.replicate (1 - (lg_sl ([.ref hm])).length) Slot.unset).toArray = ls at hl ⊢
  have hl : lv_has ls 1 [(0, .ref hm)] := hl
  refine lv_aload_n hx hb d_M_thrown_0 rfl (lv_at hl 0 rfl) ?_
  refine va_get (D := D) (ci := 4) (v := .int th) (C := R_M) (T := T_M) (N := 12) hx hb (us_M G hW) (fun _ h => h) hown hK hP 0 rfl rfl 0 (by decide) (fl_M_43 G hW) (fun _ h9 => h9) rfl d_M_thrown_1 ?_
  exact mx_iret hx hb hr hlk d_M_thrown_4 (Nat.le_of_ble_eq_true rfl) (Nat.le_of_ble_eq_true rfl) (fun _ h => nomatch h) (⟨rfl, rfl⟩)

set_option maxHeartbeats 4000000 in
set_option maxRecDepth 100000 in
theorem c_M_mix {l : Launch} {s0 : State} {D : va_G} {cI cF cJ : ClassId} (G : Gx l s0 D cI cF cJ) (hm a1 a2 a3 a4 a5 a6 a7 a8 a9 a10 a11 : Nat) (th : Int32) (ki ka kb : Nat → Nat) (zs pu : Nat → Int32) (ce pa tr : Nat → Nat) (so : Nat → Int32) (pl ot : Nat → Nat) (x : Int64) (sk : Int32) {H0 : Heap} {A0 : Nat → Prop} (hP : va_P D vcl [(hm, .inr (4, [.int th, .ref a1, .ref a2, .ref a3, .ref a4, .ref a5, .ref a6, .ref a7, .ref a8, .ref a9, .ref a10, .ref a11])), (a1, aN cI 4 ki), (a2, aN cI 4 ka), (a3, aN cI 4 kb), (a4, aI cI 4 zs), (a5, aI cI 4 pu), (a6, aN cI 4096 ce), (a7, aN cI 1024 pa), (a8, aN cI 1024 tr), (a9, aI cI 256 so), (a10, aN cI 6 pl), (a11, aN cI 6 ot)] H0) (hD : va_D A0 [(hm, .inr (4, [.int th, .ref a1, .ref a2, .ref a3, .ref a4, .ref a5, .ref a6, .ref a7, .ref a8, .ref a9, .ref a10, .ref a11])), (a1, aN cI 4 ki), (a2, aN cI 4 ka), (a3, aN cI 4 kb), (a4, aI cI 4 zs), (a5, aI cI 4 pu), (a6, aN cI 4096 ce), (a7, aN cI 1024 pa), (a8, aN cI 1024 tr), (a9, aI cI 256 so), (a10, aN cI 6 pl), (a11, aN cI 6 ot)]) : Mx l s0 y_M_mix (.code y_M_mix b_M_mix 4 (some .long)) { frames := 1, cells := 0, slots := 0, locals := 25 } [.ref hm, .long x, .int sk] H0 (Aa [hm, a1, a2, a3, a4, a5, a6, a7, a8, a9, a10, a11] H0.size) (Rw (.long (mx x sk.toInt64)) (fun H1 => va_P D vcl [(hm, .inr (4, [.int (nI 0), .ref a1, .ref a2, .ref a3, .ref a4, .ref a5, .ref a6, .ref a7, .ref a8, .ref a9, .ref a10, .ref a11])), (a1, aN cI 4 ki), (a2, aN cI 4 ka), (a3, aN cI 4 kb), (a4, aI cI 4 zs), (a5, aI cI 4 pu), (a6, aN cI 4096 ce), (a7, aN cI 1024 pa), (a8, aN cI 1024 tr), (a9, aI cI 256 so), (a10, aN cI 6 pl), (a11, aN cI 6 ot)] H1)) := by
  refine Mx.ofW (own := "FewBitsModel") rfl rfl ?_
  rintro p e s m below meth c ⟨hx, hb, hml, hr, hown, hW, hlk⟩ hnm het hH
  have hK := G.k hW
  have hD := hD.aa (sz := H0.size)
  have hD : va_D (Aa [hm, a1, a2, a3, a4, a5, a6, a7, a8, a9, a10, a11] H0.size) [(hm, .inr (4, [.int th, .ref a1, .ref a2, .ref a3, .ref a4, .ref a5, .ref a6, .ref a7, .ref a8, .ref a9, .ref a10, .ref a11])), (a1, aN cI 4 ki), (a2, aN cI 4 ka), (a3, aN cI 4 kb), (a4, aI cI 4 zs), (a5, aI cI 4 pu), (a6, aN cI 4096 ce), (a7, aN cI 1024 pa), (a8, aN cI 1024 tr), (a9, aI cI 256 so), (a10, aN cI 6 pl), (a11, aN cI 6 ot)] := hD
  have hS : va_S (Aa [hm, a1, a2, a3, a4, a5, a6, a7, a8, a9, a10, a11] H0.size) H0 H0 [] := va_S.rf
  have hl := lv_entry ([.ref hm, .long x, .int sk]) (n := 4) (Nat.le_of_ble_eq_true rfl)
  rw [lg_entry_eq]
  generalize (lg_sl ([.ref hm, .long x, .int sk]) ++ List.replicate (4 - (lg_sl ([.ref hm, .long x, .int sk])).length) Slot.unset).toArray = ls at hl ⊢
  have hl : lv_has ls 4 [(0, .ref hm), (1, .long x), (3, .int sk)] := hl
  refine lv_aload_n hx hb d_M_mix_0 rfl (lv_at hl 0 rfl) ?_
  refine lv_iconst (v := (nI 0)) hx hb d_M_mix_1 (by decide) ?_
  refine va_put (D := D) (ci := 4) (v := .int (nI 0)) (ty := .int) (C := R_M) (T := T_M) (N := 12) hx hb (us_M G hW) (fun _ h => h) t_M to_M nm_M hown hK hP hD hS 0 rfl rfl 0 (by decide) (fl_M_43 G hW) (fun _ h9 => h9) rfl (by decide +kernel) rfl rfl (Nat.le_of_ble_eq_true rfl) d_M_mix_2 (fun H locs hP hD hS => ?_)
  have hP : va_P D vcl [(hm, .inr (4, [.int (nI 0), .ref a1, .ref a2, .ref a3, .ref a4, .ref a5, .ref a6, .ref a7, .ref a8, .ref a9, .ref a10, .ref a11])), (a1, aN cI 4 ki), (a2, aN cI 4 ka), (a3, aN cI 4 kb), (a4, aI cI 4 zs), (a5, aI cI 4 pu), (a6, aN cI 4096 ce), (a7, aN cI 1024 pa), (a8, aN cI 1024 tr), (a9, aI cI 256 so), (a10, aN cI 6 pl), (a11, aN cI 6 ot)] H := hP
  have hD : va_D (Aa [hm, a1, a2, a3, a4, a5, a6, a7, a8, a9, a10, a11] H0.size) [(hm, .inr (4, [.int (nI 0), .ref a1, .ref a2, .ref a3, .ref a4, .ref a5, .ref a6, .ref a7, .ref a8, .ref a9, .ref a10, .ref a11])), (a1, aN cI 4 ki), (a2, aN cI 4 ka), (a3, aN cI 4 kb), (a4, aI cI 4 zs), (a5, aI cI 4 pu), (a6, aN cI 4096 ce), (a7, aN cI 1024 pa), (a8, aN cI 1024 tr), (a9, aI cI 256 so), (a10, aN cI 6 pl), (a11, aN cI 6 ot)] := hD
  refine lv_lload_n hx hb d_M_mix_5 rfl (lv_at hl 1 rfl) ?_
  refine lv_iload_n hx hb d_M_mix_6 rfl (lv_at hl 2 rfl) ?_
  refine lv_i2l hx hb d_M_mix_7 rfl ?_
  refine mx_callR (r := .long (mx x sk.toInt64)) (c_M_mixed G x sk.toInt64) hW (iv_M_mix_8 G hx hb hown hW [.long x, .long (Int32.toInt64 sk)] [] rfl) hml hl.1 (by rw [hb]; exact d_M_mix_8) (cd_M_mixed G hW) ⟨Nat.le_of_ble_eq_true rfl, Nat.le_of_ble_eq_true rfl⟩ rfl rfl (Nat.le_of_ble_eq_true rfl) (Nat.le_of_ble_eq_true rfl) (Nat.le_of_ble_eq_true rfl) ?_
  exact mx_lret hx hb hr hlk d_M_mix_11 (Nat.le_of_ble_eq_true rfl) (Nat.le_of_ble_eq_true rfl) hS.2.2 (⟨rfl, hP⟩)

set_option maxHeartbeats 4000000 in
set_option maxRecDepth 100000 in
theorem c_M_lowest {l : Launch} {s0 : State} {D : va_G} {cI cF cJ : ClassId} (G : Gx l s0 D cI cF cJ) (z : Int64) (A : Nat) {H0 : Heap} (hA : A ≤ 30) : Mx l s0 y_M_lowest (.code y_M_lowest b_M_lowest 3 (some .int)) { frames := 0, cells := 0, slots := 0, locals := 0 } [.long z, .int (nI A)] H0 (fun _ => False) (Rd H0 (.int (nI (z.toBitVec.toNat % 2 ^ A)))) := by
  refine Mx.ofW (own := "FewBitsModel") rfl rfl ?_
  rintro p e s m below meth c ⟨hx, hb, hml, hr, hown, hW, hlk⟩ hnm het hH
  have hK := G.k hW
  have hl := lv_entry ([.long z, .int (nI A)]) (n := 3) (Nat.le_of_ble_eq_true rfl)
  rw [lg_entry_eq]
  generalize (lg_sl ([.long z, .int (nI A)]) ++ List.replicate (3 - (lg_sl ([.long z, .int (nI A)])).length) Slot.unset).toArray = ls at hl ⊢
  have hl : lv_has ls 3 [(0, .long z), (2, .int (nI A))] := hl
  refine lv_lload_n hx hb d_M_lowest_0 rfl (lv_at hl 0 rfl) ?_
  refine lv_lconst (v := 1) hx hb d_M_lowest_1 (by decide) ?_
  refine lv_iload_n hx hb d_M_lowest_2 rfl (lv_at hl 1 rfl) ?_
  refine lv_lshl hx hb d_M_lowest_3 rfl ?_
  refine lv_lconst (v := 1) hx hb d_M_lowest_4 (by decide) ?_
  refine lv_lsub hx hb d_M_lowest_5 ?_
  refine lv_land hx hb d_M_lowest_6 ?_
  refine lv_l2i hx hb d_M_lowest_7 rfl ?_
  refine tp_i (y := (nI (z.toBitVec.toNat % 2 ^ A))) (low_l z A hA) ?_
  exact mx_iret hx hb hr hlk d_M_lowest_8 (Nat.le_of_ble_eq_true rfl) (Nat.le_of_ble_eq_true rfl) (fun _ h => nomatch h) (⟨rfl, rfl⟩)

set_option maxHeartbeats 4000000 in
set_option maxRecDepth 100000 in
theorem c_M_isNumber {l : Launch} {s0 : State} {D : va_G} {cI cF cJ : ClassId} (G : Gx l s0 D cI cF cJ) (v : Int32) {H0 : Heap}  : Mx l s0 y_M_isNumber (.code y_M_isNumber b_M_isNumber 1 (some .boolean)) { frames := 0, cells := 0, slots := 0, locals := 0 } [.int v] H0 (fun _ => False) (Rd H0 (.int (bI (isNum v)))) := by
  refine Mx.ofW (own := "FewBitsModel") rfl rfl ?_
  rintro p e s m below meth c ⟨hx, hb, hml, hr, hown, hW, hlk⟩ hnm het hH
  have hK := G.k hW
  have hl := lv_entry ([.int v]) (n := 1) (Nat.le_of_ble_eq_true rfl)
  rw [lg_entry_eq]
  generalize (lg_sl ([.int v]) ++ List.replicate (1 - (lg_sl ([.int v])).length) Slot.unset).toArray = ls at hl ⊢
  have hl : lv_has ls 1 [(0, .int v)] := hl
  refine lv_iload_n hx hb d_M_isNumber_0 rfl (lv_at hl 0 rfl) ?_
  refine lv_if_lt (tgt := 13) hx hb d_M_isNumber_1 (by decide) (fun c_1 => ?_) (fun c_1 => ?_)
  · refine lv_iconst (v := (nI 0)) hx hb d_M_isNumber_13 (by decide) ?_
    exact mx_zret hx hb hr hlk d_M_isNumber_14 (Nat.le_of_ble_eq_true rfl) (Nat.le_of_ble_eq_true rfl) (fun _ h => nomatch h) (rfl) (⟨by rw [show isNum v = false by unfold isNum; rw [decide_eq_true c_1]; rfl]; rfl, rfl⟩)
  · refine lv_iload_n hx hb d_M_isNumber_4 rfl (lv_at hl 0 rfl) ?_
    refine lv_iconst (v := (nI 4)) hx hb d_M_isNumber_5 (by decide) ?_
    refine lv_icmp_ge (tgt := 13) hx hb d_M_isNumber_6 (by decide) (fun c_6 => ?_) (fun c_6 => ?_)
    · refine lv_iconst (v := (nI 0)) hx hb d_M_isNumber_13 (by decide) ?_
      exact mx_zret hx hb hr hlk d_M_isNumber_14 (Nat.le_of_ble_eq_true rfl) (Nat.le_of_ble_eq_true rfl) (fun _ h => nomatch h) (rfl) (⟨by rw [show isNum v = false by unfold isNum; rw [decide_eq_true c_6]; simp]; rfl, rfl⟩)
    · refine lv_iconst (v := (nI 1)) hx hb d_M_isNumber_9 (by decide) ?_
      refine lv_goto (tgt := 14) hx hb d_M_isNumber_10 (by decide) ?_
      exact mx_zret hx hb hr hlk d_M_isNumber_14 (Nat.le_of_ble_eq_true rfl) (Nat.le_of_ble_eq_true rfl) (fun _ h => nomatch h) (rfl) (⟨by rw [show isNum v = true by unfold isNum; rw [decide_eq_false c_1, decide_eq_false c_6]; rfl]; rfl, rfl⟩)

set_option maxHeartbeats 4000000 in
set_option maxRecDepth 100000 in
theorem c_M_wrong_n {l : Launch} {s0 : State} {D : va_G} {cI cF cJ : ClassId} (G : Gx l s0 D cI cF cJ) (hm a1 a2 a3 a4 a5 a6 a7 a8 a9 a10 a11 : Nat) (th : Int32) (ki ka kb : Nat → Nat) (zs pu : Nat → Int32) (ce pa tr : Nat → Nat) (so : Nat → Int32) (pl ot : Nat → Nat) (v : Int32) {H0 : Heap} (hP : va_P D vcl [(hm, .inr (4, [.int th, .ref a1, .ref a2, .ref a3, .ref a4, .ref a5, .ref a6, .ref a7, .ref a8, .ref a9, .ref a10, .ref a11])), (a1, aN cI 4 ki), (a2, aN cI 4 ka), (a3, aN cI 4 kb), (a4, aI cI 4 zs), (a5, aI cI 4 pu), (a6, aN cI 4096 ce), (a7, aN cI 1024 pa), (a8, aN cI 1024 tr), (a9, aI cI 256 so), (a10, aN cI 6 pl), (a11, aN cI 6 ot)] H0) (hv : isNum v = false) : Mx l s0 y_M_wrong (.code y_M_wrong b_M_wrong 2 (some .int)) { frames := 1, cells := 0, slots := 0, locals := 20 } [.ref hm, .int v] H0 (fun _ => False) (Rd H0 (.int (nI 1))) := by
  refine Mx.ofW (own := "FewBitsModel") rfl rfl ?_
  rintro p e s m below meth c ⟨hx, hb, hml, hr, hown, hW, hlk⟩ hnm het hH
  have hK := G.k hW
  have hl := lv_entry ([.ref hm, .int v]) (n := 2) (Nat.le_of_ble_eq_true rfl)
  rw [lg_entry_eq]
  generalize (lg_sl ([.ref hm, .int v]) ++ List.replicate (2 - (lg_sl ([.ref hm, .int v])).length) Slot.unset).toArray = ls at hl ⊢
  have hl : lv_has ls 2 [(0, .ref hm), (1, .int v)] := hl
  refine lv_iload_n hx hb d_M_wrong_0 rfl (lv_at hl 1 rfl) ?_
  refine mx_callR (r := .int (bI (isNum v))) (c_M_isNumber G v) hW (iv_M_wrong_1 G hx hb hown hW [.int v] [] rfl) hml hl.1 (by rw [hb]; exact d_M_wrong_1) (cd_M_isNumber G hW) ⟨Nat.le_of_ble_eq_true rfl, Nat.le_of_ble_eq_true rfl⟩ rfl rfl (Nat.le_of_ble_eq_true rfl) (Nat.le_of_ble_eq_true rfl) (Nat.le_of_ble_eq_true rfl) ?_
  refine lv_if_ne (tgt := 11) hx hb d_M_wrong_4 (by decide) (fun c_4 => absurd (by rw [hv]; rfl) c_4) (fun c_4 => ?_)
  refine lv_iconst (v := (nI 1)) hx hb d_M_wrong_7 (by decide) ?_
  refine lv_goto (tgt := 25) hx hb d_M_wrong_8 (by decide) ?_
  exact mx_iret hx hb hr hlk d_M_wrong_25 (Nat.le_of_ble_eq_true rfl) (Nat.le_of_ble_eq_true rfl) (fun _ h => nomatch h) (⟨rfl, rfl⟩)

set_option maxHeartbeats 4000000 in
set_option maxRecDepth 100000 in
theorem c_M_wrong {l : Launch} {s0 : State} {D : va_G} {cI cF cJ : ClassId} (G : Gx l s0 D cI cF cJ) (hm a1 a2 a3 a4 a5 a6 a7 a8 a9 a10 a11 : Nat) (th : Int32) (ki ka kb : Nat → Nat) (zs pu : Nat → Int32) (ce pa tr : Nat → Nat) (so : Nat → Int32) (pl ot : Nat → Nat) (fN : Nat) {H0 : Heap} (hP : va_P D vcl [(hm, .inr (4, [.int th, .ref a1, .ref a2, .ref a3, .ref a4, .ref a5, .ref a6, .ref a7, .ref a8, .ref a9, .ref a10, .ref a11])), (a1, aN cI 4 ki), (a2, aN cI 4 ka), (a3, aN cI 4 kb), (a4, aI cI 4 zs), (a5, aI cI 4 pu), (a6, aN cI 4096 ce), (a7, aN cI 1024 pa), (a8, aN cI 1024 tr), (a9, aI cI 256 so), (a10, aN cI 6 pl), (a11, aN cI 6 ot)] H0) (hF : fN < 4) (hki : ki fN ≤ 3) : Mx l s0 y_M_wrong (.code y_M_wrong b_M_wrong 2 (some .int)) { frames := 1, cells := 0, slots := 0, locals := 20 } [.ref hm, .int (nI fN)] H0 (fun _ => False) (Rd H0 (.int (nI (if ki fN = 0 then 2 else 0)))) := by
  refine Mx.ofW (own := "FewBitsModel") rfl rfl ?_
  rintro p e s m below meth c ⟨hx, hb, hml, hr, hown, hW, hlk⟩ hnm het hH
  have hK := G.k hW
  have hl := lv_entry ([.ref hm, .int (nI fN)]) (n := 2) (Nat.le_of_ble_eq_true rfl)
  rw [lg_entry_eq]
  generalize (lg_sl ([.ref hm, .int (nI fN)]) ++ List.replicate (2 - (lg_sl ([.ref hm, .int (nI fN)])).length) Slot.unset).toArray = ls at hl ⊢
  have hl : lv_has ls 2 [(0, .ref hm), (1, .int (nI fN))] := hl
  refine lv_iload_n hx hb d_M_wrong_0 rfl (lv_at hl 1 rfl) ?_
  refine mx_callR (r := .int (bI (isNum (nI fN)))) (c_M_isNumber G (nI fN)) hW (iv_M_wrong_1 G hx hb hown hW [.int (nI fN)] [] rfl) hml hl.1 (by rw [hb]; exact d_M_wrong_1) (cd_M_isNumber G hW) ⟨Nat.le_of_ble_eq_true rfl, Nat.le_of_ble_eq_true rfl⟩ rfl rfl (Nat.le_of_ble_eq_true rfl) (Nat.le_of_ble_eq_true rfl) (Nat.le_of_ble_eq_true rfl) ?_
  refine lv_if_ne (tgt := 11) hx hb d_M_wrong_4 (by decide) (fun c_4 => ?_) (fun c_4 => absurd c_4 (by rw [isNum_nI hF]; decide))
  refine lv_aload_n hx hb d_M_wrong_11 rfl (lv_at hl 0 rfl) ?_
  refine va_get (D := D) (ci := 4) (v := .ref a1) (C := R_M) (T := T_M) (N := 12) hx hb (us_M G hW) (fun _ h => h) hown hK hP 0 rfl rfl 1 (by decide) (fl_M_7 G hW) (fun _ h9 => h9) rfl d_M_wrong_12 ?_
  refine lv_iload_n hx hb d_M_wrong_15 rfl (lv_at hl 1 rfl) ?_
  refine ia_ld hx hb hK hP 1 (j := fN) rfl (hF) (by decide) d_M_wrong_16 ?_
  refine tp_i (y := (nI (ki fN))) rfl ?_
  refine lv_if_ne (tgt := 24) hx hb d_M_wrong_17 (by decide) (fun c_17 => ?_) (fun c_17 => ?_)
  · refine lv_iconst (v := (nI 0)) hx hb d_M_wrong_24 (by decide) ?_
    exact mx_iret hx hb hr hlk d_M_wrong_25 (Nat.le_of_ble_eq_true rfl) (Nat.le_of_ble_eq_true rfl) (fun _ h => nomatch h) (⟨by rw [if_neg (fun h9 => c_17 (by rw [h9]; rfl))], rfl⟩)
  · refine lv_iconst (v := (nI 2)) hx hb d_M_wrong_20 (by decide) ?_
    refine lv_goto (tgt := 25) hx hb d_M_wrong_21 (by decide) ?_
    exact mx_iret hx hb hr hlk d_M_wrong_25 (Nat.le_of_ble_eq_true rfl) (Nat.le_of_ble_eq_true rfl) (fun _ h => nomatch h) (⟨by rw [if_pos ((nI_eq (b := 0) (by omega) (by decide)).mp c_17)], rfl⟩)

set_option maxHeartbeats 4000000 in
set_option maxRecDepth 100000 in
theorem c_M_fingerprint {l : Launch} {s0 : State} {D : va_G} {cI cF cJ : ClassId} (G : Gx l s0 D cI cF cJ) (hm a1 a2 a3 a4 a5 a6 a7 a8 a9 a10 a11 : Nat) (th : Int32) (ki ka kb : Nat → Nat) (zs pu : Nat → Int32) (ce pa tr : Nat → Nat) (so : Nat → Int32) (pl ot : Nat → Nat) (fN : Nat) (A B : Nat) (x : Int64) {H0 : Heap} (hP : va_P D vcl [(hm, .inr (4, [.int th, .ref a1, .ref a2, .ref a3, .ref a4, .ref a5, .ref a6, .ref a7, .ref a8, .ref a9, .ref a10, .ref a11])), (a1, aN cI 4 ki), (a2, aN cI 4 ka), (a3, aN cI 4 kb), (a4, aI cI 4 zs), (a5, aI cI 4 pu), (a6, aN cI 4096 ce), (a7, aN cI 1024 pa), (a8, aN cI 1024 tr), (a9, aI cI 256 so), (a10, aN cI 6 pl), (a11, aN cI 6 ot)] H0) (hF : fN < 4) (hka : ka fN = A) (hkb : kb fN = B) (hB4 : 4 ≤ B) (hB : B ≤ 16) : Mx l s0 y_M_fingerprint (.code y_M_fingerprint b_M_fingerprint 5 (some .int)) { frames := 1, cells := 0, slots := 0, locals := 25 } [.ref hm, .int (nI fN), .long x] H0 (fun _ => False) (Rd H0 (.int (nI (fpN B x)))) := by
  refine Mx.ofW (own := "FewBitsModel") rfl rfl ?_
  rintro p e s m below meth c ⟨hx, hb, hml, hr, hown, hW, hlk⟩ hnm het hH
  have hK := G.k hW
  have hl := lv_entry ([.ref hm, .int (nI fN), .long x]) (n := 5) (Nat.le_of_ble_eq_true rfl)
  rw [lg_entry_eq]
  generalize (lg_sl ([.ref hm, .int (nI fN), .long x]) ++ List.replicate (5 - (lg_sl ([.ref hm, .int (nI fN), .long x])).length) Slot.unset).toArray = ls at hl ⊢
  have hl : lv_has ls 5 [(0, .ref hm), (1, .int (nI fN)), (2, .long x)] := hl
  refine lv_lload_n hx hb d_M_fingerprint_0 rfl (lv_at hl 2 rfl) ?_
  refine lv_lconst (v := (nI 0).toInt64) hx hb d_M_fingerprint_1 (by decide) ?_
  refine mx_callR (r := .long (mx x (nI 0).toInt64)) (c_M_mixed G x (nI 0).toInt64) hW (iv_M_fingerprint_2 G hx hb hown hW [.long x, .long (nI 0).toInt64] [] rfl) hml hl.1 (by rw [hb]; exact d_M_fingerprint_2) (cd_M_mixed G hW) ⟨Nat.le_of_ble_eq_true rfl, Nat.le_of_ble_eq_true rfl⟩ rfl rfl (Nat.le_of_ble_eq_true rfl) (Nat.le_of_ble_eq_true rfl) (Nat.le_of_ble_eq_true rfl) ?_
  refine lv_bipush (v := (nI 64)) hx hb d_M_fingerprint_5 (by decide) ?_
  refine lv_aload_n hx hb d_M_fingerprint_7 rfl (lv_at hl 0 rfl) ?_
  refine va_get (D := D) (ci := 4) (v := .ref a3) (C := R_M) (T := T_M) (N := 12) hx hb (us_M G hW) (fun _ h => h) hown hK hP 0 rfl rfl 3 (by decide) (fl_M_16 G hW) (fun _ h9 => h9) rfl d_M_fingerprint_8 ?_
  refine lv_iload_n hx hb d_M_fingerprint_11 rfl (lv_at hl 1 rfl) ?_
  refine ia_ld hx hb hK hP 3 (j := fN) rfl (hF) (by decide) d_M_fingerprint_12 ?_
  refine tp_i (y := (nI (kb fN))) rfl ?_
  refine tp_i (y := (nI B)) (by rw [hkb]) ?_
  refine lv_isub hx hb d_M_fingerprint_13 ?_
  refine tp_i (y := (nI (64 - B))) (pk_sub (by omega)) ?_
  refine lv_lushr hx hb d_M_fingerprint_14 rfl ?_
  refine tp_l (y := (lN (mxN x (nI 0).toInt64 / 2 ^ (64 - B)))) (lshr_N _ (by omega)) ?_
  refine lv_l2i hx hb d_M_fingerprint_15 rfl ?_
  refine tp_i (y := (nI (mxN x (nI 0).toInt64 / 2 ^ (64 - B)))) (lN_i _) ?_
  refine lv_istore (lv' := [(4, .int (nI (mxN x (nI 0).toInt64 / 2 ^ (64 - B)))), (0, .ref hm), (1, .int (nI fN)), (2, .long x)]) hx hb d_M_fingerprint_16 hl (by decide) rfl (fun ls hl => ?_)
  refine lv_iload hx hb d_M_fingerprint_18 (lv_at hl 0 rfl) ?_
  refine lv_if_ne (tgt := 27) hx hb d_M_fingerprint_20 (by decide) (fun c_20 => ?_) (fun c_20 => ?_)
  · refine lv_iload hx hb d_M_fingerprint_27 (lv_at hl 0 rfl) ?_
    exact mx_iret hx hb hr hlk d_M_fingerprint_29 (Nat.le_of_ble_eq_true rfl) (Nat.le_of_ble_eq_true rfl) (fun _ h => nomatch h) (⟨by unfold fpN; rw [if_neg (fun h9 => c_20 (by rw [h9]; rfl))], rfl⟩)
  · refine lv_iconst (v := (nI 1)) hx hb d_M_fingerprint_23 (by decide) ?_
    refine lv_goto (tgt := 29) hx hb d_M_fingerprint_24 (by decide) ?_
    exact mx_iret hx hb hr hlk d_M_fingerprint_29 (Nat.le_of_ble_eq_true rfl) (Nat.le_of_ble_eq_true rfl) (fun _ h => nomatch h) (⟨by unfold fpN; rw [if_pos ((nI_eq (b := 0) (by have h1 := hi_lt x (nI 0).toInt64 (show B ≤ 64 by omega); have h2 := p2_le hB; exact Nat.lt_trans h1 (by omega)) (by decide)).mp c_20)], rfl⟩)

set_option maxHeartbeats 4000000 in
set_option maxRecDepth 100000 in
theorem c_M_firstBucket {l : Launch} {s0 : State} {D : va_G} {cI cF cJ : ClassId} (G : Gx l s0 D cI cF cJ) (hm a1 a2 a3 a4 a5 a6 a7 a8 a9 a10 a11 : Nat) (th : Int32) (ki ka kb : Nat → Nat) (zs pu : Nat → Int32) (ce pa tr : Nat → Nat) (so : Nat → Int32) (pl ot : Nat → Nat) (fN : Nat) (A B : Nat) (x : Int64) {H0 : Heap} (hP : va_P D vcl [(hm, .inr (4, [.int th, .ref a1, .ref a2, .ref a3, .ref a4, .ref a5, .ref a6, .ref a7, .ref a8, .ref a9, .ref a10, .ref a11])), (a1, aN cI 4 ki), (a2, aN cI 4 ka), (a3, aN cI 4 kb), (a4, aI cI 4 zs), (a5, aI cI 4 pu), (a6, aN cI 4096 ce), (a7, aN cI 1024 pa), (a8, aN cI 1024 tr), (a9, aI cI 256 so), (a10, aN cI 6 pl), (a11, aN cI 6 ot)] H0) (hF : fN < 4) (hka : ka fN = A) (hkb : kb fN = B) (hA : A ≤ 10) : Mx l s0 y_M_firstBucket (.code y_M_firstBucket b_M_firstBucket 4 (some .int)) { frames := 1, cells := 0, slots := 0, locals := 25 } [.ref hm, .int (nI fN), .long x] H0 (fun _ => False) (Rd H0 (.int (nI (fbN A x)))) := by
  refine Mx.ofW (own := "FewBitsModel") rfl rfl ?_
  rintro p e s m below meth c ⟨hx, hb, hml, hr, hown, hW, hlk⟩ hnm het hH
  have hK := G.k hW
  have hl := lv_entry ([.ref hm, .int (nI fN), .long x]) (n := 4) (Nat.le_of_ble_eq_true rfl)
  rw [lg_entry_eq]
  generalize (lg_sl ([.ref hm, .int (nI fN), .long x]) ++ List.replicate (4 - (lg_sl ([.ref hm, .int (nI fN), .long x])).length) Slot.unset).toArray = ls at hl ⊢
  have hl : lv_has ls 4 [(0, .ref hm), (1, .int (nI fN)), (2, .long x)] := hl
  refine lv_lload_n hx hb d_M_firstBucket_0 rfl (lv_at hl 2 rfl) ?_
  refine lv_lconst (v := (nI 1).toInt64) hx hb d_M_firstBucket_1 (by decide) ?_
  refine mx_callR (r := .long (mx x (nI 1).toInt64)) (c_M_mixed G x (nI 1).toInt64) hW (iv_M_firstBucket_2 G hx hb hown hW [.long x, .long (nI 1).toInt64] [] rfl) hml hl.1 (by rw [hb]; exact d_M_firstBucket_2) (cd_M_mixed G hW) ⟨Nat.le_of_ble_eq_true rfl, Nat.le_of_ble_eq_true rfl⟩ rfl rfl (Nat.le_of_ble_eq_true rfl) (Nat.le_of_ble_eq_true rfl) (Nat.le_of_ble_eq_true rfl) ?_
  refine lv_aload_n hx hb d_M_firstBucket_5 rfl (lv_at hl 0 rfl) ?_
  refine va_get (D := D) (ci := 4) (v := .ref a2) (C := R_M) (T := T_M) (N := 12) hx hb (us_M G hW) (fun _ h => h) hown hK hP 0 rfl rfl 2 (by decide) (fl_M_13 G hW) (fun _ h9 => h9) rfl d_M_firstBucket_6 ?_
  refine lv_iload_n hx hb d_M_firstBucket_9 rfl (lv_at hl 1 rfl) ?_
  refine ia_ld hx hb hK hP 2 (j := fN) rfl (hF) (by decide) d_M_firstBucket_10 ?_
  refine tp_i (y := (nI (ka fN))) rfl ?_
  refine tp_i (y := (nI A)) (by rw [hka]) ?_
  refine mx_callR (r := .int (nI (fbN A x))) (c_M_lowest G (mx x (nI 1).toInt64) A (by omega)) hW (iv_M_firstBucket_11 G hx hb hown hW [.long (mx x (nI 1).toInt64), .int (nI A)] [] rfl) hml hl.1 (by rw [hb]; exact d_M_firstBucket_11) (cd_M_lowest G hW) ⟨Nat.le_of_ble_eq_true rfl, Nat.le_of_ble_eq_true rfl⟩ rfl rfl (Nat.le_of_ble_eq_true rfl) (Nat.le_of_ble_eq_true rfl) (Nat.le_of_ble_eq_true rfl) ?_
  exact mx_iret hx hb hr hlk d_M_firstBucket_14 (Nat.le_of_ble_eq_true rfl) (Nat.le_of_ble_eq_true rfl) (fun _ h => nomatch h) (⟨rfl, rfl⟩)

set_option maxHeartbeats 4000000 in
set_option maxRecDepth 100000 in
theorem c_M_otherBucket {l : Launch} {s0 : State} {D : va_G} {cI cF cJ : ClassId} (G : Gx l s0 D cI cF cJ) (hm a1 a2 a3 a4 a5 a6 a7 a8 a9 a10 a11 : Nat) (th : Int32) (ki ka kb : Nat → Nat) (zs pu : Nat → Int32) (ce pa tr : Nat → Nat) (so : Nat → Int32) (pl ot : Nat → Nat) (fN : Nat) (A B : Nat) (bk q : Nat) {H0 : Heap} (hP : va_P D vcl [(hm, .inr (4, [.int th, .ref a1, .ref a2, .ref a3, .ref a4, .ref a5, .ref a6, .ref a7, .ref a8, .ref a9, .ref a10, .ref a11])), (a1, aN cI 4 ki), (a2, aN cI 4 ka), (a3, aN cI 4 kb), (a4, aI cI 4 zs), (a5, aI cI 4 pu), (a6, aN cI 4096 ce), (a7, aN cI 1024 pa), (a8, aN cI 1024 tr), (a9, aI cI 256 so), (a10, aN cI 6 pl), (a11, aN cI 6 ot)] H0) (hF : fN < 4) (hka : ka fN = A) (hkb : kb fN = B) (hA : A ≤ 10) : Mx l s0 y_M_otherBucket (.code y_M_otherBucket b_M_otherBucket 4 (some .int)) { frames := 1, cells := 0, slots := 0, locals := 25 } [.ref hm, .int (nI fN), .int (nI q), .int (nI bk)] H0 (fun _ => False) (Rd H0 (.int (nI (obN A bk q)))) := by
  refine Mx.ofW (own := "FewBitsModel") rfl rfl ?_
  rintro p e s m below meth c ⟨hx, hb, hml, hr, hown, hW, hlk⟩ hnm het hH
  have hK := G.k hW
  have hl := lv_entry ([.ref hm, .int (nI fN), .int (nI q), .int (nI bk)]) (n := 4) (Nat.le_of_ble_eq_true rfl)
  rw [lg_entry_eq]
  generalize (lg_sl ([.ref hm, .int (nI fN), .int (nI q), .int (nI bk)]) ++ List.replicate (4 - (lg_sl ([.ref hm, .int (nI fN), .int (nI q), .int (nI bk)])).length) Slot.unset).toArray = ls at hl ⊢
  have hl : lv_has ls 4 [(0, .ref hm), (1, .int (nI fN)), (2, .int (nI q)), (3, .int (nI bk))] := hl
  refine lv_iload_n hx hb d_M_otherBucket_0 rfl (lv_at hl 3 rfl) ?_
  refine lv_iload_n hx hb d_M_otherBucket_1 rfl (lv_at hl 2 rfl) ?_
  refine lv_i2l hx hb d_M_otherBucket_2 rfl ?_
  refine lv_ldc2 (v := 2) hx hb hown (G.1.at 761 rfl rfl _ hW) d_M_otherBucket_3 ?_
  refine tp_l (y := (nI 2).toInt64) (by decide) ?_
  refine mx_callR (r := .long (mx (nI q).toInt64 (nI 2).toInt64)) (c_M_mixed G (nI q).toInt64 (nI 2).toInt64) hW (iv_M_otherBucket_6 G hx hb hown hW [.long (Int32.toInt64 (nI q)), .long (nI 2).toInt64] [.int (nI bk)] rfl) hml hl.1 (by rw [hb]; exact d_M_otherBucket_6) (cd_M_mixed G hW) ⟨Nat.le_of_ble_eq_true rfl, Nat.le_of_ble_eq_true rfl⟩ rfl rfl (Nat.le_of_ble_eq_true rfl) (Nat.le_of_ble_eq_true rfl) (Nat.le_of_ble_eq_true rfl) ?_
  refine lv_aload_n hx hb d_M_otherBucket_9 rfl (lv_at hl 0 rfl) ?_
  refine va_get (D := D) (ci := 4) (v := .ref a2) (C := R_M) (T := T_M) (N := 12) hx hb (us_M G hW) (fun _ h => h) hown hK hP 0 rfl rfl 2 (by decide) (fl_M_13 G hW) (fun _ h9 => h9) rfl d_M_otherBucket_10 ?_
  refine lv_iload_n hx hb d_M_otherBucket_13 rfl (lv_at hl 1 rfl) ?_
  refine ia_ld hx hb hK hP 2 (j := fN) rfl (hF) (by decide) d_M_otherBucket_14 ?_
  refine tp_i (y := (nI (ka fN))) rfl ?_
  refine tp_i (y := (nI A)) (by rw [hka]) ?_
  refine mx_callR (r := .int (nI (mxN (nI q).toInt64 (nI 2).toInt64 % 2 ^ A))) (c_M_lowest G (mx (nI q).toInt64 (nI 2).toInt64) A (by omega)) hW (iv_M_otherBucket_15 G hx hb hown hW [.long (mx (nI q).toInt64 (nI 2).toInt64), .int (nI A)] [.int (nI bk)] rfl) hml hl.1 (by rw [hb]; exact d_M_otherBucket_15) (cd_M_lowest G hW) ⟨Nat.le_of_ble_eq_true rfl, Nat.le_of_ble_eq_true rfl⟩ rfl rfl (Nat.le_of_ble_eq_true rfl) (Nat.le_of_ble_eq_true rfl) (Nat.le_of_ble_eq_true rfl) ?_
  refine lv_ixor hx hb d_M_otherBucket_18 ?_
  refine tp_i (y := (nI (obN A bk q))) (nx_xor _ _) ?_
  exact mx_iret hx hb hr hlk d_M_otherBucket_19 (Nat.le_of_ble_eq_true rfl) (Nat.le_of_ble_eq_true rfl) (fun _ h => nomatch h) (⟨rfl, rfl⟩)

set_option maxHeartbeats 4000000 in
set_option maxRecDepth 100000 in
theorem c_M_pair {l : Launch} {s0 : State} {D : va_G} {cI cF cJ : ClassId} (G : Gx l s0 D cI cF cJ) (hm a1 a2 a3 a4 a5 a6 a7 a8 a9 a10 a11 : Nat) (th : Int32) (ki ka kb : Nat → Nat) (zs pu : Nat → Int32) (ce pa tr : Nat → Nat) (so : Nat → Int32) (pl ot : Nat → Nat) (fN : Nat) (A B : Nat) (x : Int64) {H0 : Heap} (hP : va_P D vcl [(hm, .inr (4, [.int th, .ref a1, .ref a2, .ref a3, .ref a4, .ref a5, .ref a6, .ref a7, .ref a8, .ref a9, .ref a10, .ref a11])), (a1, aN cI 4 ki), (a2, aN cI 4 ka), (a3, aN cI 4 kb), (a4, aI cI 4 zs), (a5, aI cI 4 pu), (a6, aN cI 4096 ce), (a7, aN cI 1024 pa), (a8, aN cI 1024 tr), (a9, aI cI 256 so), (a10, aN cI 6 pl), (a11, aN cI 6 ot)] H0) (hF : fN < 4) (hka : ka fN = A) (hkb : kb fN = B) (hA2 : 2 ≤ A) (hA : A ≤ 8) (hB4 : 4 ≤ B) (hB : B ≤ 20) : Mx l s0 y_M_pair (.code y_M_pair b_M_pair 8 (some .int)) { frames := 1, cells := 0, slots := 0, locals := 25 } [.ref hm, .int (nI fN), .long x] H0 (fun _ => False) (Rd H0 (.int (nI (enc B (prN A B x))))) := by
  refine Mx.ofW (own := "FewBitsModel") rfl rfl ?_
  rintro p e s m below meth c ⟨hx, hb, hml, hr, hown, hW, hlk⟩ hnm het hH
  have hK := G.k hW
  have hl := lv_entry ([.ref hm, .int (nI fN), .long x]) (n := 8) (Nat.le_of_ble_eq_true rfl)
  rw [lg_entry_eq]
  generalize (lg_sl ([.ref hm, .int (nI fN), .long x]) ++ List.replicate (8 - (lg_sl ([.ref hm, .int (nI fN), .long x])).length) Slot.unset).toArray = ls at hl ⊢
  have hl : lv_has ls 8 [(0, .ref hm), (1, .int (nI fN)), (2, .long x)] := hl
  refine lv_lload_n hx hb d_M_pair_0 rfl (lv_at hl 2 rfl) ?_
  refine lv_lconst (v := (nI 0).toInt64) hx hb d_M_pair_1 (by decide) ?_
  refine mx_callR (r := .long (mx x (nI 0).toInt64)) (c_M_mixed G x (nI 0).toInt64) hW (iv_M_pair_2 G hx hb hown hW [.long x, .long (nI 0).toInt64] [] rfl) hml hl.1 (by rw [hb]; exact d_M_pair_2) (cd_M_mixed G hW) ⟨Nat.le_of_ble_eq_true rfl, Nat.le_of_ble_eq_true rfl⟩ rfl rfl (Nat.le_of_ble_eq_true rfl) (Nat.le_of_ble_eq_true rfl) (Nat.le_of_ble_eq_true rfl) ?_
  refine lv_lstore (lv' := [(4, .long (mx x (nI 0).toInt64)), (0, .ref hm), (1, .int (nI fN)), (2, .long x)]) hx hb d_M_pair_5 hl (by decide) rfl (fun ls hl => ?_)
  refine lv_lload hx hb d_M_pair_7 (lv_at hl 0 rfl) ?_
  refine lv_bipush (v := (nI 64)) hx hb d_M_pair_9 (by decide) ?_
  refine lv_aload_n hx hb d_M_pair_11 rfl (lv_at hl 1 rfl) ?_
  refine va_get (D := D) (ci := 4) (v := .ref a2) (C := R_M) (T := T_M) (N := 12) hx hb (us_M G hW) (fun _ h => h) hown hK hP 0 rfl rfl 2 (by decide) (fl_M_13 G hW) (fun _ h9 => h9) rfl d_M_pair_12 ?_
  refine lv_iload_n hx hb d_M_pair_15 rfl (lv_at hl 2 rfl) ?_
  refine ia_ld hx hb hK hP 2 (j := fN) rfl (hF) (by decide) d_M_pair_16 ?_
  refine tp_i (y := (nI (ka fN))) rfl ?_
  refine tp_i (y := (nI A)) (by rw [hka]) ?_
  refine lv_isub hx hb d_M_pair_17 ?_
  refine tp_i (y := (nI (64 - A))) (pk_sub (by omega)) ?_
  refine lv_lushr hx hb d_M_pair_18 rfl ?_
  refine tp_l (y := (lN ((mxN x (nI 0).toInt64) / 2 ^ (64 - A)))) (lshr_N _ (by omega)) ?_
  refine lv_l2i hx hb d_M_pair_19 rfl ?_
  refine tp_i (y := (nI (prN A B x / 2 ^ B))) (by rw [lN_i, enc_q hA hB]; rfl) ?_
  refine lv_istore (lv' := [(6, .int (nI (prN A B x / 2 ^ B))), (4, .long (mx x (nI 0).toInt64)), (0, .ref hm), (1, .int (nI fN)), (2, .long x)]) hx hb d_M_pair_20 hl (by decide) rfl (fun ls hl => ?_)
  refine lv_lload hx hb d_M_pair_22 (lv_at hl 1 rfl) ?_
  refine lv_aload_n hx hb d_M_pair_24 rfl (lv_at hl 2 rfl) ?_
  refine va_get (D := D) (ci := 4) (v := .ref a2) (C := R_M) (T := T_M) (N := 12) hx hb (us_M G hW) (fun _ h => h) hown hK hP 0 rfl rfl 2 (by decide) (fl_M_13 G hW) (fun _ h9 => h9) rfl d_M_pair_25 ?_
  refine lv_iload_n hx hb d_M_pair_28 rfl (lv_at hl 3 rfl) ?_
  refine ia_ld hx hb hK hP 2 (j := fN) rfl (hF) (by decide) d_M_pair_29 ?_
  refine tp_i (y := (nI (ka fN))) rfl ?_
  refine tp_i (y := (nI A)) (by rw [hka]) ?_
  refine lv_lshl hx hb d_M_pair_30 rfl ?_
  refine tp_l (y := (lN ((mxN x (nI 0).toInt64) * 2 ^ A % 2 ^ 64))) (lshl_N _ (by omega)) ?_
  refine lv_bipush (v := (nI 64)) hx hb d_M_pair_31 (by decide) ?_
  refine lv_aload_n hx hb d_M_pair_33 rfl (lv_at hl 2 rfl) ?_
  refine va_get (D := D) (ci := 4) (v := .ref a3) (C := R_M) (T := T_M) (N := 12) hx hb (us_M G hW) (fun _ h => h) hown hK hP 0 rfl rfl 3 (by decide) (fl_M_16 G hW) (fun _ h9 => h9) rfl d_M_pair_34 ?_
  refine lv_iload_n hx hb d_M_pair_37 rfl (lv_at hl 3 rfl) ?_
  refine ia_ld hx hb hK hP 3 (j := fN) rfl (hF) (by decide) d_M_pair_38 ?_
  refine tp_i (y := (nI (kb fN))) rfl ?_
  refine tp_i (y := (nI B)) (by rw [hkb]) ?_
  refine lv_isub hx hb d_M_pair_39 ?_
  refine tp_i (y := (nI (64 - B))) (pk_sub (by omega)) ?_
  refine lv_lushr hx hb d_M_pair_40 rfl ?_
  refine tp_l (y := (lN ((mxN x (nI 0).toInt64) * 2 ^ A % 2 ^ 64 / 2 ^ (64 - B)))) (lshr_lN (Nat.mod_lt _ (by decide)) (by omega)) ?_
  refine lv_l2i hx hb d_M_pair_41 rfl ?_
  refine tp_i (y := (nI (prN A B x % 2 ^ B))) (by rw [lN_i, enc_r hA hB]; rfl) ?_
  refine lv_istore (lv' := [(7, .int (nI (prN A B x % 2 ^ B))), (6, .int (nI (prN A B x / 2 ^ B))), (4, .long (mx x (nI 0).toInt64)), (0, .ref hm), (1, .int (nI fN)), (2, .long x)]) hx hb d_M_pair_42 hl (by decide) rfl (fun ls hl => ?_)
  refine lv_iload hx hb d_M_pair_44 (lv_at hl 1 rfl) ?_
  refine lv_bipush (v := (nI 20)) hx hb d_M_pair_46 (by decide) ?_
  refine lv_ishl hx hb d_M_pair_48 ?_
  refine tp_i (y := (nI (prN A B x / 2 ^ B * 2 ^ 20))) (shl_B (by decide) (by have h1 := div_lt_A (prN_lt hA hB x); have h2 := p2_le hA; have h3 : prN A B x / 2 ^ B * 2 ^ 20 ≤ 255 * 2 ^ 20 := Nat.mul_le_mul_right _ (by omega); omega)) ?_
  refine lv_iload hx hb d_M_pair_49 (lv_at hl 0 rfl) ?_
  refine lv_ior hx hb d_M_pair_51 ?_
  refine tp_i (y := (nI (enc B (prN A B x)))) (enc_or hB) ?_
  exact mx_iret hx hb hr hlk d_M_pair_52 (Nat.le_of_ble_eq_true rfl) (Nat.le_of_ble_eq_true rfl) (fun _ h => nomatch h) (⟨rfl, rfl⟩)

set_option maxHeartbeats 4000000 in
set_option maxRecDepth 100000 in
theorem c_M_howOften_10 {l : Launch} {s0 : State} {D : va_G} {cI cF cJ : ClassId} (G : Gx l s0 D cI cF cJ) (hm a1 a2 a3 a4 a5 a6 a7 a8 a9 a10 a11 : Nat) (th : Int32) (ki ka kb : Nat → Nat) (zs pu : Nat → Int32) (ce pa tr : Nat → Nat) (so : Nat → Int32) (pl ot : Nat → Nat) (B x : Nat) {H0 : Heap} (hP : va_P D vcl [(hm, .inr (4, [.int th, .ref a1, .ref a2, .ref a3, .ref a4, .ref a5, .ref a6, .ref a7, .ref a8, .ref a9, .ref a10, .ref a11])), (a1, aN cI 4 ki), (a2, aN cI 4 ka), (a3, aN cI 4 kb), (a4, aI cI 4 zs), (a5, aI cI 4 pu), (a6, aN cI 4096 ce), (a7, aN cI 1024 pa), (a8, aN cI 1024 tr), (a9, aI cI 256 so), (a10, aN cI 6 pl), (a11, aN cI 6 ot)] H0) (hB : B ≤ 6) (hrow : ∀ i, i < B → pl i < 1024) (hx1 : x < 1024) : Mx l s0 y_M_howOften (.code y_M_howOften b_M_howOften 5 (some .int)) { frames := 0, cells := 0, slots := 0, locals := 0 } [.ref a10, .int (nI B), .int (nI x)] H0 (fun _ => False) (Rd H0 (.int (nI (cnt pl x B)))) := by
  refine Mx.ofW (own := "FewBitsModel") rfl rfl ?_
  rintro p e s m below meth c ⟨hx, hb, hml, hr, hown, hW, hlk⟩ hnm het hH
  have hK := G.k hW
  have hl := lv_entry ([.ref a10, .int (nI B), .int (nI x)]) (n := 5) (Nat.le_of_ble_eq_true rfl)
  rw [lg_entry_eq]
  generalize (lg_sl ([.ref a10, .int (nI B), .int (nI x)]) ++ List.replicate (5 - (lg_sl ([.ref a10, .int (nI B), .int (nI x)])).length) Slot.unset).toArray = ls at hl ⊢
  have hl : lv_has ls 5 [(0, .ref a10), (1, .int (nI B)), (2, .int (nI x))] := hl
  refine lv_iconst (v := (nI 0)) hx hb d_M_howOften_0 (by decide) ?_
  refine lv_istore_n (lv' := [(3, .int (nI 0)), (0, .ref a10), (1, .int (nI B)), (2, .int (nI x))]) hx hb d_M_howOften_1 rfl hl (by decide) rfl (fun ls hl => ?_)
  refine lv_iconst (v := (nI 0)) hx hb d_M_howOften_2 (by decide) ?_
  refine lv_istore (lv' := [(4, .int (nI 0)), (3, .int (nI 0)), (0, .ref a10), (1, .int (nI B)), (2, .int (nI x))]) hx hb d_M_howOften_3 hl (by decide) rfl (fun ls hl => ?_)
  have loop_5 : ∀ (k : Nat) (i : Nat) (t : Nat), (i + k = B) → (t = cnt pl x i) → ∀ (ls : Array Slot), lv_has ls 5 [(4, .int (nI i)), (3, .int (nI t)), (0, .ref a10), (1, .int (nI B)), (2, .int (nI x))] → W p l e { frames := 0, cells := 0, slots := 0, locals := 0 } s m ([.ref a10, .int (nI B), .int (nI x)] : List Value).toArray below meth c H0 [] 0 0 (MQx below (Rd H0 (.int (nI (cnt pl x B)))) s 0 0 (fun _ => False)) (F0 m 5 ls []) := by
    intro k
    induction k with
    | zero =>
      intro i t hk ht  ls hl
      refine lv_iload hx hb d_M_howOften_5 (lv_at hl 0 rfl) ?_
      refine lv_iload_n hx hb d_M_howOften_7 rfl (lv_at hl 3 rfl) ?_
      refine lv_icmp_ge (tgt := 33) hx hb d_M_howOften_8 (by decide) (fun c_8 => ?_) (fun c_8 => absurd (nI_le (by omega) (by omega)) c_8)
      refine lv_iload_n hx hb d_M_howOften_33 rfl (lv_at hl 1 rfl) ?_
      exact mx_iret hx hb hr hlk d_M_howOften_34 (Nat.le_of_ble_eq_true rfl) (Nat.le_of_ble_eq_true rfl) (fun _ h => nomatch h) (⟨by rw [ht, show i = B by omega], rfl⟩)
    | succ k ih_5 =>
      intro i t hk ht  ls hl
      refine lv_iload hx hb d_M_howOften_5 (lv_at hl 0 rfl) ?_
      refine lv_iload_n hx hb d_M_howOften_7 rfl (lv_at hl 3 rfl) ?_
      refine lv_icmp_ge (tgt := 33) hx hb d_M_howOften_8 (by decide) (fun c_8 => absurd c_8 (nI_ge (by omega) (by omega))) (fun c_8 => ?_)
      refine lv_aload_n hx hb d_M_howOften_11 rfl (lv_at hl 2 rfl) ?_
      refine lv_iload hx hb d_M_howOften_12 (lv_at hl 0 rfl) ?_
      refine ia_ld hx hb hK hP 10 (j := i) rfl (by omega) (by decide) d_M_howOften_14 ?_
      refine tp_i (y := (nI (pl i))) rfl ?_
      refine lv_iload_n hx hb d_M_howOften_15 rfl (lv_at hl 4 rfl) ?_
      refine lv_icmp_ne (tgt := 25) hx hb d_M_howOften_16 (by decide) (fun c_16 => ?_) (fun c_16 => ?_)
      · refine lv_iload_n hx hb d_M_howOften_25 rfl (lv_at hl 1 rfl) ?_
        refine lv_istore_n (lv' := [(3, .int (nI t)), (4, .int (nI i)), (0, .ref a10), (1, .int (nI B)), (2, .int (nI x))]) hx hb d_M_howOften_26 rfl hl (by decide) rfl (fun ls hl => ?_)
        refine lv_iinc (v := (nI (i + 1))) (lv' := [(4, .int (nI (i + 1))), (3, .int (nI t)), (0, .ref a10), (1, .int (nI B)), (2, .int (nI x))]) hx hb d_M_howOften_27 hl (k := 1) rfl (nI_1 _) (by decide) rfl (fun ls hl => ?_)
        refine lv_goto (tgt := 5) hx hb d_M_howOften_30 (by decide) ?_
        exact ih_5 (i + 1) (t) (by omega) (by rw [ht, cnt_f (fun h9 => c_16 (by rw [h9]))]) ls (lv_sub hl [0, 1, 2, 3, 4] rfl)
      · refine lv_iload_n hx hb d_M_howOften_19 rfl (lv_at hl 1 rfl) ?_
        refine lv_iconst (v := (nI 1)) hx hb d_M_howOften_20 (by decide) ?_
        refine lv_iadd hx hb d_M_howOften_21 ?_
        refine tp_i (y := (nI (t + 1))) (nI_add _ _) ?_
        refine lv_goto (tgt := 26) hx hb d_M_howOften_22 (by decide) ?_
        refine lv_istore_n (lv' := [(3, .int (nI (t + 1))), (4, .int (nI i)), (0, .ref a10), (1, .int (nI B)), (2, .int (nI x))]) hx hb d_M_howOften_26 rfl hl (by decide) rfl (fun ls hl => ?_)
        refine lv_iinc (v := (nI (i + 1))) (lv' := [(4, .int (nI (i + 1))), (3, .int (nI (t + 1))), (0, .ref a10), (1, .int (nI B)), (2, .int (nI x))]) hx hb d_M_howOften_27 hl (k := 1) rfl (nI_1 _) (by decide) rfl (fun ls hl => ?_)
        refine lv_goto (tgt := 5) hx hb d_M_howOften_30 (by decide) ?_
        exact ih_5 (i + 1) (t + 1) (by omega) (by rw [ht, cnt_t ((nI_eq (by have := hrow i (by omega); omega) (by omega)).mp c_16)]) ls (lv_sub hl [0, 1, 2, 3, 4] rfl)
  exact loop_5 (B) (0) (0) (by omega) (rfl) ls (lv_sub hl [0, 1, 2, 3, 4] rfl)

set_option maxHeartbeats 4000000 in
set_option maxRecDepth 100000 in
theorem c_M_findPlaces_10 {l : Launch} {s0 : State} {D : va_G} {cI cF cJ : ClassId} (G : Gx l s0 D cI cF cJ) (hm a1 a2 a3 a4 a5 a6 a7 a8 a9 a10 a11 : Nat) (th : Int32) (ki ka kb : Nat → Nat) (zs pu : Nat → Int32) (ce pa tr : Nat → Nat) (so : Nat → Int32) (pl ot : Nat → Nat) (fN : Nat) (A B : Nat) (x : Int64) {H0 : Heap} {A0 : Nat → Prop} (hP : va_P D vcl [(hm, .inr (4, [.int th, .ref a1, .ref a2, .ref a3, .ref a4, .ref a5, .ref a6, .ref a7, .ref a8, .ref a9, .ref a10, .ref a11])), (a1, aN cI 4 ki), (a2, aN cI 4 ka), (a3, aN cI 4 kb), (a4, aI cI 4 zs), (a5, aI cI 4 pu), (a6, aN cI 4096 ce), (a7, aN cI 1024 pa), (a8, aN cI 1024 tr), (a9, aI cI 256 so), (a10, aN cI 6 pl), (a11, aN cI 6 ot)] H0) (hD : va_D A0 [(hm, .inr (4, [.int th, .ref a1, .ref a2, .ref a3, .ref a4, .ref a5, .ref a6, .ref a7, .ref a8, .ref a9, .ref a10, .ref a11])), (a1, aN cI 4 ki), (a2, aN cI 4 ka), (a3, aN cI 4 kb), (a4, aI cI 4 zs), (a5, aI cI 4 pu), (a6, aN cI 4096 ce), (a7, aN cI 1024 pa), (a8, aN cI 1024 tr), (a9, aI cI 256 so), (a10, aN cI 6 pl), (a11, aN cI 6 ot)]) (hF : fN < 4) (hka : ka fN = A) (hkb : kb fN = B) (hA : A ≤ 10) (hB : B ≤ 6) : Mx l s0 y_M_findPlaces (.code y_M_findPlaces b_M_findPlaces 6 none) { frames := 1, cells := 0, slots := 0, locals := 25 } [.ref hm, .int (nI fN), .long x, .ref a10] H0 (Aa [hm, a1, a2, a3, a4, a5, a6, a7, a8, a9, a10, a11] H0.size) (Rn (fun H1 => va_P D vcl [(hm, .inr (4, [.int th, .ref a1, .ref a2, .ref a3, .ref a4, .ref a5, .ref a6, .ref a7, .ref a8, .ref a9, .ref a10, .ref a11])), (a1, aN cI 4 ki), (a2, aN cI 4 ka), (a3, aN cI 4 kb), (a4, aI cI 4 zs), (a5, aI cI 4 pu), (a6, aN cI 4096 ce), (a7, aN cI 1024 pa), (a8, aN cI 1024 tr), (a9, aI cI 256 so), (a10, aN cI 6 (fpr A x pl B)), (a11, aN cI 6 ot)] H1)) := by
  refine Mx.ofW (own := "FewBitsModel") rfl rfl ?_
  rintro p e s m below meth c ⟨hx, hb, hml, hr, hown, hW, hlk⟩ hnm het hH
  have hK := G.k hW
  have hD := hD.aa (sz := H0.size)
  have hD : va_D (Aa [hm, a1, a2, a3, a4, a5, a6, a7, a8, a9, a10, a11] H0.size) [(hm, .inr (4, [.int th, .ref a1, .ref a2, .ref a3, .ref a4, .ref a5, .ref a6, .ref a7, .ref a8, .ref a9, .ref a10, .ref a11])), (a1, aN cI 4 ki), (a2, aN cI 4 ka), (a3, aN cI 4 kb), (a4, aI cI 4 zs), (a5, aI cI 4 pu), (a6, aN cI 4096 ce), (a7, aN cI 1024 pa), (a8, aN cI 1024 tr), (a9, aI cI 256 so), (a10, aN cI 6 pl), (a11, aN cI 6 ot)] := hD
  have hS : va_S (Aa [hm, a1, a2, a3, a4, a5, a6, a7, a8, a9, a10, a11] H0.size) H0 H0 [] := va_S.rf
  have hl := lv_entry ([.ref hm, .int (nI fN), .long x, .ref a10]) (n := 6) (Nat.le_of_ble_eq_true rfl)
  rw [lg_entry_eq]
  generalize (lg_sl ([.ref hm, .int (nI fN), .long x, .ref a10]) ++ List.replicate (6 - (lg_sl ([.ref hm, .int (nI fN), .long x, .ref a10])).length) Slot.unset).toArray = ls at hl ⊢
  have hl : lv_has ls 6 [(0, .ref hm), (1, .int (nI fN)), (2, .long x), (4, .ref a10)] := hl
  refine lv_iconst (v := (nI 0)) hx hb d_M_findPlaces_0 (by decide) ?_
  refine lv_istore (lv' := [(5, .int (nI 0)), (0, .ref hm), (1, .int (nI fN)), (2, .long x), (4, .ref a10)]) hx hb d_M_findPlaces_1 hl (by decide) rfl (fun ls hl => ?_)
  have loop_3 : ∀ (k : Nat) (i : Nat), (i + k = B) → ∀ (H : Heap) (locs : List Loc), va_P D vcl [(hm, .inr (4, [.int th, .ref a1, .ref a2, .ref a3, .ref a4, .ref a5, .ref a6, .ref a7, .ref a8, .ref a9, .ref a10, .ref a11])), (a1, aN cI 4 ki), (a2, aN cI 4 ka), (a3, aN cI 4 kb), (a4, aI cI 4 zs), (a5, aI cI 4 pu), (a6, aN cI 4096 ce), (a7, aN cI 1024 pa), (a8, aN cI 1024 tr), (a9, aI cI 256 so), (a10, aN cI 6 (fpr A x pl i)), (a11, aN cI 6 ot)] H → va_D (Aa [hm, a1, a2, a3, a4, a5, a6, a7, a8, a9, a10, a11] H0.size) [(hm, .inr (4, [.int th, .ref a1, .ref a2, .ref a3, .ref a4, .ref a5, .ref a6, .ref a7, .ref a8, .ref a9, .ref a10, .ref a11])), (a1, aN cI 4 ki), (a2, aN cI 4 ka), (a3, aN cI 4 kb), (a4, aI cI 4 zs), (a5, aI cI 4 pu), (a6, aN cI 4096 ce), (a7, aN cI 1024 pa), (a8, aN cI 1024 tr), (a9, aI cI 256 so), (a10, aN cI 6 (fpr A x pl i)), (a11, aN cI 6 ot)] → va_S (Aa [hm, a1, a2, a3, a4, a5, a6, a7, a8, a9, a10, a11] H0.size) H0 H locs → ∀ (ls : Array Slot), lv_has ls 6 [(5, .int (nI i)), (0, .ref hm), (1, .int (nI fN)), (2, .long x), (4, .ref a10)] → W p l e { frames := 1, cells := 0, slots := 0, locals := 25 } s m ([.ref hm, .int (nI fN), .long x, .ref a10] : List Value).toArray below meth c H locs 0 0 (MQx below (Rn (fun H1 => va_P D vcl [(hm, .inr (4, [.int th, .ref a1, .ref a2, .ref a3, .ref a4, .ref a5, .ref a6, .ref a7, .ref a8, .ref a9, .ref a10, .ref a11])), (a1, aN cI 4 ki), (a2, aN cI 4 ka), (a3, aN cI 4 kb), (a4, aI cI 4 zs), (a5, aI cI 4 pu), (a6, aN cI 4096 ce), (a7, aN cI 1024 pa), (a8, aN cI 1024 tr), (a9, aI cI 256 so), (a10, aN cI 6 (fpr A x pl B)), (a11, aN cI 6 ot)] H1)) s 0 0 (Aa [hm, a1, a2, a3, a4, a5, a6, a7, a8, a9, a10, a11] H0.size)) (F0 m 3 ls []) := by
    intro k
    induction k with
    | zero =>
      intro i hk H locs hP hD hS ls hl
      refine lv_iload hx hb d_M_findPlaces_3 (lv_at hl 0 rfl) ?_
      refine lv_aload_n hx hb d_M_findPlaces_5 rfl (lv_at hl 1 rfl) ?_
      refine va_get (D := D) (ci := 4) (v := .ref a3) (C := R_M) (T := T_M) (N := 12) hx hb (us_M G hW) (fun _ h => h) hown hK hP 0 rfl rfl 3 (by decide) (fl_M_16 G hW) (fun _ h9 => h9) rfl d_M_findPlaces_6 ?_
      refine lv_iload_n hx hb d_M_findPlaces_9 rfl (lv_at hl 2 rfl) ?_
      refine ia_ld hx hb hK hP 3 (j := fN) rfl (hF) (by decide) d_M_findPlaces_10 ?_
      refine tp_i (y := (nI (kb fN))) rfl ?_
      refine tp_i (y := (nI B)) (by rw [hkb]) ?_
      refine lv_icmp_ge (tgt := 41) hx hb d_M_findPlaces_11 (by decide) (fun c_11 => ?_) (fun c_11 => absurd (nI_le (by omega) (by omega)) c_11)
      exact mx_vret hx hb hr hlk d_M_findPlaces_41 (Nat.le_of_ble_eq_true rfl) (Nat.le_of_ble_eq_true rfl) hS.2.2 (⟨rfl, by rw [show i = B by omega] at hP; exact hP⟩)
    | succ k ih_3 =>
      intro i hk H locs hP hD hS ls hl
      refine lv_iload hx hb d_M_findPlaces_3 (lv_at hl 0 rfl) ?_
      refine lv_aload_n hx hb d_M_findPlaces_5 rfl (lv_at hl 1 rfl) ?_
      refine va_get (D := D) (ci := 4) (v := .ref a3) (C := R_M) (T := T_M) (N := 12) hx hb (us_M G hW) (fun _ h => h) hown hK hP 0 rfl rfl 3 (by decide) (fl_M_16 G hW) (fun _ h9 => h9) rfl d_M_findPlaces_6 ?_
      refine lv_iload_n hx hb d_M_findPlaces_9 rfl (lv_at hl 2 rfl) ?_
      refine ia_ld hx hb hK hP 3 (j := fN) rfl (hF) (by decide) d_M_findPlaces_10 ?_
      refine tp_i (y := (nI (kb fN))) rfl ?_
      refine tp_i (y := (nI B)) (by rw [hkb]) ?_
      refine lv_icmp_ge (tgt := 41) hx hb d_M_findPlaces_11 (by decide) (fun c_11 => absurd c_11 (nI_ge (by omega) (by omega))) (fun c_11 => ?_)
      refine lv_aload hx hb d_M_findPlaces_14 (lv_at hl 4 rfl) ?_
      refine lv_iload hx hb d_M_findPlaces_16 (lv_at hl 0 rfl) ?_
      refine lv_lload_n hx hb d_M_findPlaces_18 rfl (lv_at hl 3 rfl) ?_
      refine lv_iload hx hb d_M_findPlaces_19 (lv_at hl 0 rfl) ?_
      refine lv_i2l hx hb d_M_findPlaces_21 rfl ?_
      refine mx_callR (r := .long (mx x (nI i).toInt64)) (c_M_mixed G x (nI i).toInt64) hW (iv_M_findPlaces_22 G hx hb hown hW [.long x, .long (Int32.toInt64 (nI i))] [.int (nI i), .ref a10] rfl) hml hl.1 (by rw [hb]; exact d_M_findPlaces_22) (cd_M_mixed G hW) ⟨Nat.le_of_ble_eq_true rfl, Nat.le_of_ble_eq_true rfl⟩ rfl rfl (Nat.le_of_ble_eq_true rfl) (Nat.le_of_ble_eq_true rfl) (Nat.le_of_ble_eq_true rfl) ?_
      refine lv_aload_n hx hb d_M_findPlaces_25 rfl (lv_at hl 1 rfl) ?_
      refine va_get (D := D) (ci := 4) (v := .ref a2) (C := R_M) (T := T_M) (N := 12) hx hb (us_M G hW) (fun _ h => h) hown hK hP 0 rfl rfl 2 (by decide) (fl_M_13 G hW) (fun _ h9 => h9) rfl d_M_findPlaces_26 ?_
      refine lv_iload_n hx hb d_M_findPlaces_29 rfl (lv_at hl 2 rfl) ?_
      refine ia_ld hx hb hK hP 2 (j := fN) rfl (hF) (by decide) d_M_findPlaces_30 ?_
      refine tp_i (y := (nI (ka fN))) rfl ?_
      refine tp_i (y := (nI A)) (by rw [hka]) ?_
      refine mx_callR (r := .int (nI (plx A x i))) (c_M_lowest G (mx x (nI i).toInt64) A (by omega)) hW (iv_M_findPlaces_31 G hx hb hown hW [.long (mx x (nI i).toInt64), .int (nI A)] [.int (nI i), .ref a10] rfl) hml hl.1 (by rw [hb]; exact d_M_findPlaces_31) (cd_M_lowest G hW) ⟨Nat.le_of_ble_eq_true rfl, Nat.le_of_ble_eq_true rfl⟩ rfl rfl (Nat.le_of_ble_eq_true rfl) (Nat.le_of_ble_eq_true rfl) (Nat.le_of_ble_eq_true rfl) ?_
      refine ia_stN hx hb hK hP hD hS 10 (j := i) (x := (plx A x i)) (f := (fpr A x pl i)) rfl (by omega) (by decide) d_M_findPlaces_34 (fun H locs hP hD hS => ?_)
      have hP : va_P D vcl [(hm, .inr (4, [.int th, .ref a1, .ref a2, .ref a3, .ref a4, .ref a5, .ref a6, .ref a7, .ref a8, .ref a9, .ref a10, .ref a11])), (a1, aN cI 4 ki), (a2, aN cI 4 ka), (a3, aN cI 4 kb), (a4, aI cI 4 zs), (a5, aI cI 4 pu), (a6, aN cI 4096 ce), (a7, aN cI 1024 pa), (a8, aN cI 1024 tr), (a9, aI cI 256 so), (a10, aN cI 6 (va_up (fpr A x pl i) i (plx A x i))), (a11, aN cI 6 ot)] H := hP
      have hD : va_D (Aa [hm, a1, a2, a3, a4, a5, a6, a7, a8, a9, a10, a11] H0.size) [(hm, .inr (4, [.int th, .ref a1, .ref a2, .ref a3, .ref a4, .ref a5, .ref a6, .ref a7, .ref a8, .ref a9, .ref a10, .ref a11])), (a1, aN cI 4 ki), (a2, aN cI 4 ka), (a3, aN cI 4 kb), (a4, aI cI 4 zs), (a5, aI cI 4 pu), (a6, aN cI 4096 ce), (a7, aN cI 1024 pa), (a8, aN cI 1024 tr), (a9, aI cI 256 so), (a10, aN cI 6 (va_up (fpr A x pl i) i (plx A x i))), (a11, aN cI 6 ot)] := hD
      refine lv_iinc (v := (nI (i + 1))) (lv' := [(5, .int (nI (i + 1))), (0, .ref hm), (1, .int (nI fN)), (2, .long x), (4, .ref a10)]) hx hb d_M_findPlaces_35 hl (k := 0) rfl (nI_1 _) (by decide) rfl (fun ls hl => ?_)
      refine lv_goto (tgt := 3) hx hb d_M_findPlaces_38 (by decide) ?_
      exact ih_3 (i + 1) (by omega) H locs hP hD hS ls (lv_sub hl [0, 1, 2, 3, 4] rfl)
  exact loop_3 (B) (0) (by omega) H0 [] hP hD hS ls (lv_sub hl [0, 1, 2, 3, 4] rfl)

set_option maxHeartbeats 4000000 in
set_option maxRecDepth 100000 in
theorem c_M_howOften_11 {l : Launch} {s0 : State} {D : va_G} {cI cF cJ : ClassId} (G : Gx l s0 D cI cF cJ) (hm a1 a2 a3 a4 a5 a6 a7 a8 a9 a10 a11 : Nat) (th : Int32) (ki ka kb : Nat → Nat) (zs pu : Nat → Int32) (ce pa tr : Nat → Nat) (so : Nat → Int32) (pl ot : Nat → Nat) (B x : Nat) {H0 : Heap} (hP : va_P D vcl [(hm, .inr (4, [.int th, .ref a1, .ref a2, .ref a3, .ref a4, .ref a5, .ref a6, .ref a7, .ref a8, .ref a9, .ref a10, .ref a11])), (a1, aN cI 4 ki), (a2, aN cI 4 ka), (a3, aN cI 4 kb), (a4, aI cI 4 zs), (a5, aI cI 4 pu), (a6, aN cI 4096 ce), (a7, aN cI 1024 pa), (a8, aN cI 1024 tr), (a9, aI cI 256 so), (a10, aN cI 6 pl), (a11, aN cI 6 ot)] H0) (hB : B ≤ 6) (hrow : ∀ i, i < B → ot i < 1024) (hx1 : x < 1024) : Mx l s0 y_M_howOften (.code y_M_howOften b_M_howOften 5 (some .int)) { frames := 0, cells := 0, slots := 0, locals := 0 } [.ref a11, .int (nI B), .int (nI x)] H0 (fun _ => False) (Rd H0 (.int (nI (cnt ot x B)))) := by
  refine Mx.ofW (own := "FewBitsModel") rfl rfl ?_
  rintro p e s m below meth c ⟨hx, hb, hml, hr, hown, hW, hlk⟩ hnm het hH
  have hK := G.k hW
  have hl := lv_entry ([.ref a11, .int (nI B), .int (nI x)]) (n := 5) (Nat.le_of_ble_eq_true rfl)
  rw [lg_entry_eq]
  generalize (lg_sl ([.ref a11, .int (nI B), .int (nI x)]) ++ List.replicate (5 - (lg_sl ([.ref a11, .int (nI B), .int (nI x)])).length) Slot.unset).toArray = ls at hl ⊢
  have hl : lv_has ls 5 [(0, .ref a11), (1, .int (nI B)), (2, .int (nI x))] := hl
  refine lv_iconst (v := (nI 0)) hx hb d_M_howOften_0 (by decide) ?_
  refine lv_istore_n (lv' := [(3, .int (nI 0)), (0, .ref a11), (1, .int (nI B)), (2, .int (nI x))]) hx hb d_M_howOften_1 rfl hl (by decide) rfl (fun ls hl => ?_)
  refine lv_iconst (v := (nI 0)) hx hb d_M_howOften_2 (by decide) ?_
  refine lv_istore (lv' := [(4, .int (nI 0)), (3, .int (nI 0)), (0, .ref a11), (1, .int (nI B)), (2, .int (nI x))]) hx hb d_M_howOften_3 hl (by decide) rfl (fun ls hl => ?_)
  have loop_5 : ∀ (k : Nat) (i : Nat) (t : Nat), (i + k = B) → (t = cnt ot x i) → ∀ (ls : Array Slot), lv_has ls 5 [(4, .int (nI i)), (3, .int (nI t)), (0, .ref a11), (1, .int (nI B)), (2, .int (nI x))] → W p l e { frames := 0, cells := 0, slots := 0, locals := 0 } s m ([.ref a11, .int (nI B), .int (nI x)] : List Value).toArray below meth c H0 [] 0 0 (MQx below (Rd H0 (.int (nI (cnt ot x B)))) s 0 0 (fun _ => False)) (F0 m 5 ls []) := by
    intro k
    induction k with
    | zero =>
      intro i t hk ht  ls hl
      refine lv_iload hx hb d_M_howOften_5 (lv_at hl 0 rfl) ?_
      refine lv_iload_n hx hb d_M_howOften_7 rfl (lv_at hl 3 rfl) ?_
      refine lv_icmp_ge (tgt := 33) hx hb d_M_howOften_8 (by decide) (fun c_8 => ?_) (fun c_8 => absurd (nI_le (by omega) (by omega)) c_8)
      refine lv_iload_n hx hb d_M_howOften_33 rfl (lv_at hl 1 rfl) ?_
      exact mx_iret hx hb hr hlk d_M_howOften_34 (Nat.le_of_ble_eq_true rfl) (Nat.le_of_ble_eq_true rfl) (fun _ h => nomatch h) (⟨by rw [ht, show i = B by omega], rfl⟩)
    | succ k ih_5 =>
      intro i t hk ht  ls hl
      refine lv_iload hx hb d_M_howOften_5 (lv_at hl 0 rfl) ?_
      refine lv_iload_n hx hb d_M_howOften_7 rfl (lv_at hl 3 rfl) ?_
      refine lv_icmp_ge (tgt := 33) hx hb d_M_howOften_8 (by decide) (fun c_8 => absurd c_8 (nI_ge (by omega) (by omega))) (fun c_8 => ?_)
      refine lv_aload_n hx hb d_M_howOften_11 rfl (lv_at hl 2 rfl) ?_
      refine lv_iload hx hb d_M_howOften_12 (lv_at hl 0 rfl) ?_
      refine ia_ld hx hb hK hP 11 (j := i) rfl (by omega) (by decide) d_M_howOften_14 ?_
      refine tp_i (y := (nI (ot i))) rfl ?_
      refine lv_iload_n hx hb d_M_howOften_15 rfl (lv_at hl 4 rfl) ?_
      refine lv_icmp_ne (tgt := 25) hx hb d_M_howOften_16 (by decide) (fun c_16 => ?_) (fun c_16 => ?_)
      · refine lv_iload_n hx hb d_M_howOften_25 rfl (lv_at hl 1 rfl) ?_
        refine lv_istore_n (lv' := [(3, .int (nI t)), (4, .int (nI i)), (0, .ref a11), (1, .int (nI B)), (2, .int (nI x))]) hx hb d_M_howOften_26 rfl hl (by decide) rfl (fun ls hl => ?_)
        refine lv_iinc (v := (nI (i + 1))) (lv' := [(4, .int (nI (i + 1))), (3, .int (nI t)), (0, .ref a11), (1, .int (nI B)), (2, .int (nI x))]) hx hb d_M_howOften_27 hl (k := 1) rfl (nI_1 _) (by decide) rfl (fun ls hl => ?_)
        refine lv_goto (tgt := 5) hx hb d_M_howOften_30 (by decide) ?_
        exact ih_5 (i + 1) (t) (by omega) (by rw [ht, cnt_f (fun h9 => c_16 (by rw [h9]))]) ls (lv_sub hl [0, 1, 2, 3, 4] rfl)
      · refine lv_iload_n hx hb d_M_howOften_19 rfl (lv_at hl 1 rfl) ?_
        refine lv_iconst (v := (nI 1)) hx hb d_M_howOften_20 (by decide) ?_
        refine lv_iadd hx hb d_M_howOften_21 ?_
        refine tp_i (y := (nI (t + 1))) (nI_add _ _) ?_
        refine lv_goto (tgt := 26) hx hb d_M_howOften_22 (by decide) ?_
        refine lv_istore_n (lv' := [(3, .int (nI (t + 1))), (4, .int (nI i)), (0, .ref a11), (1, .int (nI B)), (2, .int (nI x))]) hx hb d_M_howOften_26 rfl hl (by decide) rfl (fun ls hl => ?_)
        refine lv_iinc (v := (nI (i + 1))) (lv' := [(4, .int (nI (i + 1))), (3, .int (nI (t + 1))), (0, .ref a11), (1, .int (nI B)), (2, .int (nI x))]) hx hb d_M_howOften_27 hl (k := 1) rfl (nI_1 _) (by decide) rfl (fun ls hl => ?_)
        refine lv_goto (tgt := 5) hx hb d_M_howOften_30 (by decide) ?_
        exact ih_5 (i + 1) (t + 1) (by omega) (by rw [ht, cnt_t ((nI_eq (by have := hrow i (by omega); omega) (by omega)).mp c_16)]) ls (lv_sub hl [0, 1, 2, 3, 4] rfl)
  exact loop_5 (B) (0) (0) (by omega) (rfl) ls (lv_sub hl [0, 1, 2, 3, 4] rfl)

set_option maxHeartbeats 4000000 in
set_option maxRecDepth 100000 in
theorem c_M_findPlaces_11 {l : Launch} {s0 : State} {D : va_G} {cI cF cJ : ClassId} (G : Gx l s0 D cI cF cJ) (hm a1 a2 a3 a4 a5 a6 a7 a8 a9 a10 a11 : Nat) (th : Int32) (ki ka kb : Nat → Nat) (zs pu : Nat → Int32) (ce pa tr : Nat → Nat) (so : Nat → Int32) (pl ot : Nat → Nat) (fN : Nat) (A B : Nat) (x : Int64) {H0 : Heap} {A0 : Nat → Prop} (hP : va_P D vcl [(hm, .inr (4, [.int th, .ref a1, .ref a2, .ref a3, .ref a4, .ref a5, .ref a6, .ref a7, .ref a8, .ref a9, .ref a10, .ref a11])), (a1, aN cI 4 ki), (a2, aN cI 4 ka), (a3, aN cI 4 kb), (a4, aI cI 4 zs), (a5, aI cI 4 pu), (a6, aN cI 4096 ce), (a7, aN cI 1024 pa), (a8, aN cI 1024 tr), (a9, aI cI 256 so), (a10, aN cI 6 pl), (a11, aN cI 6 ot)] H0) (hD : va_D A0 [(hm, .inr (4, [.int th, .ref a1, .ref a2, .ref a3, .ref a4, .ref a5, .ref a6, .ref a7, .ref a8, .ref a9, .ref a10, .ref a11])), (a1, aN cI 4 ki), (a2, aN cI 4 ka), (a3, aN cI 4 kb), (a4, aI cI 4 zs), (a5, aI cI 4 pu), (a6, aN cI 4096 ce), (a7, aN cI 1024 pa), (a8, aN cI 1024 tr), (a9, aI cI 256 so), (a10, aN cI 6 pl), (a11, aN cI 6 ot)]) (hF : fN < 4) (hka : ka fN = A) (hkb : kb fN = B) (hA : A ≤ 10) (hB : B ≤ 6) : Mx l s0 y_M_findPlaces (.code y_M_findPlaces b_M_findPlaces 6 none) { frames := 1, cells := 0, slots := 0, locals := 25 } [.ref hm, .int (nI fN), .long x, .ref a11] H0 (Aa [hm, a1, a2, a3, a4, a5, a6, a7, a8, a9, a10, a11] H0.size) (Rn (fun H1 => va_P D vcl [(hm, .inr (4, [.int th, .ref a1, .ref a2, .ref a3, .ref a4, .ref a5, .ref a6, .ref a7, .ref a8, .ref a9, .ref a10, .ref a11])), (a1, aN cI 4 ki), (a2, aN cI 4 ka), (a3, aN cI 4 kb), (a4, aI cI 4 zs), (a5, aI cI 4 pu), (a6, aN cI 4096 ce), (a7, aN cI 1024 pa), (a8, aN cI 1024 tr), (a9, aI cI 256 so), (a10, aN cI 6 pl), (a11, aN cI 6 (fpr A x ot B))] H1)) := by
  refine Mx.ofW (own := "FewBitsModel") rfl rfl ?_
  rintro p e s m below meth c ⟨hx, hb, hml, hr, hown, hW, hlk⟩ hnm het hH
  have hK := G.k hW
  have hD := hD.aa (sz := H0.size)
  have hD : va_D (Aa [hm, a1, a2, a3, a4, a5, a6, a7, a8, a9, a10, a11] H0.size) [(hm, .inr (4, [.int th, .ref a1, .ref a2, .ref a3, .ref a4, .ref a5, .ref a6, .ref a7, .ref a8, .ref a9, .ref a10, .ref a11])), (a1, aN cI 4 ki), (a2, aN cI 4 ka), (a3, aN cI 4 kb), (a4, aI cI 4 zs), (a5, aI cI 4 pu), (a6, aN cI 4096 ce), (a7, aN cI 1024 pa), (a8, aN cI 1024 tr), (a9, aI cI 256 so), (a10, aN cI 6 pl), (a11, aN cI 6 ot)] := hD
  have hS : va_S (Aa [hm, a1, a2, a3, a4, a5, a6, a7, a8, a9, a10, a11] H0.size) H0 H0 [] := va_S.rf
  have hl := lv_entry ([.ref hm, .int (nI fN), .long x, .ref a11]) (n := 6) (Nat.le_of_ble_eq_true rfl)
  rw [lg_entry_eq]
  generalize (lg_sl ([.ref hm, .int (nI fN), .long x, .ref a11]) ++ List.replicate (6 - (lg_sl ([.ref hm, .int (nI fN), .long x, .ref a11])).length) Slot.unset).toArray = ls at hl ⊢
  have hl : lv_has ls 6 [(0, .ref hm), (1, .int (nI fN)), (2, .long x), (4, .ref a11)] := hl
  refine lv_iconst (v := (nI 0)) hx hb d_M_findPlaces_0 (by decide) ?_
  refine lv_istore (lv' := [(5, .int (nI 0)), (0, .ref hm), (1, .int (nI fN)), (2, .long x), (4, .ref a11)]) hx hb d_M_findPlaces_1 hl (by decide) rfl (fun ls hl => ?_)
  have loop_3 : ∀ (k : Nat) (i : Nat), (i + k = B) → ∀ (H : Heap) (locs : List Loc), va_P D vcl [(hm, .inr (4, [.int th, .ref a1, .ref a2, .ref a3, .ref a4, .ref a5, .ref a6, .ref a7, .ref a8, .ref a9, .ref a10, .ref a11])), (a1, aN cI 4 ki), (a2, aN cI 4 ka), (a3, aN cI 4 kb), (a4, aI cI 4 zs), (a5, aI cI 4 pu), (a6, aN cI 4096 ce), (a7, aN cI 1024 pa), (a8, aN cI 1024 tr), (a9, aI cI 256 so), (a10, aN cI 6 pl), (a11, aN cI 6 (fpr A x ot i))] H → va_D (Aa [hm, a1, a2, a3, a4, a5, a6, a7, a8, a9, a10, a11] H0.size) [(hm, .inr (4, [.int th, .ref a1, .ref a2, .ref a3, .ref a4, .ref a5, .ref a6, .ref a7, .ref a8, .ref a9, .ref a10, .ref a11])), (a1, aN cI 4 ki), (a2, aN cI 4 ka), (a3, aN cI 4 kb), (a4, aI cI 4 zs), (a5, aI cI 4 pu), (a6, aN cI 4096 ce), (a7, aN cI 1024 pa), (a8, aN cI 1024 tr), (a9, aI cI 256 so), (a10, aN cI 6 pl), (a11, aN cI 6 (fpr A x ot i))] → va_S (Aa [hm, a1, a2, a3, a4, a5, a6, a7, a8, a9, a10, a11] H0.size) H0 H locs → ∀ (ls : Array Slot), lv_has ls 6 [(5, .int (nI i)), (0, .ref hm), (1, .int (nI fN)), (2, .long x), (4, .ref a11)] → W p l e { frames := 1, cells := 0, slots := 0, locals := 25 } s m ([.ref hm, .int (nI fN), .long x, .ref a11] : List Value).toArray below meth c H locs 0 0 (MQx below (Rn (fun H1 => va_P D vcl [(hm, .inr (4, [.int th, .ref a1, .ref a2, .ref a3, .ref a4, .ref a5, .ref a6, .ref a7, .ref a8, .ref a9, .ref a10, .ref a11])), (a1, aN cI 4 ki), (a2, aN cI 4 ka), (a3, aN cI 4 kb), (a4, aI cI 4 zs), (a5, aI cI 4 pu), (a6, aN cI 4096 ce), (a7, aN cI 1024 pa), (a8, aN cI 1024 tr), (a9, aI cI 256 so), (a10, aN cI 6 pl), (a11, aN cI 6 (fpr A x ot B))] H1)) s 0 0 (Aa [hm, a1, a2, a3, a4, a5, a6, a7, a8, a9, a10, a11] H0.size)) (F0 m 3 ls []) := by
    intro k
    induction k with
    | zero =>
      intro i hk H locs hP hD hS ls hl
      refine lv_iload hx hb d_M_findPlaces_3 (lv_at hl 0 rfl) ?_
      refine lv_aload_n hx hb d_M_findPlaces_5 rfl (lv_at hl 1 rfl) ?_
      refine va_get (D := D) (ci := 4) (v := .ref a3) (C := R_M) (T := T_M) (N := 12) hx hb (us_M G hW) (fun _ h => h) hown hK hP 0 rfl rfl 3 (by decide) (fl_M_16 G hW) (fun _ h9 => h9) rfl d_M_findPlaces_6 ?_
      refine lv_iload_n hx hb d_M_findPlaces_9 rfl (lv_at hl 2 rfl) ?_
      refine ia_ld hx hb hK hP 3 (j := fN) rfl (hF) (by decide) d_M_findPlaces_10 ?_
      refine tp_i (y := (nI (kb fN))) rfl ?_
      refine tp_i (y := (nI B)) (by rw [hkb]) ?_
      refine lv_icmp_ge (tgt := 41) hx hb d_M_findPlaces_11 (by decide) (fun c_11 => ?_) (fun c_11 => absurd (nI_le (by omega) (by omega)) c_11)
      exact mx_vret hx hb hr hlk d_M_findPlaces_41 (Nat.le_of_ble_eq_true rfl) (Nat.le_of_ble_eq_true rfl) hS.2.2 (⟨rfl, by rw [show i = B by omega] at hP; exact hP⟩)
    | succ k ih_3 =>
      intro i hk H locs hP hD hS ls hl
      refine lv_iload hx hb d_M_findPlaces_3 (lv_at hl 0 rfl) ?_
      refine lv_aload_n hx hb d_M_findPlaces_5 rfl (lv_at hl 1 rfl) ?_
      refine va_get (D := D) (ci := 4) (v := .ref a3) (C := R_M) (T := T_M) (N := 12) hx hb (us_M G hW) (fun _ h => h) hown hK hP 0 rfl rfl 3 (by decide) (fl_M_16 G hW) (fun _ h9 => h9) rfl d_M_findPlaces_6 ?_
      refine lv_iload_n hx hb d_M_findPlaces_9 rfl (lv_at hl 2 rfl) ?_
      refine ia_ld hx hb hK hP 3 (j := fN) rfl (hF) (by decide) d_M_findPlaces_10 ?_
      refine tp_i (y := (nI (kb fN))) rfl ?_
      refine tp_i (y := (nI B)) (by rw [hkb]) ?_
      refine lv_icmp_ge (tgt := 41) hx hb d_M_findPlaces_11 (by decide) (fun c_11 => absurd c_11 (nI_ge (by omega) (by omega))) (fun c_11 => ?_)
      refine lv_aload hx hb d_M_findPlaces_14 (lv_at hl 4 rfl) ?_
      refine lv_iload hx hb d_M_findPlaces_16 (lv_at hl 0 rfl) ?_
      refine lv_lload_n hx hb d_M_findPlaces_18 rfl (lv_at hl 3 rfl) ?_
      refine lv_iload hx hb d_M_findPlaces_19 (lv_at hl 0 rfl) ?_
      refine lv_i2l hx hb d_M_findPlaces_21 rfl ?_
      refine mx_callR (r := .long (mx x (nI i).toInt64)) (c_M_mixed G x (nI i).toInt64) hW (iv_M_findPlaces_22 G hx hb hown hW [.long x, .long (Int32.toInt64 (nI i))] [.int (nI i), .ref a11] rfl) hml hl.1 (by rw [hb]; exact d_M_findPlaces_22) (cd_M_mixed G hW) ⟨Nat.le_of_ble_eq_true rfl, Nat.le_of_ble_eq_true rfl⟩ rfl rfl (Nat.le_of_ble_eq_true rfl) (Nat.le_of_ble_eq_true rfl) (Nat.le_of_ble_eq_true rfl) ?_
      refine lv_aload_n hx hb d_M_findPlaces_25 rfl (lv_at hl 1 rfl) ?_
      refine va_get (D := D) (ci := 4) (v := .ref a2) (C := R_M) (T := T_M) (N := 12) hx hb (us_M G hW) (fun _ h => h) hown hK hP 0 rfl rfl 2 (by decide) (fl_M_13 G hW) (fun _ h9 => h9) rfl d_M_findPlaces_26 ?_
      refine lv_iload_n hx hb d_M_findPlaces_29 rfl (lv_at hl 2 rfl) ?_
      refine ia_ld hx hb hK hP 2 (j := fN) rfl (hF) (by decide) d_M_findPlaces_30 ?_
      refine tp_i (y := (nI (ka fN))) rfl ?_
      refine tp_i (y := (nI A)) (by rw [hka]) ?_
      refine mx_callR (r := .int (nI (plx A x i))) (c_M_lowest G (mx x (nI i).toInt64) A (by omega)) hW (iv_M_findPlaces_31 G hx hb hown hW [.long (mx x (nI i).toInt64), .int (nI A)] [.int (nI i), .ref a11] rfl) hml hl.1 (by rw [hb]; exact d_M_findPlaces_31) (cd_M_lowest G hW) ⟨Nat.le_of_ble_eq_true rfl, Nat.le_of_ble_eq_true rfl⟩ rfl rfl (Nat.le_of_ble_eq_true rfl) (Nat.le_of_ble_eq_true rfl) (Nat.le_of_ble_eq_true rfl) ?_
      refine ia_stN hx hb hK hP hD hS 11 (j := i) (x := (plx A x i)) (f := (fpr A x ot i)) rfl (by omega) (by decide) d_M_findPlaces_34 (fun H locs hP hD hS => ?_)
      have hP : va_P D vcl [(hm, .inr (4, [.int th, .ref a1, .ref a2, .ref a3, .ref a4, .ref a5, .ref a6, .ref a7, .ref a8, .ref a9, .ref a10, .ref a11])), (a1, aN cI 4 ki), (a2, aN cI 4 ka), (a3, aN cI 4 kb), (a4, aI cI 4 zs), (a5, aI cI 4 pu), (a6, aN cI 4096 ce), (a7, aN cI 1024 pa), (a8, aN cI 1024 tr), (a9, aI cI 256 so), (a10, aN cI 6 pl), (a11, aN cI 6 (va_up (fpr A x ot i) i (plx A x i)))] H := hP
      have hD : va_D (Aa [hm, a1, a2, a3, a4, a5, a6, a7, a8, a9, a10, a11] H0.size) [(hm, .inr (4, [.int th, .ref a1, .ref a2, .ref a3, .ref a4, .ref a5, .ref a6, .ref a7, .ref a8, .ref a9, .ref a10, .ref a11])), (a1, aN cI 4 ki), (a2, aN cI 4 ka), (a3, aN cI 4 kb), (a4, aI cI 4 zs), (a5, aI cI 4 pu), (a6, aN cI 4096 ce), (a7, aN cI 1024 pa), (a8, aN cI 1024 tr), (a9, aI cI 256 so), (a10, aN cI 6 pl), (a11, aN cI 6 (va_up (fpr A x ot i) i (plx A x i)))] := hD
      refine lv_iinc (v := (nI (i + 1))) (lv' := [(5, .int (nI (i + 1))), (0, .ref hm), (1, .int (nI fN)), (2, .long x), (4, .ref a11)]) hx hb d_M_findPlaces_35 hl (k := 0) rfl (nI_1 _) (by decide) rfl (fun ls hl => ?_)
      refine lv_goto (tgt := 3) hx hb d_M_findPlaces_38 (by decide) ?_
      exact ih_3 (i + 1) (by omega) H locs hP hD hS ls (lv_sub hl [0, 1, 2, 3, 4] rfl)
  exact loop_3 (B) (0) (by omega) H0 [] hP hD hS ls (lv_sub hl [0, 1, 2, 3, 4] rfl)

set_option maxHeartbeats 4000000 in
set_option maxRecDepth 100000 in
theorem c_M_slotWith_6 {l : Launch} {s0 : State} {D : va_G} {cI cF cJ : ClassId} (G : Gx l s0 D cI cF cJ) (hm a1 a2 a3 a4 a5 a6 a7 a8 a9 a10 a11 : Nat) (th : Int32) (ki ka kb : Nat → Nat) (zs pu : Nat → Int32) (ce pa tr : Nat → Nat) (so : Nat → Int32) (pl ot : Nat → Nat) (fN : Nat) (bk v : Nat) {H0 : Heap} (hP : va_P D vcl [(hm, .inr (4, [.int th, .ref a1, .ref a2, .ref a3, .ref a4, .ref a5, .ref a6, .ref a7, .ref a8, .ref a9, .ref a10, .ref a11])), (a1, aN cI 4 ki), (a2, aN cI 4 ka), (a3, aN cI 4 kb), (a4, aI cI 4 zs), (a5, aI cI 4 pu), (a6, aN cI 4096 ce), (a7, aN cI 1024 pa), (a8, aN cI 1024 tr), (a9, aI cI 256 so), (a10, aN cI 6 pl), (a11, aN cI 6 ot)] H0) (hF : fN < 4) (hbk : bk < 256) (hv : v < 65536) (hs : ∀ j, j < 4 → ce ((1024 * fN) + 4 * bk + j) < 65536) : Mx l s0 y_M_slotWith (.code y_M_slotWith b_M_slotWith 6 (some .int)) { frames := 0, cells := 0, slots := 0, locals := 0 } [.ref hm, .ref a6, .int (nI (1024 * fN)), .int (nI bk), .int (nI v)] H0 (fun _ => False) (Rd H0 (.int (oI (fnd ce v ((1024 * fN) + 4 * bk) 4)))) := by
  refine Mx.ofW (own := "FewBitsModel") rfl rfl ?_
  rintro p e s m below meth c ⟨hx, hb, hml, hr, hown, hW, hlk⟩ hnm het hH
  have hK := G.k hW
  have hl := lv_entry ([.ref hm, .ref a6, .int (nI (1024 * fN)), .int (nI bk), .int (nI v)]) (n := 6) (Nat.le_of_ble_eq_true rfl)
  rw [lg_entry_eq]
  generalize (lg_sl ([.ref hm, .ref a6, .int (nI (1024 * fN)), .int (nI bk), .int (nI v)]) ++ List.replicate (6 - (lg_sl ([.ref hm, .ref a6, .int (nI (1024 * fN)), .int (nI bk), .int (nI v)])).length) Slot.unset).toArray = ls at hl ⊢
  have hl : lv_has ls 6 [(0, .ref hm), (1, .ref a6), (2, .int (nI (1024 * fN))), (3, .int (nI bk)), (4, .int (nI v))] := hl
  refine lv_iconst (v := (nI 0)) hx hb d_M_slotWith_0 (by decide) ?_
  refine lv_istore (lv' := [(5, .int (nI 0)), (0, .ref hm), (1, .ref a6), (2, .int (nI (1024 * fN))), (3, .int (nI bk)), (4, .int (nI v))]) hx hb d_M_slotWith_1 hl (by decide) rfl (fun ls hl => ?_)
  have loop_3 : ∀ (k : Nat) (i : Nat), (i + k = 4) → (fnd ce v ((1024 * fN) + 4 * bk) 4 = fnd ce v (((1024 * fN) + 4 * bk) + i) k) → ∀ (ls : Array Slot), lv_has ls 6 [(5, .int (nI i)), (0, .ref hm), (1, .ref a6), (2, .int (nI (1024 * fN))), (3, .int (nI bk)), (4, .int (nI v))] → W p l e { frames := 0, cells := 0, slots := 0, locals := 0 } s m ([.ref hm, .ref a6, .int (nI (1024 * fN)), .int (nI bk), .int (nI v)] : List Value).toArray below meth c H0 [] 0 0 (MQx below (Rd H0 (.int (oI (fnd ce v ((1024 * fN) + 4 * bk) 4)))) s 0 0 (fun _ => False)) (F0 m 3 ls []) := by
    intro k
    induction k with
    | zero =>
      intro i hk hf  ls hl
      refine lv_iload hx hb d_M_slotWith_3 (lv_at hl 0 rfl) ?_
      refine lv_iconst (v := (nI 4)) hx hb d_M_slotWith_5 (by decide) ?_
      refine lv_icmp_ge (tgt := 39) hx hb d_M_slotWith_6 (by decide) (fun c_6 => ?_) (fun c_6 => absurd (nI_le (by omega) (by omega)) c_6)
      refine lv_iconst (v := (-1)) hx hb d_M_slotWith_39 (by decide) ?_
      exact mx_iret hx hb hr hlk d_M_slotWith_40 (Nat.le_of_ble_eq_true rfl) (Nat.le_of_ble_eq_true rfl) (fun _ h => nomatch h) (⟨by rw [hf]; rfl, rfl⟩)
    | succ k ih_3 =>
      intro i hk hf  ls hl
      refine lv_iload hx hb d_M_slotWith_3 (lv_at hl 0 rfl) ?_
      refine lv_iconst (v := (nI 4)) hx hb d_M_slotWith_5 (by decide) ?_
      refine lv_icmp_ge (tgt := 39) hx hb d_M_slotWith_6 (by decide) (fun c_6 => absurd c_6 (nI_ge (by omega) (by omega))) (fun c_6 => ?_)
      refine lv_aload_n hx hb d_M_slotWith_9 rfl (lv_at hl 2 rfl) ?_
      refine lv_iload_n hx hb d_M_slotWith_10 rfl (lv_at hl 3 rfl) ?_
      refine lv_iconst (v := (nI 4)) hx hb d_M_slotWith_11 (by decide) ?_
      refine lv_iload_n hx hb d_M_slotWith_12 rfl (lv_at hl 4 rfl) ?_
      refine lv_imul hx hb d_M_slotWith_13 ?_
      refine tp_i (y := (nI (4 * bk))) (pk_mul _ _) ?_
      refine lv_iadd hx hb d_M_slotWith_14 ?_
      refine tp_i (y := (nI ((1024 * fN) + 4 * bk))) (nI_add _ _) ?_
      refine lv_iload hx hb d_M_slotWith_15 (lv_at hl 0 rfl) ?_
      refine lv_iadd hx hb d_M_slotWith_17 ?_
      refine tp_i (y := (nI (((1024 * fN) + 4 * bk) + i))) (nI_add _ _) ?_
      refine ia_ld hx hb hK hP 6 (j := (((1024 * fN) + 4 * bk) + i)) rfl (by omega) (by decide) d_M_slotWith_18 ?_
      refine tp_i (y := (nI (ce (((1024 * fN) + 4 * bk) + i)))) rfl ?_
      refine lv_iload hx hb d_M_slotWith_19 (lv_at hl 5 rfl) ?_
      refine lv_icmp_ne (tgt := 33) hx hb d_M_slotWith_21 (by decide) (fun c_21 => ?_) (fun c_21 => ?_)
      · refine lv_iinc (v := (nI (i + 1))) (lv' := [(5, .int (nI (i + 1))), (0, .ref hm), (1, .ref a6), (2, .int (nI (1024 * fN))), (3, .int (nI bk)), (4, .int (nI v))]) hx hb d_M_slotWith_33 hl (k := 0) rfl (nI_1 _) (by decide) rfl (fun ls hl => ?_)
        refine lv_goto (tgt := 3) hx hb d_M_slotWith_36 (by decide) ?_
        exact ih_3 (i + 1) (by omega) (by rw [hf, fnd_f (fun h9 => c_21 (by rw [h9]))]; rfl) ls (lv_sub hl [0, 1, 2, 3, 4, 5] rfl)
      · refine lv_iload_n hx hb d_M_slotWith_24 rfl (lv_at hl 3 rfl) ?_
        refine lv_iconst (v := (nI 4)) hx hb d_M_slotWith_25 (by decide) ?_
        refine lv_iload_n hx hb d_M_slotWith_26 rfl (lv_at hl 4 rfl) ?_
        refine lv_imul hx hb d_M_slotWith_27 ?_
        refine tp_i (y := (nI (4 * bk))) (pk_mul _ _) ?_
        refine lv_iadd hx hb d_M_slotWith_28 ?_
        refine tp_i (y := (nI ((1024 * fN) + 4 * bk))) (nI_add _ _) ?_
        refine lv_iload hx hb d_M_slotWith_29 (lv_at hl 0 rfl) ?_
        refine lv_iadd hx hb d_M_slotWith_31 ?_
        refine tp_i (y := (nI (((1024 * fN) + 4 * bk) + i))) (nI_add _ _) ?_
        exact mx_iret hx hb hr hlk d_M_slotWith_32 (Nat.le_of_ble_eq_true rfl) (Nat.le_of_ble_eq_true rfl) (fun _ h => nomatch h) (⟨by rw [hf, fnd_t ((nI_eq (by have := hs i (by omega); omega) (by omega)).mp c_21)]; rfl, rfl⟩)
  exact loop_3 (4) (0) (by omega) (rfl) ls (lv_sub hl [0, 1, 2, 3, 4, 5] rfl)

set_option maxHeartbeats 4000000 in
set_option maxRecDepth 100000 in
theorem c_M_slotWith_8 {l : Launch} {s0 : State} {D : va_G} {cI cF cJ : ClassId} (G : Gx l s0 D cI cF cJ) (hm a1 a2 a3 a4 a5 a6 a7 a8 a9 a10 a11 : Nat) (th : Int32) (ki ka kb : Nat → Nat) (zs pu : Nat → Int32) (ce pa tr : Nat → Nat) (so : Nat → Int32) (pl ot : Nat → Nat)  (bk v : Nat) {H0 : Heap} (hP : va_P D vcl [(hm, .inr (4, [.int th, .ref a1, .ref a2, .ref a3, .ref a4, .ref a5, .ref a6, .ref a7, .ref a8, .ref a9, .ref a10, .ref a11])), (a1, aN cI 4 ki), (a2, aN cI 4 ka), (a3, aN cI 4 kb), (a4, aI cI 4 zs), (a5, aI cI 4 pu), (a6, aN cI 4096 ce), (a7, aN cI 1024 pa), (a8, aN cI 1024 tr), (a9, aI cI 256 so), (a10, aN cI 6 pl), (a11, aN cI 6 ot)] H0) (hbk : bk < 256) (hv : v < 65536) (hs : ∀ j, j < 4 → tr (0 + 4 * bk + j) < 65536) : Mx l s0 y_M_slotWith (.code y_M_slotWith b_M_slotWith 6 (some .int)) { frames := 0, cells := 0, slots := 0, locals := 0 } [.ref hm, .ref a8, .int (nI 0), .int (nI bk), .int (nI v)] H0 (fun _ => False) (Rd H0 (.int (oI (fnd tr v (0 + 4 * bk) 4)))) := by
  refine Mx.ofW (own := "FewBitsModel") rfl rfl ?_
  rintro p e s m below meth c ⟨hx, hb, hml, hr, hown, hW, hlk⟩ hnm het hH
  have hK := G.k hW
  have hl := lv_entry ([.ref hm, .ref a8, .int (nI 0), .int (nI bk), .int (nI v)]) (n := 6) (Nat.le_of_ble_eq_true rfl)
  rw [lg_entry_eq]
  generalize (lg_sl ([.ref hm, .ref a8, .int (nI 0), .int (nI bk), .int (nI v)]) ++ List.replicate (6 - (lg_sl ([.ref hm, .ref a8, .int (nI 0), .int (nI bk), .int (nI v)])).length) Slot.unset).toArray = ls at hl ⊢
  have hl : lv_has ls 6 [(0, .ref hm), (1, .ref a8), (2, .int (nI 0)), (3, .int (nI bk)), (4, .int (nI v))] := hl
  refine lv_iconst (v := (nI 0)) hx hb d_M_slotWith_0 (by decide) ?_
  refine lv_istore (lv' := [(5, .int (nI 0)), (0, .ref hm), (1, .ref a8), (2, .int (nI 0)), (3, .int (nI bk)), (4, .int (nI v))]) hx hb d_M_slotWith_1 hl (by decide) rfl (fun ls hl => ?_)
  have loop_3 : ∀ (k : Nat) (i : Nat), (i + k = 4) → (fnd tr v (0 + 4 * bk) 4 = fnd tr v ((0 + 4 * bk) + i) k) → ∀ (ls : Array Slot), lv_has ls 6 [(5, .int (nI i)), (0, .ref hm), (1, .ref a8), (2, .int (nI 0)), (3, .int (nI bk)), (4, .int (nI v))] → W p l e { frames := 0, cells := 0, slots := 0, locals := 0 } s m ([.ref hm, .ref a8, .int (nI 0), .int (nI bk), .int (nI v)] : List Value).toArray below meth c H0 [] 0 0 (MQx below (Rd H0 (.int (oI (fnd tr v (0 + 4 * bk) 4)))) s 0 0 (fun _ => False)) (F0 m 3 ls []) := by
    intro k
    induction k with
    | zero =>
      intro i hk hf  ls hl
      refine lv_iload hx hb d_M_slotWith_3 (lv_at hl 0 rfl) ?_
      refine lv_iconst (v := (nI 4)) hx hb d_M_slotWith_5 (by decide) ?_
      refine lv_icmp_ge (tgt := 39) hx hb d_M_slotWith_6 (by decide) (fun c_6 => ?_) (fun c_6 => absurd (nI_le (by omega) (by omega)) c_6)
      refine lv_iconst (v := (-1)) hx hb d_M_slotWith_39 (by decide) ?_
      exact mx_iret hx hb hr hlk d_M_slotWith_40 (Nat.le_of_ble_eq_true rfl) (Nat.le_of_ble_eq_true rfl) (fun _ h => nomatch h) (⟨by rw [hf]; rfl, rfl⟩)
    | succ k ih_3 =>
      intro i hk hf  ls hl
      refine lv_iload hx hb d_M_slotWith_3 (lv_at hl 0 rfl) ?_
      refine lv_iconst (v := (nI 4)) hx hb d_M_slotWith_5 (by decide) ?_
      refine lv_icmp_ge (tgt := 39) hx hb d_M_slotWith_6 (by decide) (fun c_6 => absurd c_6 (nI_ge (by omega) (by omega))) (fun c_6 => ?_)
      refine lv_aload_n hx hb d_M_slotWith_9 rfl (lv_at hl 2 rfl) ?_
      refine lv_iload_n hx hb d_M_slotWith_10 rfl (lv_at hl 3 rfl) ?_
      refine lv_iconst (v := (nI 4)) hx hb d_M_slotWith_11 (by decide) ?_
      refine lv_iload_n hx hb d_M_slotWith_12 rfl (lv_at hl 4 rfl) ?_
      refine lv_imul hx hb d_M_slotWith_13 ?_
      refine tp_i (y := (nI (4 * bk))) (pk_mul _ _) ?_
      refine lv_iadd hx hb d_M_slotWith_14 ?_
      refine tp_i (y := (nI (0 + 4 * bk))) (nI_add _ _) ?_
      refine lv_iload hx hb d_M_slotWith_15 (lv_at hl 0 rfl) ?_
      refine lv_iadd hx hb d_M_slotWith_17 ?_
      refine tp_i (y := (nI ((0 + 4 * bk) + i))) (nI_add _ _) ?_
      refine ia_ld hx hb hK hP 8 (j := ((0 + 4 * bk) + i)) rfl (by omega) (by decide) d_M_slotWith_18 ?_
      refine tp_i (y := (nI (tr ((0 + 4 * bk) + i)))) rfl ?_
      refine lv_iload hx hb d_M_slotWith_19 (lv_at hl 5 rfl) ?_
      refine lv_icmp_ne (tgt := 33) hx hb d_M_slotWith_21 (by decide) (fun c_21 => ?_) (fun c_21 => ?_)
      · refine lv_iinc (v := (nI (i + 1))) (lv' := [(5, .int (nI (i + 1))), (0, .ref hm), (1, .ref a8), (2, .int (nI 0)), (3, .int (nI bk)), (4, .int (nI v))]) hx hb d_M_slotWith_33 hl (k := 0) rfl (nI_1 _) (by decide) rfl (fun ls hl => ?_)
        refine lv_goto (tgt := 3) hx hb d_M_slotWith_36 (by decide) ?_
        exact ih_3 (i + 1) (by omega) (by rw [hf, fnd_f (fun h9 => c_21 (by rw [h9]))]; rfl) ls (lv_sub hl [0, 1, 2, 3, 4, 5] rfl)
      · refine lv_iload_n hx hb d_M_slotWith_24 rfl (lv_at hl 3 rfl) ?_
        refine lv_iconst (v := (nI 4)) hx hb d_M_slotWith_25 (by decide) ?_
        refine lv_iload_n hx hb d_M_slotWith_26 rfl (lv_at hl 4 rfl) ?_
        refine lv_imul hx hb d_M_slotWith_27 ?_
        refine tp_i (y := (nI (4 * bk))) (pk_mul _ _) ?_
        refine lv_iadd hx hb d_M_slotWith_28 ?_
        refine tp_i (y := (nI (0 + 4 * bk))) (nI_add _ _) ?_
        refine lv_iload hx hb d_M_slotWith_29 (lv_at hl 0 rfl) ?_
        refine lv_iadd hx hb d_M_slotWith_31 ?_
        refine tp_i (y := (nI ((0 + 4 * bk) + i))) (nI_add _ _) ?_
        exact mx_iret hx hb hr hlk d_M_slotWith_32 (Nat.le_of_ble_eq_true rfl) (Nat.le_of_ble_eq_true rfl) (fun _ h => nomatch h) (⟨by rw [hf, fnd_t ((nI_eq (by have := hs i (by omega); omega) (by omega)).mp c_21)]; rfl, rfl⟩)
  exact loop_3 (4) (0) (by omega) (rfl) ls (lv_sub hl [0, 1, 2, 3, 4, 5] rfl)

set_option maxHeartbeats 4000000 in
set_option maxRecDepth 100000 in
theorem c_M_findPair {l : Launch} {s0 : State} {D : va_G} {cI cF cJ : ClassId} (G : Gx l s0 D cI cF cJ) (hm a1 a2 a3 a4 a5 a6 a7 a8 a9 a10 a11 : Nat) (th : Int32) (ki ka kb : Nat → Nat) (zs pu : Nat → Int32) (ce pa tr : Nat → Nat) (so : Nat → Int32) (pl ot : Nat → Nat) (fN n v : Nat) {H0 : Heap} (hP : va_P D vcl [(hm, .inr (4, [.int th, .ref a1, .ref a2, .ref a3, .ref a4, .ref a5, .ref a6, .ref a7, .ref a8, .ref a9, .ref a10, .ref a11])), (a1, aN cI 4 ki), (a2, aN cI 4 ka), (a3, aN cI 4 kb), (a4, aI cI 4 zs), (a5, aI cI 4 pu), (a6, aN cI 4096 ce), (a7, aN cI 1024 pa), (a8, aN cI 1024 tr), (a9, aI cI 256 so), (a10, aN cI 6 pl), (a11, aN cI 6 ot)] H0) (hF : fN < 4) (hz : zs fN = nI n) (hn : n ≤ 256) (hv : v < 2 ^ 28) (hp : ∀ i, i < n → pa (256 * fN + i) < 2 ^ 28) : Mx l s0 y_M_findPair (.code y_M_findPair b_M_findPair 4 (some .int)) { frames := 0, cells := 0, slots := 0, locals := 0 } [.ref hm, .int (nI fN), .int (nI v)] H0 (fun _ => False) (Rd H0 (.int (oI (fnd (vw pa (256 * fN)) v 0 n)))) := by
  refine Mx.ofW (own := "FewBitsModel") rfl rfl ?_
  rintro p e s m below meth c ⟨hx, hb, hml, hr, hown, hW, hlk⟩ hnm het hH
  have hK := G.k hW
  have hl := lv_entry ([.ref hm, .int (nI fN), .int (nI v)]) (n := 4) (Nat.le_of_ble_eq_true rfl)
  rw [lg_entry_eq]
  generalize (lg_sl ([.ref hm, .int (nI fN), .int (nI v)]) ++ List.replicate (4 - (lg_sl ([.ref hm, .int (nI fN), .int (nI v)])).length) Slot.unset).toArray = ls at hl ⊢
  have hl : lv_has ls 4 [(0, .ref hm), (1, .int (nI fN)), (2, .int (nI v))] := hl
  refine lv_iconst (v := (nI 0)) hx hb d_M_findPair_0 (by decide) ?_
  refine lv_istore_n (lv' := [(3, .int (nI 0)), (0, .ref hm), (1, .int (nI fN)), (2, .int (nI v))]) hx hb d_M_findPair_1 rfl hl (by decide) rfl (fun ls hl => ?_)
  have loop_2 : ∀ (k : Nat) (i : Nat), (i + k = n) → (fnd (vw pa (256 * fN)) v 0 n = fnd (vw pa (256 * fN)) v i k) → ∀ (ls : Array Slot), lv_has ls 4 [(3, .int (nI i)), (0, .ref hm), (1, .int (nI fN)), (2, .int (nI v))] → W p l e { frames := 0, cells := 0, slots := 0, locals := 0 } s m ([.ref hm, .int (nI fN), .int (nI v)] : List Value).toArray below meth c H0 [] 0 0 (MQx below (Rd H0 (.int (oI (fnd (vw pa (256 * fN)) v 0 n)))) s 0 0 (fun _ => False)) (F0 m 2 ls []) := by
    intro k
    induction k with
    | zero =>
      intro i hk hf  ls hl
      refine lv_iload_n hx hb d_M_findPair_2 rfl (lv_at hl 0 rfl) ?_
      refine lv_aload_n hx hb d_M_findPair_3 rfl (lv_at hl 1 rfl) ?_
      refine va_get (D := D) (ci := 4) (v := .ref a4) (C := R_M) (T := T_M) (N := 12) hx hb (us_M G hW) (fun _ h => h) hown hK hP 0 rfl rfl 4 (by decide) (fl_M_19 G hW) (fun _ h9 => h9) rfl d_M_findPair_4 ?_
      refine lv_iload_n hx hb d_M_findPair_7 rfl (lv_at hl 2 rfl) ?_
      refine ia_ld hx hb hK hP 4 (j := fN) rfl (hF) (by decide) d_M_findPair_8 ?_
      refine tp_i (y := (nI n)) (hz) ?_
      refine lv_icmp_ge (tgt := 36) hx hb d_M_findPair_9 (by decide) (fun c_9 => ?_) (fun c_9 => absurd (nI_le (by omega) (by omega)) c_9)
      refine lv_iconst (v := (-1)) hx hb d_M_findPair_36 (by decide) ?_
      exact mx_iret hx hb hr hlk d_M_findPair_37 (Nat.le_of_ble_eq_true rfl) (Nat.le_of_ble_eq_true rfl) (fun _ h => nomatch h) (⟨by rw [hf]; rfl, rfl⟩)
    | succ k ih_2 =>
      intro i hk hf  ls hl
      refine lv_iload_n hx hb d_M_findPair_2 rfl (lv_at hl 0 rfl) ?_
      refine lv_aload_n hx hb d_M_findPair_3 rfl (lv_at hl 1 rfl) ?_
      refine va_get (D := D) (ci := 4) (v := .ref a4) (C := R_M) (T := T_M) (N := 12) hx hb (us_M G hW) (fun _ h => h) hown hK hP 0 rfl rfl 4 (by decide) (fl_M_19 G hW) (fun _ h9 => h9) rfl d_M_findPair_4 ?_
      refine lv_iload_n hx hb d_M_findPair_7 rfl (lv_at hl 2 rfl) ?_
      refine ia_ld hx hb hK hP 4 (j := fN) rfl (hF) (by decide) d_M_findPair_8 ?_
      refine tp_i (y := (nI n)) (hz) ?_
      refine lv_icmp_ge (tgt := 36) hx hb d_M_findPair_9 (by decide) (fun c_9 => absurd c_9 (nI_ge (by omega) (by omega))) (fun c_9 => ?_)
      refine lv_aload_n hx hb d_M_findPair_12 rfl (lv_at hl 1 rfl) ?_
      refine va_get (D := D) (ci := 4) (v := .ref a7) (C := R_M) (T := T_M) (N := 12) hx hb (us_M G hW) (fun _ h => h) hown hK hP 0 rfl rfl 7 (by decide) (fl_M_28 G hW) (fun _ h9 => h9) rfl d_M_findPair_13 ?_
      refine lv_sipush (v := (nI 256)) hx hb d_M_findPair_16 (by decide) ?_
      refine lv_iload_n hx hb d_M_findPair_19 rfl (lv_at hl 2 rfl) ?_
      refine lv_imul hx hb d_M_findPair_20 ?_
      refine tp_i (y := (nI (256 * fN))) (pk_mul _ _) ?_
      refine lv_iload_n hx hb d_M_findPair_21 rfl (lv_at hl 0 rfl) ?_
      refine lv_iadd hx hb d_M_findPair_22 ?_
      refine tp_i (y := (nI (256 * fN + i))) (nI_add _ _) ?_
      refine ia_ld hx hb hK hP 7 (j := (256 * fN + i)) rfl (by omega) (by decide) d_M_findPair_23 ?_
      refine tp_i (y := (nI (pa (256 * fN + i)))) rfl ?_
      refine lv_iload_n hx hb d_M_findPair_24 rfl (lv_at hl 3 rfl) ?_
      refine lv_icmp_ne (tgt := 30) hx hb d_M_findPair_25 (by decide) (fun c_25 => ?_) (fun c_25 => ?_)
      · refine lv_iinc (v := (nI (i + 1))) (lv' := [(3, .int (nI (i + 1))), (0, .ref hm), (1, .int (nI fN)), (2, .int (nI v))]) hx hb d_M_findPair_30 hl (k := 0) rfl (nI_1 _) (by decide) rfl (fun ls hl => ?_)
        refine lv_goto (tgt := 2) hx hb d_M_findPair_33 (by decide) ?_
        exact ih_2 (i + 1) (by omega) (by rw [hf, fnd_f (show ¬ vw pa (256 * fN) i = v from fun h9 => c_25 (congrArg nI h9))]) ls (lv_sub hl [0, 1, 2, 3] rfl)
      · refine lv_iload_n hx hb d_M_findPair_28 rfl (lv_at hl 0 rfl) ?_
        exact mx_iret hx hb hr hlk d_M_findPair_29 (Nat.le_of_ble_eq_true rfl) (Nat.le_of_ble_eq_true rfl) (fun _ h => nomatch h) (⟨by rw [hf, fnd_t (show vw pa (256 * fN) i = v from (nI_eq (Nat.lt_trans (hp i (by omega)) (by decide)) (by omega)).mp c_25)]; rfl, rfl⟩)
  exact loop_2 (n) (0) (by omega) (rfl) ls (lv_sub hl [0, 1, 2, 3] rfl)
