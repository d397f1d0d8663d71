set_option maxHeartbeats 4000000 in
set_option maxRecDepth 100000 in
theorem c_M_addOne_1 {l : Launch} {s0 : State} {D : va_G} {cI cF cJ : ClassId} (G : Gx l s0 D cI cF cJ) (hm a1 a2 a3 a4 a5 a6 a7 a8 a9 a10 a11 : Nat) (th : Int32) (S : Nat → FS) (j A B n : Nat) (hd pv : Int32) (cs f : Nat → Nat) (x : Int64) {H0 : Heap} {A0 : Nat → Prop} (hM : MP D cI hm a1 a2 a3 a4 a5 a6 a7 a8 a9 a10 a11 th S H0) (hD : va_D A0 (adM hm a1 a2 a3 a4 a5 a6 a7 a8 a9 a10 a11)) (hok : ∀ i, i < 4 → okS (S i)) (hj : j < 4) (hSj : S j = (1, A, B, hd, pv, cs, n, f)) : Mx l s0 y_M_addOne (.code y_M_addOne b_M_addOne 5 (some .boolean)) { frames := 6, cells := 0, slots := 0, locals := 140 } [.ref hm, .int (nI j), .long x] H0 (Aa [hm, a1, a2, a3, a4, a5, a6, a7, a8, a9, a10, a11] H0.size) (Rw (.int (bI (addS (S j) x).1)) (fun H1 => MP D cI hm a1 a2 a3 a4 a5 a6 a7 a8 a9 a10 a11 th (va_up S j (addS (S j) x).2) H1)) := by
  refine Mx.ofW (own := "FewBitsModel") rfl rfl ?_
  rintro p e s m below meth c ⟨hx, hb, hml, hr, hown, hW, hlk⟩ hnm het hH
  have hK := G.k hW
  have hD0 := hD
  obtain ⟨ki, ka, kb, zs, pu, ce, pa, tr, so, pl, ot, hP, hpic⟩ := hM
  have hD : va_D (Aa [hm, a1, a2, a3, a4, a5, a6, a7, a8, a9, a10, a11] H0.size) [(hm, .inr (4, [.int th, .ref a1, .ref a2, .ref a3, .ref a4, .ref a5, .ref a6, .ref a7, .ref a8, .ref a9, .ref a10, .ref a11])), (a1, aN cI 4 ki), (a2, aN cI 4 ka), (a3, aN cI 4 kb), (a4, aI cI 4 zs), (a5, aI cI 4 pu), (a6, aN cI 4096 ce), (a7, aN cI 1024 pa), (a8, aN cI 1024 tr), (a9, aI cI 256 so), (a10, aN cI 6 pl), (a11, aN cI 6 ot)] := va_D.same2 [hm, a1, a2, a3, a4, a5, a6, a7, a8, a9, a10, a11] (hD.aa (sz := H0.size)) rfl rfl
  have hS : va_S (Aa [hm, a1, a2, a3, a4, a5, a6, a7, a8, a9, a10, a11] H0.size) H0 H0 [] := va_S.rf
  have hpj := hpic j hj
  rw [hSj] at hpj
  obtain ⟨p1, p2, p3, p4, p5, p6⟩ := hpj.f1
  have hoj := hok j hj
  rw [hSj] at hoj
  have hq := okS_1.mp hoj
  have hl := lv_entry ([.ref hm, .int (nI j), .long x]) (n := 5) (Nat.le_of_ble_eq_true rfl)
  rw [lg_entry_eq]
  generalize (lg_sl ([.ref hm, .int (nI j), .long x]) ++ List.replicate (5 - (lg_sl ([.ref hm, .int (nI j), .long x])).length) Slot.unset).toArray = ls at hl ⊢
  have hl : lv_has ls 5 [(0, .ref hm), (1, .int (nI j)), (2, .long x)] := hl
  refine lv_aload_n hx hb d_M_addOne_0 rfl (lv_at hl 0 rfl) ?_
  refine va_get (D := D) (ci := 4) (v := .ref a1) (C := R_M) (T := T_M) (N := 12) hx hb (us_M G hW) (fun _ h => h) hown hK hP 0 rfl rfl 1 (by decide) (fl_M_7 G hW) (fun _ h9 => h9) rfl d_M_addOne_1 ?_
  refine lv_iload_n hx hb d_M_addOne_4 rfl (lv_at hl 1 rfl) ?_
  refine ia_ld hx hb hK hP 1 (j := j) rfl (hj) (by decide) d_M_addOne_5 ?_
  refine tp_i (y := (nI (ki j))) rfl ?_
  refine tp_i (y := (nI 1)) (by rw [p1]) ?_
  refine lv_iconst (v := (nI 1)) hx hb d_M_addOne_6 (by decide) ?_
  refine lv_icmp_ne (tgt := 20) hx hb d_M_addOne_7 (by decide) (fun c_7 => absurd (rfl) c_7) (fun c_7 => ?_)
  refine lv_aload_n hx hb d_M_addOne_10 rfl (lv_at hl 0 rfl) ?_
  refine lv_iload_n hx hb d_M_addOne_11 rfl (lv_at hl 1 rfl) ?_
  refine lv_lload_n hx hb d_M_addOne_12 rfl (lv_at hl 2 rfl) ?_
  refine lv_iconst (v := (nI 1)) hx hb d_M_addOne_13 (by decide) ?_
  refine mx_callW (r := .int (bI (allN (fitA (vw ce (1024 * j)) (fpr A x pl B) B) B))) (c_M_addCounted_p G hm a1 a2 a3 a4 a5 a6 a7 a8 a9 a10 a11 th ki ka kb zs pu ce pa tr so pl ot j A B x hP hD hj p2 p3 hq.2.1 hq.2.2.2.1 (hq.ce p5)) hW (iv_M_addOne_14 G hx hb hown hW (va_recv hK hP (ci := 4) (q0 := 0) rfl rfl) [.int (nI j), .long x, .int (nI 1)] [] rfl) hml hl.1 (by rw [hb]; exact d_M_addOne_14) (cd_M_addCounted G hW) ⟨Nat.le_of_ble_eq_true rfl, Nat.le_of_ble_eq_true rfl⟩ (Nat.le_of_ble_eq_true rfl) (Nat.le_of_ble_eq_true rfl) (Nat.le_of_ble_eq_true rfl) hS (Aa.mono (fun _ h => h) hS.1) (fun H locs hP _ _ hS => ?_)
  have hP : va_P D vcl [(hm, .inr (4, [.int th, .ref a1, .ref a2, .ref a3, .ref a4, .ref a5, .ref a6, .ref a7, .ref a8, .ref a9, .ref a10, .ref a11])), (a1, aN cI 4 ki), (a2, aN cI 4 ka), (a3, aN cI 4 kb), (a4, aI cI 4 zs), (a5, aI cI 4 pu), (a6, aN cI 4096 (if (allN (fitA (vw ce (1024 * j)) (fpr A x pl B) B) B) then (stO 1024 ce (1024 * j) (addC (vw ce (1024 * j)) (fpr A x pl B) B)) else ce)), (a7, aN cI 1024 pa), (a8, aN cI 1024 tr), (a9, aI cI 256 so), (a10, aN cI 6 (fpr A x pl B)), (a11, aN cI 6 ot)] H := hP
  have hD : va_D (Aa [hm, a1, a2, a3, a4, a5, a6, a7, a8, a9, a10, a11] H0.size) [(hm, .inr (4, [.int th, .ref a1, .ref a2, .ref a3, .ref a4, .ref a5, .ref a6, .ref a7, .ref a8, .ref a9, .ref a10, .ref a11])), (a1, aN cI 4 ki), (a2, aN cI 4 ka), (a3, aN cI 4 kb), (a4, aI cI 4 zs), (a5, aI cI 4 pu), (a6, aN cI 4096 (if (allN (fitA (vw ce (1024 * j)) (fpr A x pl B) B) B) then (stO 1024 ce (1024 * j) (addC (vw ce (1024 * j)) (fpr A x pl B) B)) else ce)), (a7, aN cI 1024 pa), (a8, aN cI 1024 tr), (a9, aI cI 256 so), (a10, aN cI 6 (fpr A x pl B)), (a11, aN cI 6 ot)] := va_D.same2 [hm, a1, a2, a3, a4, a5, a6, a7, a8, a9, a10, a11] hD rfl rfl
  refine tp_i (y := (bI (allN (fitA cs (plx A x) B) B))) (by rw [fitA_m hq.2.1 p5]) ?_
  refine lv_goto (tgt := 45) hx hb d_M_addOne_17 (by decide) ?_
  refine lv_istore (lv' := [(4, .int (bI (allN (fitA cs (plx A x) B) B))), (0, .ref hm), (1, .int (nI j)), (2, .long x)]) hx hb d_M_addOne_45 hl (by decide) rfl (fun ls hl => ?_)
  refine lv_aload_n hx hb d_M_addOne_47 rfl (lv_at hl 1 rfl) ?_
  refine va_get (D := D) (ci := 4) (v := .ref a4) (C := R_M) (T := T_M) (N := 12) hx hb (us_M G hW) (fun _ h => h) hown hK hP 0 rfl rfl 4 (by decide) (fl_M_19 G hW) (fun _ h9 => h9) rfl d_M_addOne_48 ?_
  refine lv_iload_n hx hb d_M_addOne_51 rfl (lv_at hl 2 rfl) ?_
  refine lv_iload hx hb d_M_addOne_52 (lv_at hl 0 rfl) ?_
  refine lv_if_eq (tgt := 68) hx hb d_M_addOne_54 (by decide) (fun c_54 => ?_) (fun c_54 => ?_)
  · refine lv_aload_n hx hb d_M_addOne_68 rfl (lv_at hl 1 rfl) ?_
    refine va_get (D := D) (ci := 4) (v := .ref a4) (C := R_M) (T := T_M) (N := 12) hx hb (us_M G hW) (fun _ h => h) hown hK hP 0 rfl rfl 4 (by decide) (fl_M_19 G hW) (fun _ h9 => h9) rfl d_M_addOne_69 ?_
    refine lv_iload_n hx hb d_M_addOne_72 rfl (lv_at hl 2 rfl) ?_
    refine ia_ld hx hb hK hP 4 (j := j) rfl (hj) (by decide) d_M_addOne_73 ?_
    refine ia_st hx hb hK hP hD hS 4 (j := j) rfl (hj) (by decide) d_M_addOne_74 (fun H locs hP hD hS => ?_)
    have hP : va_P D vcl [(hm, .inr (4, [.int th, .ref a1, .ref a2, .ref a3, .ref a4, .ref a5, .ref a6, .ref a7, .ref a8, .ref a9, .ref a10, .ref a11])), (a1, aN cI 4 ki), (a2, aN cI 4 ka), (a3, aN cI 4 kb), (a4, aI cI 4 (upd zs j (zs j))), (a5, aI cI 4 pu), (a6, aN cI 4096 (if (allN (fitA (vw ce (1024 * j)) (fpr A x pl B) B) B) then (stO 1024 ce (1024 * j) (addC (vw ce (1024 * j)) (fpr A x pl B) B)) else ce)), (a7, aN cI 1024 pa), (a8, aN cI 1024 tr), (a9, aI cI 256 so), (a10, aN cI 6 (fpr A x pl B)), (a11, aN cI 6 ot)] H := hP
    have hD : va_D (Aa [hm, a1, a2, a3, a4, a5, a6, a7, a8, a9, a10, a11] H0.size) [(hm, .inr (4, [.int th, .ref a1, .ref a2, .ref a3, .ref a4, .ref a5, .ref a6, .ref a7, .ref a8, .ref a9, .ref a10, .ref a11])), (a1, aN cI 4 ki), (a2, aN cI 4 ka), (a3, aN cI 4 kb), (a4, aI cI 4 (upd zs j (zs j))), (a5, aI cI 4 pu), (a6, aN cI 4096 (if (allN (fitA (vw ce (1024 * j)) (fpr A x pl B) B) B) then (stO 1024 ce (1024 * j) (addC (vw ce (1024 * j)) (fpr A x pl B) B)) else ce)), (a7, aN cI 1024 pa), (a8, aN cI 1024 tr), (a9, aI cI 256 so), (a10, aN cI 6 (fpr A x pl B)), (a11, aN cI 6 ot)] := hD
    refine lv_iload hx hb d_M_addOne_75 (lv_at hl 0 rfl) ?_
    exact mx_zret hx hb hr hlk d_M_addOne_77 (Nat.le_of_ble_eq_true rfl) (Nat.le_of_ble_eq_true rfl) hS.2.2 (bI_nar _) (⟨by rw [hSj, addS_1], by have hft := bI_f c_54; rw [fitA_m hq.2.1 p5, hft] at hP; exact ⟨ki, ka, kb, _, pu, ce, pa, tr, so, _, ot, hP, pics_up hpic hok (by rw [hSj, addS_1, hft]; exact PicM.k1 p1 p2 p3 (by rw [upd_eq, p4]; rfl) p5 p6) id_off id_off id_off upd_off id_off idC idP⟩⟩)
  · refine lv_aload_n hx hb d_M_addOne_57 rfl (lv_at hl 1 rfl) ?_
    refine va_get (D := D) (ci := 4) (v := .ref a4) (C := R_M) (T := T_M) (N := 12) hx hb (us_M G hW) (fun _ h => h) hown hK hP 0 rfl rfl 4 (by decide) (fl_M_19 G hW) (fun _ h9 => h9) rfl d_M_addOne_58 ?_
    refine lv_iload_n hx hb d_M_addOne_61 rfl (lv_at hl 2 rfl) ?_
    refine ia_ld hx hb hK hP 4 (j := j) rfl (hj) (by decide) d_M_addOne_62 ?_
    refine lv_iconst (v := (nI 1)) hx hb d_M_addOne_63 (by decide) ?_
    refine lv_iadd hx hb d_M_addOne_64 ?_
    refine lv_goto (tgt := 74) hx hb d_M_addOne_65 (by decide) ?_
    refine ia_st hx hb hK hP hD hS 4 (j := j) rfl (hj) (by decide) d_M_addOne_74 (fun H locs hP hD hS => ?_)
    have hP : va_P D vcl [(hm, .inr (4, [.int th, .ref a1, .ref a2, .ref a3, .ref a4, .ref a5, .ref a6, .ref a7, .ref a8, .ref a9, .ref a10, .ref a11])), (a1, aN cI 4 ki), (a2, aN cI 4 ka), (a3, aN cI 4 kb), (a4, aI cI 4 (upd zs j ((zs j) + (nI 1)))), (a5, aI cI 4 pu), (a6, aN cI 4096 (if (allN (fitA (vw ce (1024 * j)) (fpr A x pl B) B) B) then (stO 1024 ce (1024 * j) (addC (vw ce (1024 * j)) (fpr A x pl B) B)) else ce)), (a7, aN cI 1024 pa), (a8, aN cI 1024 tr), (a9, aI cI 256 so), (a10, aN cI 6 (fpr A x pl B)), (a11, aN cI 6 ot)] H := hP
    have hD : va_D (Aa [hm, a1, a2, a3, a4, a5, a6, a7, a8, a9, a10, a11] H0.size) [(hm, .inr (4, [.int th, .ref a1, .ref a2, .ref a3, .ref a4, .ref a5, .ref a6, .ref a7, .ref a8, .ref a9, .ref a10, .ref a11])), (a1, aN cI 4 ki), (a2, aN cI 4 ka), (a3, aN cI 4 kb), (a4, aI cI 4 (upd zs j ((zs j) + (nI 1)))), (a5, aI cI 4 pu), (a6, aN cI 4096 (if (allN (fitA (vw ce (1024 * j)) (fpr A x pl B) B) B) then (stO 1024 ce (1024 * j) (addC (vw ce (1024 * j)) (fpr A x pl B) B)) else ce)), (a7, aN cI 1024 pa), (a8, aN cI 1024 tr), (a9, aI cI 256 so), (a10, aN cI 6 (fpr A x pl B)), (a11, aN cI 6 ot)] := hD
    refine lv_iload hx hb d_M_addOne_75 (lv_at hl 0 rfl) ?_
    exact mx_zret hx hb hr hlk d_M_addOne_77 (Nat.le_of_ble_eq_true rfl) (Nat.le_of_ble_eq_true rfl) hS.2.2 (bI_nar _) (⟨by rw [hSj, addS_1], by have hft := bI_t c_54; rw [fitA_m hq.2.1 p5, hft] at hP; exact ⟨ki, ka, kb, _, pu, stO 1024 ce (1024 * j) (addC (vw ce (1024 * j)) (fpr A x pl B) B), pa, tr, so, _, ot, hP, pics_up hpic hok (by rw [hSj, addS_1, hft]; exact PicM.k1 p1 p2 p3 (by rw [upd_eq, p4]; rfl) (fun q h9 => by rw [vw_stO h9, addC_fpr]; exact addC_agr p5 q h9) p6) id_off id_off id_off upd_off id_off offC idP⟩⟩)

set_option maxHeartbeats 4000000 in
set_option maxRecDepth 100000 in
theorem c_M_addOne_2 {l : Launch} {s0 : State} {D : va_G} {cI cF cJ : ClassId} (G : Gx l s0 D cI cF cJ) (hm a1 a2 a3 a4 a5 a6 a7 a8 a9 a10 a11 : Nat) (th : Int32) (S : Nat → FS) (j A B n : Nat) (hd pv : Int32) (cs f : Nat → Nat) (x : Int64) {H0 : Heap} {A0 : Nat → Prop} (hM : MP D cI hm a1 a2 a3 a4 a5 a6 a7 a8 a9 a10 a11 th S H0) (hD : va_D A0 (adM hm a1 a2 a3 a4 a5 a6 a7 a8 a9 a10 a11)) (hok : ∀ i, i < 4 → okS (S i)) (hj : j < 4) (hSj : S j = (2, A, B, hd, pv, cs, n, f)) : Mx l s0 y_M_addOne (.code y_M_addOne b_M_addOne 5 (some .boolean)) { frames := 6, cells := 0, slots := 0, locals := 140 } [.ref hm, .int (nI j), .long x] H0 (Aa [hm, a1, a2, a3, a4, a5, a6, a7, a8, a9, a10, a11] H0.size) (Rw (.int (bI (addS (S j) x).1)) (fun H1 => MP D cI hm a1 a2 a3 a4 a5 a6 a7 a8 a9 a10 a11 th (va_up S j (addS (S j) x).2) H1)) := by
  refine Mx.ofW (own := "FewBitsModel") rfl rfl ?_
  rintro p e s m below meth c ⟨hx, hb, hml, hr, hown, hW, hlk⟩ hnm het hH
  have hK := G.k hW
  have hD0 := hD
  obtain ⟨ki, ka, kb, zs, pu, ce, pa, tr, so, pl, ot, hP, hpic⟩ := hM
  have hD : va_D (Aa [hm, a1, a2, a3, a4, a5, a6, a7, a8, a9, a10, a11] H0.size) [(hm, .inr (4, [.int th, .ref a1, .ref a2, .ref a3, .ref a4, .ref a5, .ref a6, .ref a7, .ref a8, .ref a9, .ref a10, .ref a11])), (a1, aN cI 4 ki), (a2, aN cI 4 ka), (a3, aN cI 4 kb), (a4, aI cI 4 zs), (a5, aI cI 4 pu), (a6, aN cI 4096 ce), (a7, aN cI 1024 pa), (a8, aN cI 1024 tr), (a9, aI cI 256 so), (a10, aN cI 6 pl), (a11, aN cI 6 ot)] := va_D.same2 [hm, a1, a2, a3, a4, a5, a6, a7, a8, a9, a10, a11] (hD.aa (sz := H0.size)) rfl rfl
  have hS : va_S (Aa [hm, a1, a2, a3, a4, a5, a6, a7, a8, a9, a10, a11] H0.size) H0 H0 [] := va_S.rf
  have hpj := hpic j hj
  rw [hSj] at hpj
  obtain ⟨p1, p2, p3, p4, p5, p7, p6⟩ := hpj.f2
  have hoj := hok j hj
  rw [hSj] at hoj
  have hq := okS_2.mp hoj
  have hag := putB_agr (B := B) (x := x) hq.2.1 p5
  have hl := lv_entry ([.ref hm, .int (nI j), .long x]) (n := 5) (Nat.le_of_ble_eq_true rfl)
  rw [lg_entry_eq]
  generalize (lg_sl ([.ref hm, .int (nI j), .long x]) ++ List.replicate (5 - (lg_sl ([.ref hm, .int (nI j), .long x])).length) Slot.unset).toArray = ls at hl ⊢
  have hl : lv_has ls 5 [(0, .ref hm), (1, .int (nI j)), (2, .long x)] := hl
  refine lv_aload_n hx hb d_M_addOne_0 rfl (lv_at hl 0 rfl) ?_
  refine va_get (D := D) (ci := 4) (v := .ref a1) (C := R_M) (T := T_M) (N := 12) hx hb (us_M G hW) (fun _ h => h) hown hK hP 0 rfl rfl 1 (by decide) (fl_M_7 G hW) (fun _ h9 => h9) rfl d_M_addOne_1 ?_
  refine lv_iload_n hx hb d_M_addOne_4 rfl (lv_at hl 1 rfl) ?_
  refine ia_ld hx hb hK hP 1 (j := j) rfl (hj) (by decide) d_M_addOne_5 ?_
  refine tp_i (y := (nI (ki j))) rfl ?_
  refine tp_i (y := (nI 2)) (by rw [p1]) ?_
  refine lv_iconst (v := (nI 1)) hx hb d_M_addOne_6 (by decide) ?_
  refine lv_icmp_ne (tgt := 20) hx hb d_M_addOne_7 (by decide) (fun c_7 => ?_) (fun c_7 => absurd c_7 (by decide))
  refine lv_aload_n hx hb d_M_addOne_20 rfl (lv_at hl 0 rfl) ?_
  refine va_get (D := D) (ci := 4) (v := .ref a1) (C := R_M) (T := T_M) (N := 12) hx hb (us_M G hW) (fun _ h => h) hown hK hP 0 rfl rfl 1 (by decide) (fl_M_7 G hW) (fun _ h9 => h9) rfl d_M_addOne_21 ?_
  refine lv_iload_n hx hb d_M_addOne_24 rfl (lv_at hl 1 rfl) ?_
  refine ia_ld hx hb hK hP 1 (j := j) rfl (hj) (by decide) d_M_addOne_25 ?_
  refine tp_i (y := (nI (ki j))) rfl ?_
  refine tp_i (y := (nI 2)) (by rw [p1]) ?_
  refine lv_iconst (v := (nI 2)) hx hb d_M_addOne_26 (by decide) ?_
  refine lv_icmp_ne (tgt := 39) hx hb d_M_addOne_27 (by decide) (fun c_27 => absurd (rfl) c_27) (fun c_27 => ?_)
  refine lv_aload_n hx hb d_M_addOne_30 rfl (lv_at hl 0 rfl) ?_
  refine lv_iload_n hx hb d_M_addOne_31 rfl (lv_at hl 1 rfl) ?_
  refine lv_lload_n hx hb d_M_addOne_32 rfl (lv_at hl 2 rfl) ?_
  refine mx_callW (r := .int (bI (putB A B x (vw ce (1024 * j))).1.isSome)) (c_M_addPrint G hm a1 a2 a3 a4 a5 a6 a7 a8 a9 a10 a11 th ki ka kb zs pu ce pa tr so pl ot j A B x hP hD hj p2 p3 hq.2.1 hq.2.2.1 hq.2.2.2.1 (hq.ce p5)) hW (iv_M_addOne_33 G hx hb hown hW (va_recv hK hP (ci := 4) (q0 := 0) rfl rfl) [.int (nI j), .long x] [] rfl) hml hl.1 (by rw [hb]; exact d_M_addOne_33) (cd_M_addPrint G hW) ⟨Nat.le_of_ble_eq_true rfl, Nat.le_of_ble_eq_true rfl⟩ (Nat.le_of_ble_eq_true rfl) (Nat.le_of_ble_eq_true rfl) (Nat.le_of_ble_eq_true rfl) hS (Aa.mono (fun _ h => h) hS.1) (fun H locs hP _ _ hS => ?_)
  obtain ⟨tr1, hP⟩ := hP
  have hP : va_P D vcl [(hm, .inr (4, [.int th, .ref a1, .ref a2, .ref a3, .ref a4, .ref a5, .ref a6, .ref a7, .ref a8, .ref a9, .ref a10, .ref a11])), (a1, aN cI 4 ki), (a2, aN cI 4 ka), (a3, aN cI 4 kb), (a4, aI cI 4 zs), (a5, aI cI 4 (upd pu j (pu j + nI (putB A B x (vw ce (1024 * j))).2))), (a6, aN cI 4096 (stO 1024 ce (1024 * j) ((putB A B x (vw ce (1024 * j))).1.getD (vw ce (1024 * j))))), (a7, aN cI 1024 pa), (a8, aN cI 1024 tr1), (a9, aI cI 256 so), (a10, aN cI 6 pl), (a11, aN cI 6 ot)] H := hP
  have hD : va_D (Aa [hm, a1, a2, a3, a4, a5, a6, a7, a8, a9, a10, a11] H0.size) [(hm, .inr (4, [.int th, .ref a1, .ref a2, .ref a3, .ref a4, .ref a5, .ref a6, .ref a7, .ref a8, .ref a9, .ref a10, .ref a11])), (a1, aN cI 4 ki), (a2, aN cI 4 ka), (a3, aN cI 4 kb), (a4, aI cI 4 zs), (a5, aI cI 4 (upd pu j (pu j + nI (putB A B x (vw ce (1024 * j))).2))), (a6, aN cI 4096 (stO 1024 ce (1024 * j) ((putB A B x (vw ce (1024 * j))).1.getD (vw ce (1024 * j))))), (a7, aN cI 1024 pa), (a8, aN cI 1024 tr1), (a9, aI cI 256 so), (a10, aN cI 6 pl), (a11, aN cI 6 ot)] := va_D.same2 [hm, a1, a2, a3, a4, a5, a6, a7, a8, a9, a10, a11] hD rfl rfl
  refine tp_i (y := (bI (putB A B x cs).1.isSome)) (by rw [hag.2.1]) ?_
  refine lv_goto (tgt := 45) hx hb d_M_addOne_36 (by decide) ?_
  refine lv_istore (lv' := [(4, .int (bI (putB A B x cs).1.isSome)), (0, .ref hm), (1, .int (nI j)), (2, .long x)]) hx hb d_M_addOne_45 hl (by decide) rfl (fun ls hl => ?_)
  refine lv_aload_n hx hb d_M_addOne_47 rfl (lv_at hl 1 rfl) ?_
  refine va_get (D := D) (ci := 4) (v := .ref a4) (C := R_M) (T := T_M) (N := 12) hx hb (us_M G hW) (fun _ h => h) hown hK hP 0 rfl rfl 4 (by decide) (fl_M_19 G hW) (fun _ h9 => h9) rfl d_M_addOne_48 ?_
  refine lv_iload_n hx hb d_M_addOne_51 rfl (lv_at hl 2 rfl) ?_
  refine lv_iload hx hb d_M_addOne_52 (lv_at hl 0 rfl) ?_
  refine lv_if_eq (tgt := 68) hx hb d_M_addOne_54 (by decide) (fun c_54 => ?_) (fun c_54 => ?_)
  · refine lv_aload_n hx hb d_M_addOne_68 rfl (lv_at hl 1 rfl) ?_
    refine va_get (D := D) (ci := 4) (v := .ref a4) (C := R_M) (T := T_M) (N := 12) hx hb (us_M G hW) (fun _ h => h) hown hK hP 0 rfl rfl 4 (by decide) (fl_M_19 G hW) (fun _ h9 => h9) rfl d_M_addOne_69 ?_
    refine lv_iload_n hx hb d_M_addOne_72 rfl (lv_at hl 2 rfl) ?_
    refine ia_ld hx hb hK hP 4 (j := j) rfl (hj) (by decide) d_M_addOne_73 ?_
    refine ia_st hx hb hK hP hD hS 4 (j := j) rfl (hj) (by decide) d_M_addOne_74 (fun H locs hP hD hS => ?_)
    have hP : va_P D vcl [(hm, .inr (4, [.int th, .ref a1, .ref a2, .ref a3, .ref a4, .ref a5, .ref a6, .ref a7, .ref a8, .ref a9, .ref a10, .ref a11])), (a1, aN cI 4 ki), (a2, aN cI 4 ka), (a3, aN cI 4 kb), (a4, aI cI 4 (upd zs j (zs j))), (a5, aI cI 4 (upd pu j (pu j + nI (putB A B x (vw ce (1024 * j))).2))), (a6, aN cI 4096 (stO 1024 ce (1024 * j) ((putB A B x (vw ce (1024 * j))).1.getD (vw ce (1024 * j))))), (a7, aN cI 1024 pa), (a8, aN cI 1024 tr1), (a9, aI cI 256 so), (a10, aN cI 6 pl), (a11, aN cI 6 ot)] H := hP
    have hD : va_D (Aa [hm, a1, a2, a3, a4, a5, a6, a7, a8, a9, a10, a11] H0.size) [(hm, .inr (4, [.int th, .ref a1, .ref a2, .ref a3, .ref a4, .ref a5, .ref a6, .ref a7, .ref a8, .ref a9, .ref a10, .ref a11])), (a1, aN cI 4 ki), (a2, aN cI 4 ka), (a3, aN cI 4 kb), (a4, aI cI 4 (upd zs j (zs j))), (a5, aI cI 4 (upd pu j (pu j + nI (putB A B x (vw ce (1024 * j))).2))), (a6, aN cI 4096 (stO 1024 ce (1024 * j) ((putB A B x (vw ce (1024 * j))).1.getD (vw ce (1024 * j))))), (a7, aN cI 1024 pa), (a8, aN cI 1024 tr1), (a9, aI cI 256 so), (a10, aN cI 6 pl), (a11, aN cI 6 ot)] := hD
    refine lv_iload hx hb d_M_addOne_75 (lv_at hl 0 rfl) ?_
    exact mx_zret hx hb hr hlk d_M_addOne_77 (Nat.le_of_ble_eq_true rfl) (Nat.le_of_ble_eq_true rfl) hS.2.2 (bI_nar _) (⟨by rw [hSj, addS_2], by have hft := bI_f c_54; exact ⟨ki, ka, kb, _, _, _, pa, _, so, pl, ot, hP, pics_up hpic hok (by rw [hSj, addS_2, hft]; exact PicM.k2 p1 p2 p3 (by rw [upd_eq, p4]; rfl) (fun q h9 => by rw [vw_stO h9]; exact hag.2.2 q h9) (by rw [upd_eq, p7, hag.1]) p6) id_off id_off id_off upd_off upd_off offC idP⟩⟩)
  · refine lv_aload_n hx hb d_M_addOne_57 rfl (lv_at hl 1 rfl) ?_
    refine va_get (D := D) (ci := 4) (v := .ref a4) (C := R_M) (T := T_M) (N := 12) hx hb (us_M G hW) (fun _ h => h) hown hK hP 0 rfl rfl 4 (by decide) (fl_M_19 G hW) (fun _ h9 => h9) rfl d_M_addOne_58 ?_
    refine lv_iload_n hx hb d_M_addOne_61 rfl (lv_at hl 2 rfl) ?_
    refine ia_ld hx hb hK hP 4 (j := j) rfl (hj) (by decide) d_M_addOne_62 ?_
    refine lv_iconst (v := (nI 1)) hx hb d_M_addOne_63 (by decide) ?_
    refine lv_iadd hx hb d_M_addOne_64 ?_
    refine lv_goto (tgt := 74) hx hb d_M_addOne_65 (by decide) ?_
    refine ia_st hx hb hK hP hD hS 4 (j := j) rfl (hj) (by decide) d_M_addOne_74 (fun H locs hP hD hS => ?_)
    have hP : va_P D vcl [(hm, .inr (4, [.int th, .ref a1, .ref a2, .ref a3, .ref a4, .ref a5, .ref a6, .ref a7, .ref a8, .ref a9, .ref a10, .ref a11])), (a1, aN cI 4 ki), (a2, aN cI 4 ka), (a3, aN cI 4 kb), (a4, aI cI 4 (upd zs j ((zs j) + (nI 1)))), (a5, aI cI 4 (upd pu j (pu j + nI (putB A B x (vw ce (1024 * j))).2))), (a6, aN cI 4096 (stO 1024 ce (1024 * j) ((putB A B x (vw ce (1024 * j))).1.getD (vw ce (1024 * j))))), (a7, aN cI 1024 pa), (a8, aN cI 1024 tr1), (a9, aI cI 256 so), (a10, aN cI 6 pl), (a11, aN cI 6 ot)] H := hP
    have hD : va_D (Aa [hm, a1, a2, a3, a4, a5, a6, a7, a8, a9, a10, a11] H0.size) [(hm, .inr (4, [.int th, .ref a1, .ref a2, .ref a3, .ref a4, .ref a5, .ref a6, .ref a7, .ref a8, .ref a9, .ref a10, .ref a11])), (a1, aN cI 4 ki), (a2, aN cI 4 ka), (a3, aN cI 4 kb), (a4, aI cI 4 (upd zs j ((zs j) + (nI 1)))), (a5, aI cI 4 (upd pu j (pu j + nI (putB A B x (vw ce (1024 * j))).2))), (a6, aN cI 4096 (stO 1024 ce (1024 * j) ((putB A B x (vw ce (1024 * j))).1.getD (vw ce (1024 * j))))), (a7, aN cI 1024 pa), (a8, aN cI 1024 tr1), (a9, aI cI 256 so), (a10, aN cI 6 pl), (a11, aN cI 6 ot)] := hD
    refine lv_iload hx hb d_M_addOne_75 (lv_at hl 0 rfl) ?_
    exact mx_zret hx hb hr hlk d_M_addOne_77 (Nat.le_of_ble_eq_true rfl) (Nat.le_of_ble_eq_true rfl) hS.2.2 (bI_nar _) (⟨by rw [hSj, addS_2], by have hft := bI_t c_54; exact ⟨ki, ka, kb, _, _, _, pa, _, so, pl, ot, hP, pics_up hpic hok (by rw [hSj, addS_2, hft]; exact PicM.k2 p1 p2 p3 (by rw [upd_eq, p4]; rfl) (fun q h9 => by rw [vw_stO h9]; exact hag.2.2 q h9) (by rw [upd_eq, p7, hag.1]) p6) id_off id_off id_off upd_off upd_off offC idP⟩⟩)

set_option maxHeartbeats 4000000 in
set_option maxRecDepth 100000 in
theorem c_M_addOne_3 {l : Launch} {s0 : State} {D : va_G} {cI cF cJ : ClassId} (G : Gx l s0 D cI cF cJ) (hm a1 a2 a3 a4 a5 a6 a7 a8 a9 a10 a11 : Nat) (th : Int32) (S : Nat → FS) (j A B n : Nat) (hd pv : Int32) (cs f : Nat → Nat) (x : Int64) {H0 : Heap} {A0 : Nat → Prop} (hM : MP D cI hm a1 a2 a3 a4 a5 a6 a7 a8 a9 a10 a11 th S H0) (hD : va_D A0 (adM hm a1 a2 a3 a4 a5 a6 a7 a8 a9 a10 a11)) (hok : ∀ i, i < 4 → okS (S i)) (hj : j < 4) (hSj : S j = (3, A, B, hd, pv, cs, n, f)) : Mx l s0 y_M_addOne (.code y_M_addOne b_M_addOne 5 (some .boolean)) { frames := 6, cells := 0, slots := 0, locals := 140 } [.ref hm, .int (nI j), .long x] H0 (Aa [hm, a1, a2, a3, a4, a5, a6, a7, a8, a9, a10, a11] H0.size) (Rw (.int (bI (addS (S j) x).1)) (fun H1 => MP D cI hm a1 a2 a3 a4 a5 a6 a7 a8 a9 a10 a11 th (va_up S j (addS (S j) x).2) H1)) := by
  refine Mx.ofW (own := "FewBitsModel") rfl rfl ?_
  rintro p e s m below meth c ⟨hx, hb, hml, hr, hown, hW, hlk⟩ hnm het hH
  have hK := G.k hW
  have hD0 := hD
  obtain ⟨ki, ka, kb, zs, pu, ce, pa, tr, so, pl, ot, hP, hpic⟩ := hM
  have hD : va_D (Aa [hm, a1, a2, a3, a4, a5, a6, a7, a8, a9, a10, a11] H0.size) [(hm, .inr (4, [.int th, .ref a1, .ref a2, .ref a3, .ref a4, .ref a5, .ref a6, .ref a7, .ref a8, .ref a9, .ref a10, .ref a11])), (a1, aN cI 4 ki), (a2, aN cI 4 ka), (a3, aN cI 4 kb), (a4, aI cI 4 zs), (a5, aI cI 4 pu), (a6, aN cI 4096 ce), (a7, aN cI 1024 pa), (a8, aN cI 1024 tr), (a9, aI cI 256 so), (a10, aN cI 6 pl), (a11, aN cI 6 ot)] := va_D.same2 [hm, a1, a2, a3, a4, a5, a6, a7, a8, a9, a10, a11] (hD.aa (sz := H0.size)) rfl rfl
  have hS : va_S (Aa [hm, a1, a2, a3, a4, a5, a6, a7, a8, a9, a10, a11] H0.size) H0 H0 [] := va_S.rf
  have hpj := hpic j hj
  rw [hSj] at hpj
  obtain ⟨p1, p2, p3, p4, p5, p6⟩ := hpj.f3
  have hoj := hok j hj
  rw [hSj] at hoj
  have hq := (okS_3.mp hoj).1
  have hhd := (okS_3.mp hoj).2
  have p4n : zs j = nI n := by rw [p4, hhd]
  have hqA : A ≤ 8 := hq.2.1
  have hqB : B ≤ 20 := hq.2.2.2.1
  have h8 := p2_le hqA
  have hl := lv_entry ([.ref hm, .int (nI j), .long x]) (n := 5) (Nat.le_of_ble_eq_true rfl)
  rw [lg_entry_eq]
  generalize (lg_sl ([.ref hm, .int (nI j), .long x]) ++ List.replicate (5 - (lg_sl ([.ref hm, .int (nI j), .long x])).length) Slot.unset).toArray = ls at hl ⊢
  have hl : lv_has ls 5 [(0, .ref hm), (1, .int (nI j)), (2, .long x)] := hl
  refine lv_aload_n hx hb d_M_addOne_0 rfl (lv_at hl 0 rfl) ?_
  refine va_get (D := D) (ci := 4) (v := .ref a1) (C := R_M) (T := T_M) (N := 12) hx hb (us_M G hW) (fun _ h => h) hown hK hP 0 rfl rfl 1 (by decide) (fl_M_7 G hW) (fun _ h9 => h9) rfl d_M_addOne_1 ?_
  refine lv_iload_n hx hb d_M_addOne_4 rfl (lv_at hl 1 rfl) ?_
  refine ia_ld hx hb hK hP 1 (j := j) rfl (hj) (by decide) d_M_addOne_5 ?_
  refine tp_i (y := (nI (ki j))) rfl ?_
  refine tp_i (y := (nI 3)) (by rw [p1]) ?_
  refine lv_iconst (v := (nI 1)) hx hb d_M_addOne_6 (by decide) ?_
  refine lv_icmp_ne (tgt := 20) hx hb d_M_addOne_7 (by decide) (fun c_7 => ?_) (fun c_7 => absurd c_7 (by decide))
  refine lv_aload_n hx hb d_M_addOne_20 rfl (lv_at hl 0 rfl) ?_
  refine va_get (D := D) (ci := 4) (v := .ref a1) (C := R_M) (T := T_M) (N := 12) hx hb (us_M G hW) (fun _ h => h) hown hK hP 0 rfl rfl 1 (by decide) (fl_M_7 G hW) (fun _ h9 => h9) rfl d_M_addOne_21 ?_
  refine lv_iload_n hx hb d_M_addOne_24 rfl (lv_at hl 1 rfl) ?_
  refine ia_ld hx hb hK hP 1 (j := j) rfl (hj) (by decide) d_M_addOne_25 ?_
  refine tp_i (y := (nI (ki j))) rfl ?_
  refine tp_i (y := (nI 3)) (by rw [p1]) ?_
  refine lv_iconst (v := (nI 2)) hx hb d_M_addOne_26 (by decide) ?_
  refine lv_icmp_ne (tgt := 39) hx hb d_M_addOne_27 (by decide) (fun c_27 => ?_) (fun c_27 => absurd c_27 (by decide))
  refine lv_aload_n hx hb d_M_addOne_39 rfl (lv_at hl 0 rfl) ?_
  refine lv_iload_n hx hb d_M_addOne_40 rfl (lv_at hl 1 rfl) ?_
  refine lv_lload_n hx hb d_M_addOne_41 rfl (lv_at hl 2 rfl) ?_
  refine mx_callW (r := .int (bI (decide (n < 2 ^ A)))) (c_M_addPair G hm a1 a2 a3 a4 a5 a6 a7 a8 a9 a10 a11 th ki ka kb zs pu ce pa tr so pl ot j A B n x hP hD hj p2 p3 hq.1 hqA hq.2.2.1 hqB p4n hq.2.2.2.2.1 p6) hW (iv_M_addOne_42 G hx hb hown hW (va_recv hK hP (ci := 4) (q0 := 0) rfl rfl) [.int (nI j), .long x] [] rfl) hml hl.1 (by rw [hb]; exact d_M_addOne_42) (cd_M_addPair G hW) ⟨Nat.le_of_ble_eq_true rfl, Nat.le_of_ble_eq_true rfl⟩ (Nat.le_of_ble_eq_true rfl) (Nat.le_of_ble_eq_true rfl) (Nat.le_of_ble_eq_true rfl) hS (Aa.mono (fun _ h => h) hS.1) (fun H locs hP _ _ hS => ?_)
  have hP : va_P D vcl [(hm, .inr (4, [.int th, .ref a1, .ref a2, .ref a3, .ref a4, .ref a5, .ref a6, .ref a7, .ref a8, .ref a9, .ref a10, .ref a11])), (a1, aN cI 4 ki), (a2, aN cI 4 ka), (a3, aN cI 4 kb), (a4, aI cI 4 zs), (a5, aI cI 4 pu), (a6, aN cI 4096 ce), (a7, aN cI 1024 (if n < 2 ^ A then stO 256 pa (256 * j) (insR (enc B (prN A B x)) n (vw pa (256 * j))) else pa)), (a8, aN cI 1024 tr), (a9, aI cI 256 so), (a10, aN cI 6 pl), (a11, aN cI 6 ot)] H := hP
  have hD : va_D (Aa [hm, a1, a2, a3, a4, a5, a6, a7, a8, a9, a10, a11] H0.size) [(hm, .inr (4, [.int th, .ref a1, .ref a2, .ref a3, .ref a4, .ref a5, .ref a6, .ref a7, .ref a8, .ref a9, .ref a10, .ref a11])), (a1, aN cI 4 ki), (a2, aN cI 4 ka), (a3, aN cI 4 kb), (a4, aI cI 4 zs), (a5, aI cI 4 pu), (a6, aN cI 4096 ce), (a7, aN cI 1024 (if n < 2 ^ A then stO 256 pa (256 * j) (insR (enc B (prN A B x)) n (vw pa (256 * j))) else pa)), (a8, aN cI 1024 tr), (a9, aI cI 256 so), (a10, aN cI 6 pl), (a11, aN cI 6 ot)] := va_D.same2 [hm, a1, a2, a3, a4, a5, a6, a7, a8, a9, a10, a11] hD rfl rfl
  refine lv_istore (lv' := [(4, .int (bI (decide (n < 2 ^ A)))), (0, .ref hm), (1, .int (nI j)), (2, .long x)]) hx hb d_M_addOne_45 hl (by decide) rfl (fun ls hl => ?_)
  refine lv_aload_n hx hb d_M_addOne_47 rfl (lv_at hl 1 rfl) ?_
  refine va_get (D := D) (ci := 4) (v := .ref a4) (C := R_M) (T := T_M) (N := 12) hx hb (us_M G hW) (fun _ h => h) hown hK hP 0 rfl rfl 4 (by decide) (fl_M_19 G hW) (fun _ h9 => h9) rfl d_M_addOne_48 ?_
  refine lv_iload_n hx hb d_M_addOne_51 rfl (lv_at hl 2 rfl) ?_
  refine lv_iload hx hb d_M_addOne_52 (lv_at hl 0 rfl) ?_
  refine lv_if_eq (tgt := 68) hx hb d_M_addOne_54 (by decide) (fun c_54 => ?_) (fun c_54 => ?_)
  · refine lv_aload_n hx hb d_M_addOne_68 rfl (lv_at hl 1 rfl) ?_
    refine va_get (D := D) (ci := 4) (v := .ref a4) (C := R_M) (T := T_M) (N := 12) hx hb (us_M G hW) (fun _ h => h) hown hK hP 0 rfl rfl 4 (by decide) (fl_M_19 G hW) (fun _ h9 => h9) rfl d_M_addOne_69 ?_
    refine lv_iload_n hx hb d_M_addOne_72 rfl (lv_at hl 2 rfl) ?_
    refine ia_ld hx hb hK hP 4 (j := j) rfl (hj) (by decide) d_M_addOne_73 ?_
    refine ia_st hx hb hK hP hD hS 4 (j := j) rfl (hj) (by decide) d_M_addOne_74 (fun H locs hP hD hS => ?_)
    have hP : va_P D vcl [(hm, .inr (4, [.int th, .ref a1, .ref a2, .ref a3, .ref a4, .ref a5, .ref a6, .ref a7, .ref a8, .ref a9, .ref a10, .ref a11])), (a1, aN cI 4 ki), (a2, aN cI 4 ka), (a3, aN cI 4 kb), (a4, aI cI 4 (upd zs j (zs j))), (a5, aI cI 4 pu), (a6, aN cI 4096 ce), (a7, aN cI 1024 (if n < 2 ^ A then stO 256 pa (256 * j) (insR (enc B (prN A B x)) n (vw pa (256 * j))) else pa)), (a8, aN cI 1024 tr), (a9, aI cI 256 so), (a10, aN cI 6 pl), (a11, aN cI 6 ot)] H := hP
    have hD : va_D (Aa [hm, a1, a2, a3, a4, a5, a6, a7, a8, a9, a10, a11] H0.size) [(hm, .inr (4, [.int th, .ref a1, .ref a2, .ref a3, .ref a4, .ref a5, .ref a6, .ref a7, .ref a8, .ref a9, .ref a10, .ref a11])), (a1, aN cI 4 ki), (a2, aN cI 4 ka), (a3, aN cI 4 kb), (a4, aI cI 4 (upd zs j (zs j))), (a5, aI cI 4 pu), (a6, aN cI 4096 ce), (a7, aN cI 1024 (if n < 2 ^ A then stO 256 pa (256 * j) (insR (enc B (prN A B x)) n (vw pa (256 * j))) else pa)), (a8, aN cI 1024 tr), (a9, aI cI 256 so), (a10, aN cI 6 pl), (a11, aN cI 6 ot)] := hD
    refine lv_iload hx hb d_M_addOne_75 (lv_at hl 0 rfl) ?_
    exact mx_zret hx hb hr hlk d_M_addOne_77 (Nat.le_of_ble_eq_true rfl) (Nat.le_of_ble_eq_true rfl) hS.2.2 (bI_nar _) (⟨by rw [hSj, addS_3], by have hft : ¬ n < 2 ^ A := of_decide_eq_false (bI_f c_54); rw [if_neg hft] at hP; exact ⟨ki, ka, kb, _, pu, ce, pa, tr, so, pl, ot, hP, pics_up hpic hok (by rw [hSj, addS_3]; show PicM j (3, A, B, (if n < 2 ^ A then hd + nI 1 else hd), pv, cs, (if n < 2 ^ A then n + 1 else n), (if n < 2 ^ A then insF f n (prN A B x) else f)) _ _ _ _ _ _ _; rw [if_neg hft, if_neg hft, if_neg hft]; exact PicM.k3 p1 p2 p3 (by rw [upd_eq, p4]) p5 p6) id_off id_off id_off upd_off id_off idC idP⟩⟩)
  · refine lv_aload_n hx hb d_M_addOne_57 rfl (lv_at hl 1 rfl) ?_
    refine va_get (D := D) (ci := 4) (v := .ref a4) (C := R_M) (T := T_M) (N := 12) hx hb (us_M G hW) (fun _ h => h) hown hK hP 0 rfl rfl 4 (by decide) (fl_M_19 G hW) (fun _ h9 => h9) rfl d_M_addOne_58 ?_
    refine lv_iload_n hx hb d_M_addOne_61 rfl (lv_at hl 2 rfl) ?_
    refine ia_ld hx hb hK hP 4 (j := j) rfl (hj) (by decide) d_M_addOne_62 ?_
    refine lv_iconst (v := (nI 1)) hx hb d_M_addOne_63 (by decide) ?_
    refine lv_iadd hx hb d_M_addOne_64 ?_
    refine lv_goto (tgt := 74) hx hb d_M_addOne_65 (by decide) ?_
    refine ia_st hx hb hK hP hD hS 4 (j := j) rfl (hj) (by decide) d_M_addOne_74 (fun H locs hP hD hS => ?_)
    have hP : va_P D vcl [(hm, .inr (4, [.int th, .ref a1, .ref a2, .ref a3, .ref a4, .ref a5, .ref a6, .ref a7, .ref a8, .ref a9, .ref a10, .ref a11])), (a1, aN cI 4 ki), (a2, aN cI 4 ka), (a3, aN cI 4 kb), (a4, aI cI 4 (upd zs j ((zs j) + (nI 1)))), (a5, aI cI 4 pu), (a6, aN cI 4096 ce), (a7, aN cI 1024 (if n < 2 ^ A then stO 256 pa (256 * j) (insR (enc B (prN A B x)) n (vw pa (256 * j))) else pa)), (a8, aN cI 1024 tr), (a9, aI cI 256 so), (a10, aN cI 6 pl), (a11, aN cI 6 ot)] H := hP
    have hD : va_D (Aa [hm, a1, a2, a3, a4, a5, a6, a7, a8, a9, a10, a11] H0.size) [(hm, .inr (4, [.int th, .ref a1, .ref a2, .ref a3, .ref a4, .ref a5, .ref a6, .ref a7, .ref a8, .ref a9, .ref a10, .ref a11])), (a1, aN cI 4 ki), (a2, aN cI 4 ka), (a3, aN cI 4 kb), (a4, aI cI 4 (upd zs j ((zs j) + (nI 1)))), (a5, aI cI 4 pu), (a6, aN cI 4096 ce), (a7, aN cI 1024 (if n < 2 ^ A then stO 256 pa (256 * j) (insR (enc B (prN A B x)) n (vw pa (256 * j))) else pa)), (a8, aN cI 1024 tr), (a9, aI cI 256 so), (a10, aN cI 6 pl), (a11, aN cI 6 ot)] := hD
    refine lv_iload hx hb d_M_addOne_75 (lv_at hl 0 rfl) ?_
    exact mx_zret hx hb hr hlk d_M_addOne_77 (Nat.le_of_ble_eq_true rfl) (Nat.le_of_ble_eq_true rfl) hS.2.2 (bI_nar _) (⟨by rw [hSj, addS_3], by have hft : n < 2 ^ A := of_decide_eq_true (bI_t c_54); rw [if_pos hft] at hP; exact ⟨ki, ka, kb, _, pu, ce, _, tr, so, pl, ot, hP, pics_up hpic hok (by rw [hSj, addS_3]; show PicM j (3, A, B, (if n < 2 ^ A then hd + nI 1 else hd), pv, cs, (if n < 2 ^ A then n + 1 else n), (if n < 2 ^ A then insF f n (prN A B x) else f)) _ _ _ _ _ _ _; rw [if_pos hft, if_pos hft, if_pos hft]; exact PicM.k3 p1 p2 p3 (by rw [upd_eq, p4]) (fun i hi => by rw [stO_at (by omega)]; exact ins_enc hqB hq.2.2.2.2.2.1 p5 i (by omega)) (ins_lt (enc_lt hqA hqB (prN_lt hqA hqB x)) (by omega) p6 (srt_enc hqB hq.2.2.2.2.2.1 p5))) id_off id_off id_off upd_off id_off idC offP⟩⟩)

theorem c_M_addOne {l : Launch} {s0 : State} {D : va_G} {cI cF cJ : ClassId} (G : Gx l s0 D cI cF cJ) (hm a1 a2 a3 a4 a5 a6 a7 a8 a9 a10 a11 : Nat) (th : Int32) (S : Nat → FS) (j : Nat) (x : Int64) {H0 : Heap} {A0 : Nat → Prop} (hM : MP D cI hm a1 a2 a3 a4 a5 a6 a7 a8 a9 a10 a11 th S H0) (hD : va_D A0 (adM hm a1 a2 a3 a4 a5 a6 a7 a8 a9 a10 a11)) (hok : ∀ i, i < 4 → okS (S i)) (hj : j < 4) (h0 : (S j).1 ≠ 0) : Mx l s0 y_M_addOne (.code y_M_addOne b_M_addOne 5 (some .boolean)) { frames := 6, cells := 0, slots := 0, locals := 140 } [.ref hm, .int (nI j), .long x] H0 (Aa [hm, a1, a2, a3, a4, a5, a6, a7, a8, a9, a10, a11] H0.size) (Rw (.int (bI (addS (S j) x).1)) (fun H1 => MP D cI hm a1 a2 a3 a4 a5 a6 a7 a8 a9 a10 a11 th (va_up S j (addS (S j) x).2) H1)) := by
  rcases hSj : S j with ⟨kd, A, B, hd, pv, cs, n, f⟩
  rw [← hSj]
  have hoj := hok j hj
  rw [hSj] at hoj h0
  rcases hoj with h9 | h9 | h9 | h9
  · exact absurd h9 h0
  · obtain ⟨rfl, -⟩ := h9; exact c_M_addOne_1 G hm a1 a2 a3 a4 a5 a6 a7 a8 a9 a10 a11 th S j A B n hd pv cs f x hM hD hok hj hSj
  · obtain ⟨rfl, -⟩ := h9; exact c_M_addOne_2 G hm a1 a2 a3 a4 a5 a6 a7 a8 a9 a10 a11 th S j A B n hd pv cs f x hM hD hok hj hSj
  · obtain ⟨rfl, -⟩ := h9; exact c_M_addOne_3 G hm a1 a2 a3 a4 a5 a6 a7 a8 a9 a10 a11 th S j A B n hd pv cs f x hM hD hok hj hSj

theorem c_M_hasM_1 {l : Launch} {s0 : State} {D : va_G} {cI cF cJ : ClassId} (G : Gx l s0 D cI cF cJ) (hm a1 a2 a3 a4 a5 a6 a7 a8 a9 a10 a11 : Nat) (th : Int32) (S : Nat → FS) (j A B n : Nat) (hd pv : Int32) (cs f : Nat → Nat) (x : Int64) {H0 : Heap} {A0 : Nat → Prop} (hM : MP D cI hm a1 a2 a3 a4 a5 a6 a7 a8 a9 a10 a11 th S H0) (hD : va_D A0 (adM hm a1 a2 a3 a4 a5 a6 a7 a8 a9 a10 a11)) (hok : ∀ i, i < 4 → okS (S i)) (hj : j < 4) (hSj : S j = (1, A, B, hd, pv, cs, n, f)) : Mx l s0 y_M_isThere (.code y_M_isThere b_M_isThere 7 (some .boolean)) { frames := 2, cells := 0, slots := 0, locals := 52 } [.ref hm, .int (nI j), .long x] H0 (fun _ => False) (Rd H0 (.int (bI (hasS (S j) x)))) := by
  obtain ⟨ki, ka, kb, zs, pu, ce, pa, tr, so, pl, ot, hP, hpic⟩ := hM
  have hpj := hpic j hj
  rw [hSj] at hpj
  obtain ⟨p1, p2, p3, p4, p5, p6⟩ := hpj.f1
  have hoj := hok j hj
  rw [hSj] at hoj
  have hq := okS_1.mp hoj
  have h9 := c_M_isThere_1 G hm a1 a2 a3 a4 a5 a6 a7 a8 a9 a10 a11 th ki ka kb zs pu ce pa tr so pl ot j A B x hP hj p2 p3 p1 hq.2.1 hq.2.2.2.1 (hq.ce p5)
  rw [isC_agr hq.2.1 p5] at h9
  have h9 := Mx.mono h9 (F' := fun _ => False) (rm' := { frames := 2, cells := 0, slots := 0, locals := 52 }) (Nat.le_of_ble_eq_true rfl) (Nat.le_of_ble_eq_true rfl) (Nat.le_of_ble_eq_true rfl) (Nat.le_of_ble_eq_true rfl) (fun _ h => h) (fun _ _ _ _ h => h)
  rw [hSj]
  exact h9

theorem c_M_hasM_2 {l : Launch} {s0 : State} {D : va_G} {cI cF cJ : ClassId} (G : Gx l s0 D cI cF cJ) (hm a1 a2 a3 a4 a5 a6 a7 a8 a9 a10 a11 : Nat) (th : Int32) (S : Nat → FS) (j A B n : Nat) (hd pv : Int32) (cs f : Nat → Nat) (x : Int64) {H0 : Heap} {A0 : Nat → Prop} (hM : MP D cI hm a1 a2 a3 a4 a5 a6 a7 a8 a9 a10 a11 th S H0) (hD : va_D A0 (adM hm a1 a2 a3 a4 a5 a6 a7 a8 a9 a10 a11)) (hok : ∀ i, i < 4 → okS (S i)) (hj : j < 4) (hSj : S j = (2, A, B, hd, pv, cs, n, f)) : Mx l s0 y_M_isThere (.code y_M_isThere b_M_isThere 7 (some .boolean)) { frames := 2, cells := 0, slots := 0, locals := 52 } [.ref hm, .int (nI j), .long x] H0 (fun _ => False) (Rd H0 (.int (bI (hasS (S j) x)))) := by
  obtain ⟨ki, ka, kb, zs, pu, ce, pa, tr, so, pl, ot, hP, hpic⟩ := hM
  have hpj := hpic j hj
  rw [hSj] at hpj
  obtain ⟨p1, p2, p3, p4, p5, p7, p6⟩ := hpj.f2
  have hoj := hok j hj
  rw [hSj] at hoj
  have hq := okS_2.mp hoj
  have h9 := c_M_isThere_2 G hm a1 a2 a3 a4 a5 a6 a7 a8 a9 a10 a11 th ki ka kb zs pu ce pa tr so pl ot j A B x hP hj p2 p3 p1 hq.2.1 hq.2.2.1 hq.2.2.2.1 (hq.ce p5)
  rw [slotB_agr hq.2.1 p5] at h9
  have h9 := Mx.mono h9 (F' := fun _ => False) (rm' := { frames := 2, cells := 0, slots := 0, locals := 52 }) (Nat.le_of_ble_eq_true rfl) (Nat.le_of_ble_eq_true rfl) (Nat.le_of_ble_eq_true rfl) (Nat.le_of_ble_eq_true rfl) (fun _ h => h) (fun _ _ _ _ h => h)
  rw [hSj]
  exact h9

theorem c_M_hasM_3 {l : Launch} {s0 : State} {D : va_G} {cI cF cJ : ClassId} (G : Gx l s0 D cI cF cJ) (hm a1 a2 a3 a4 a5 a6 a7 a8 a9 a10 a11 : Nat) (th : Int32) (S : Nat → FS) (j A B n : Nat) (hd pv : Int32) (cs f : Nat → Nat) (x : Int64) {H0 : Heap} {A0 : Nat → Prop} (hM : MP D cI hm a1 a2 a3 a4 a5 a6 a7 a8 a9 a10 a11 th S H0) (hD : va_D A0 (adM hm a1 a2 a3 a4 a5 a6 a7 a8 a9 a10 a11)) (hok : ∀ i, i < 4 → okS (S i)) (hj : j < 4) (hSj : S j = (3, A, B, hd, pv, cs, n, f)) : Mx l s0 y_M_isThere (.code y_M_isThere b_M_isThere 7 (some .boolean)) { frames := 2, cells := 0, slots := 0, locals := 52 } [.ref hm, .int (nI j), .long x] H0 (fun _ => False) (Rd H0 (.int (bI (hasS (S j) x)))) := by
  obtain ⟨ki, ka, kb, zs, pu, ce, pa, tr, so, pl, ot, hP, hpic⟩ := hM
  have hpj := hpic j hj
  rw [hSj] at hpj
  obtain ⟨p1, p2, p3, p4, p5, p6⟩ := hpj.f3
  have hoj := hok j hj
  rw [hSj] at hoj
  have hq := (okS_3.mp hoj).1
  have hhd := (okS_3.mp hoj).2
  have p4n : zs j = nI n := by rw [p4, hhd]
  have hqA : A ≤ 8 := hq.2.1
  have hqB : B ≤ 20 := hq.2.2.2.1
  have h9 := c_M_isThere_3 G hm a1 a2 a3 a4 a5 a6 a7 a8 a9 a10 a11 th ki ka kb zs pu ce pa tr so pl ot j A B n x hP hj p2 p3 p1 hq.1 hqA hq.2.2.1 hqB p4n hq.n p6
  rw [has_enc (g := vw pa (256 * j)) hqB hq.2.2.2.2.2.1 p5] at h9
  have h9 := Mx.mono h9 (F' := fun _ => False) (rm' := { frames := 2, cells := 0, slots := 0, locals := 52 }) (Nat.le_of_ble_eq_true rfl) (Nat.le_of_ble_eq_true rfl) (Nat.le_of_ble_eq_true rfl) (Nat.le_of_ble_eq_true rfl) (fun _ h => h) (fun _ _ _ _ h => h)
  rw [hSj]
  have e9 : (if inF f n (prN A B x) then some (lo f (prN A B x) n) else none).isSome = inF f n (prN A B x) := by cases inF f n (prN A B x) <;> rfl
  rw [e9] at h9
  exact h9

theorem c_M_hasM {l : Launch} {s0 : State} {D : va_G} {cI cF cJ : ClassId} (G : Gx l s0 D cI cF cJ) (hm a1 a2 a3 a4 a5 a6 a7 a8 a9 a10 a11 : Nat) (th : Int32) (S : Nat → FS) (j : Nat) (x : Int64) {H0 : Heap} {A0 : Nat → Prop} (hM : MP D cI hm a1 a2 a3 a4 a5 a6 a7 a8 a9 a10 a11 th S H0) (hD : va_D A0 (adM hm a1 a2 a3 a4 a5 a6 a7 a8 a9 a10 a11)) (hok : ∀ i, i < 4 → okS (S i)) (hj : j < 4) (h0 : (S j).1 ≠ 0) : Mx l s0 y_M_isThere (.code y_M_isThere b_M_isThere 7 (some .boolean)) { frames := 2, cells := 0, slots := 0, locals := 52 } [.ref hm, .int (nI j), .long x] H0 (fun _ => False) (Rd H0 (.int (bI (hasS (S j) x)))) := by
  rcases hSj : S j with ⟨kd, A, B, hd, pv, cs, n, f⟩
  rw [← hSj]
  have hoj := hok j hj
  rw [hSj] at hoj h0
  rcases hoj with h9 | h9 | h9 | h9
  · exact absurd h9 h0
  · obtain ⟨rfl, -⟩ := h9; exact c_M_hasM_1 G hm a1 a2 a3 a4 a5 a6 a7 a8 a9 a10 a11 th S j A B n hd pv cs f x hM hD hok hj hSj
  · obtain ⟨rfl, -⟩ := h9; exact c_M_hasM_2 G hm a1 a2 a3 a4 a5 a6 a7 a8 a9 a10 a11 th S j A B n hd pv cs f x hM hD hok hj hSj
  · obtain ⟨rfl, -⟩ := h9; exact c_M_hasM_3 G hm a1 a2 a3 a4 a5 a6 a7 a8 a9 a10 a11 th S j A B n hd pv cs f x hM hD hok hj hSj

theorem c_M_wrg {l : Launch} {s0 : State} {D : va_G} {cI cF cJ : ClassId} (G : Gx l s0 D cI cF cJ) (hm a1 a2 a3 a4 a5 a6 a7 a8 a9 a10 a11 : Nat) (th : Int32) (S : Nat → FS) (j : Nat) {H0 : Heap} {A0 : Nat → Prop} (hM : MP D cI hm a1 a2 a3 a4 a5 a6 a7 a8 a9 a10 a11 th S H0) (hD : va_D A0 (adM hm a1 a2 a3 a4 a5 a6 a7 a8 a9 a10 a11)) (hok : ∀ i, i < 4 → okS (S i)) (hj : j < 4) : Mx l s0 y_M_wrong (.code y_M_wrong b_M_wrong 2 (some .int)) { frames := 1, cells := 0, slots := 0, locals := 20 } [.ref hm, .int (nI j)] H0 (fun _ => False) (Rd H0 (.int (nI (if (S j).1 = 0 then 2 else 0)))) := by
  obtain ⟨ki, ka, kb, zs, pu, ce, pa, tr, so, pl, ot, hP, hpic⟩ := hM
  have h9 := (hpic j hj).ki
  rw [← h9]
  exact c_M_wrong G hm a1 a2 a3 a4 a5 a6 a7 a8 a9 a10 a11 th ki ka kb zs pu ce pa tr so pl ot j hP hj (by rw [h9]; exact (hok j hj).k3)
