theorem sameS_1 {A B n : Nat} {hd pu : Int32} {cs f : Nat → Nat} {x y : Int64} : sameS (1, A, B, hd, pu, cs, n, f) x y = allN (sameC (plx A x) (plx A y) B) B := by
  show (if 1 = 1 then allN (sameC (plx A x) (plx A y) B) B else if 1 = 2 then sameB A B x y else decide (prN A B x = prN A B y)) = _
  rw [if_pos rfl]
theorem sameS_2 {A B n : Nat} {hd pu : Int32} {cs f : Nat → Nat} {x y : Int64} : sameS (2, A, B, hd, pu, cs, n, f) x y = sameB A B x y := by
  show (if 2 = 1 then allN (sameC (plx A x) (plx A y) B) B else if 2 = 2 then sameB A B x y else decide (prN A B x = prN A B y)) = _
  rw [if_neg (by decide), if_pos rfl]
theorem sameS_3 {A B n : Nat} {hd pu : Int32} {cs f : Nat → Nat} {x y : Int64} : sameS (3, A, B, hd, pu, cs, n, f) x y = decide (prN A B x = prN A B y) := by
  show (if 3 = 1 then allN (sameC (plx A x) (plx A y) B) B else if 3 = 2 then sameB A B x y else decide (prN A B x = prN A B y)) = _
  rw [if_neg (by decide), if_neg (by decide)]
theorem cnt_no {v : Int32} (hw : v.toInt < 0 ∨ 5 < v.toInt) (h0 : ¬ v < 0) (h : v ≤ nI 5) : False := by
  rw [Int32.lt_iff_toInt_lt] at h0
  rw [Int32.le_iff_toInt_le, show (nI 5).toInt = 5 by decide] at h
  rw [show (0 : Int32).toInt = 0 by decide] at h0
  omega

set_option maxHeartbeats 4000000 in
set_option maxRecDepth 100000 in
theorem c_M_same_3 {l : Launch} {s0 : State} {D : va_G} {cI cF cJ : ClassId} (G : Gx l s0 D cI cF cJ) (hm a1 a2 a3 a4 a5 a6 a7 a8 a9 a10 a11 : Nat) (th : Int32) (S : Nat → FS) (j A B n : Nat) (hd pv : Int32) (cs f : Nat → Nat) (x y : Int64) {H0 : Heap} {A0 : Nat → Prop} (hM : MP D cI hm a1 a2 a3 a4 a5 a6 a7 a8 a9 a10 a11 th S H0) (hD : va_D A0 (adM hm a1 a2 a3 a4 a5 a6 a7 a8 a9 a10 a11)) (hok : ∀ i, i < 4 → okS (S i)) (hj : j < 4) (hSj : S j = (3, A, B, hd, pv, cs, n, f)) : Mx l s0 y_M_same (.code y_M_same b_M_same 9 (some .boolean)) { frames := 7, cells := 0, slots := 0, locals := 170 } [.ref hm, .int (nI j), .long x, .long y] H0 (Aa [hm, a1, a2, a3, a4, a5, a6, a7, a8, a9, a10, a11] H0.size) (Rw (.int (bI (sameS (S j) x y))) (fun H1 => MP D cI hm a1 a2 a3 a4 a5 a6 a7 a8 a9 a10 a11 (nI 0) S H1)) := by
  refine Mx.ofW (own := "FewBitsModel") rfl rfl ?_
  rintro p e s m below meth c ⟨hx, hb, hml, hr, hown, hW, hlk⟩ hnm het hH
  have hK := G.k hW
  have hD0 := hD
  obtain ⟨ki, ka, kb, zs, pu, ce, pa, tr, so, pl, ot, hP, hpic⟩ := hM
  have hD : va_D (Aa [hm, a1, a2, a3, a4, a5, a6, a7, a8, a9, a10, a11] H0.size) [(hm, .inr (4, [.int th, .ref a1, .ref a2, .ref a3, .ref a4, .ref a5, .ref a6, .ref a7, .ref a8, .ref a9, .ref a10, .ref a11])), (a1, aN cI 4 ki), (a2, aN cI 4 ka), (a3, aN cI 4 kb), (a4, aI cI 4 zs), (a5, aI cI 4 pu), (a6, aN cI 4096 ce), (a7, aN cI 1024 pa), (a8, aN cI 1024 tr), (a9, aI cI 256 so), (a10, aN cI 6 pl), (a11, aN cI 6 ot)] := va_D.same2 [hm, a1, a2, a3, a4, a5, a6, a7, a8, a9, a10, a11] (hD.aa (sz := H0.size)) rfl rfl
  have hS : va_S (Aa [hm, a1, a2, a3, a4, a5, a6, a7, a8, a9, a10, a11] H0.size) H0 H0 [] := va_S.rf
  have hpj := hpic j hj
  rw [hSj] at hpj
  obtain ⟨p1, p2, p3, p4, p5, p6⟩ := hpj.f3
  have hoj := hok j hj
  rw [hSj] at hoj
  have hq := (okS_3.mp hoj).1
  have hhd := (okS_3.mp hoj).2
  have p4n : zs j = nI n := by rw [p4, hhd]
  have hqA : A ≤ 8 := hq.2.1
  have hqB : B ≤ 20 := hq.2.2.2.1
  have h0 : (S j).1 ≠ 0 := by rw [hSj]; exact (by decide : 3 ≠ 0)
  have h8 := p2_le hqA
  have hnn := hq.n
  have hsr := hq.2.2.2.2.2.1
  have hl := lv_entry ([.ref hm, .int (nI j), .long x, .long y]) (n := 9) (Nat.le_of_ble_eq_true rfl)
  rw [lg_entry_eq]
  generalize (lg_sl ([.ref hm, .int (nI j), .long x, .long y]) ++ List.replicate (9 - (lg_sl ([.ref hm, .int (nI j), .long x, .long y])).length) Slot.unset).toArray = ls at hl ⊢
  have hl : lv_has ls 9 [(0, .ref hm), (1, .int (nI j)), (2, .long x), (4, .long y)] := hl
  refine lv_aload_n hx hb d_M_same_0 rfl (lv_at hl 0 rfl) ?_
  refine lv_aload_n hx hb d_M_same_1 rfl (lv_at hl 0 rfl) ?_
  refine lv_iload_n hx hb d_M_same_2 rfl (lv_at hl 1 rfl) ?_
  refine mx_callR (r := .int (nI (if (S j).1 = 0 then 2 else 0))) (c_M_wrg G hm a1 a2 a3 a4 a5 a6 a7 a8 a9 a10 a11 th S j ⟨ki, ka, kb, zs, pu, ce, pa, tr, so, pl, ot, hP, hpic⟩ hD0 hok hj) hW (iv_M_same_3 G hx hb hown hW (va_recv hK hP (ci := 4) (q0 := 0) rfl rfl) [.int (nI j)] [.ref hm] rfl) hml hl.1 (by rw [hb]; exact d_M_same_3) (cd_M_wrong G hW) ⟨Nat.le_of_ble_eq_true rfl, Nat.le_of_ble_eq_true rfl⟩ rfl rfl (Nat.le_of_ble_eq_true rfl) (Nat.le_of_ble_eq_true rfl) (Nat.le_of_ble_eq_true rfl) ?_
  refine tp_i (y := (nI 0)) (by rw [if_neg h0]) ?_
  refine va_put (D := D) (ci := 4) (v := .int (nI 0)) (ty := .int) (C := R_M) (T := T_M) (N := 12) hx hb (us_M G hW) (fun _ h => h) t_M to_M nm_M hown hK hP hD hS 0 rfl rfl 0 (by decide) (fl_M_43 G hW) (fun _ h9 => h9) rfl (by decide +kernel) rfl rfl (Nat.le_of_ble_eq_true rfl) d_M_same_6 (fun H locs hP hD hS => ?_)
  have hP : va_P D vcl [(hm, .inr (4, [.int (nI 0), .ref a1, .ref a2, .ref a3, .ref a4, .ref a5, .ref a6, .ref a7, .ref a8, .ref a9, .ref a10, .ref a11])), (a1, aN cI 4 ki), (a2, aN cI 4 ka), (a3, aN cI 4 kb), (a4, aI cI 4 zs), (a5, aI cI 4 pu), (a6, aN cI 4096 ce), (a7, aN cI 1024 pa), (a8, aN cI 1024 tr), (a9, aI cI 256 so), (a10, aN cI 6 pl), (a11, aN cI 6 ot)] H := hP
  have hD : va_D (Aa [hm, a1, a2, a3, a4, a5, a6, a7, a8, a9, a10, a11] H0.size) [(hm, .inr (4, [.int (nI 0), .ref a1, .ref a2, .ref a3, .ref a4, .ref a5, .ref a6, .ref a7, .ref a8, .ref a9, .ref a10, .ref a11])), (a1, aN cI 4 ki), (a2, aN cI 4 ka), (a3, aN cI 4 kb), (a4, aI cI 4 zs), (a5, aI cI 4 pu), (a6, aN cI 4096 ce), (a7, aN cI 1024 pa), (a8, aN cI 1024 tr), (a9, aI cI 256 so), (a10, aN cI 6 pl), (a11, aN cI 6 ot)] := hD
  refine lv_aload_n hx hb d_M_same_9 rfl (lv_at hl 0 rfl) ?_
  refine va_get (D := D) (ci := 4) (v := .int (nI 0)) (C := R_M) (T := T_M) (N := 12) hx hb (us_M G hW) (fun _ h => h) hown hK hP 0 rfl rfl 0 (by decide) (fl_M_43 G hW) (fun _ h9 => h9) rfl d_M_same_10 ?_
  refine lv_if_le (tgt := 18) hx hb d_M_same_13 (by decide) (fun c_13 => ?_) (fun c_13 => absurd (by decide) c_13)
  refine lv_aload_n hx hb d_M_same_18 rfl (lv_at hl 0 rfl) ?_
  refine va_get (D := D) (ci := 4) (v := .ref a1) (C := R_M) (T := T_M) (N := 12) hx hb (us_M G hW) (fun _ h => h) hown hK hP 0 rfl rfl 1 (by decide) (fl_M_7 G hW) (fun _ h9 => h9) rfl d_M_same_19 ?_
  refine lv_iload_n hx hb d_M_same_22 rfl (lv_at hl 1 rfl) ?_
  refine ia_ld hx hb hK hP 1 (j := j) rfl (hj) (by decide) d_M_same_23 ?_
  refine tp_i (y := (nI (ki j))) rfl ?_
  refine tp_i (y := (nI 3)) (by rw [p1]) ?_
  refine lv_iconst (v := (nI 3)) hx hb d_M_same_24 (by decide) ?_
  refine lv_icmp_ne (tgt := 50) hx hb d_M_same_25 (by decide) (fun c_25 => absurd (rfl) c_25) (fun c_25 => ?_)
  refine lv_aload_n hx hb d_M_same_28 rfl (lv_at hl 0 rfl) ?_
  refine lv_iload_n hx hb d_M_same_29 rfl (lv_at hl 1 rfl) ?_
  refine lv_lload_n hx hb d_M_same_30 rfl (lv_at hl 2 rfl) ?_
  refine mx_callR (r := .int (nI (enc B (prN A B x)))) (c_M_pair G hm a1 a2 a3 a4 a5 a6 a7 a8 a9 a10 a11 (nI 0) ki ka kb zs pu ce pa tr so pl ot j A B x hP hj p2 p3 hq.1 hqA hq.2.2.1 hqB) hW (iv_M_same_31 G hx hb hown hW (va_recv hK hP (ci := 4) (q0 := 0) rfl rfl) [.int (nI j), .long x] [] rfl) hml hl.1 (by rw [hb]; exact d_M_same_31) (cd_M_pair G hW) ⟨Nat.le_of_ble_eq_true rfl, Nat.le_of_ble_eq_true rfl⟩ rfl rfl (Nat.le_of_ble_eq_true rfl) (Nat.le_of_ble_eq_true rfl) (Nat.le_of_ble_eq_true rfl) ?_
  refine lv_aload_n hx hb d_M_same_34 rfl (lv_at hl 0 rfl) ?_
  refine lv_iload_n hx hb d_M_same_35 rfl (lv_at hl 1 rfl) ?_
  refine lv_lload hx hb d_M_same_36 (lv_at hl 3 rfl) ?_
  refine mx_callR (r := .int (nI (enc B (prN A B y)))) (c_M_pair G hm a1 a2 a3 a4 a5 a6 a7 a8 a9 a10 a11 (nI 0) ki ka kb zs pu ce pa tr so pl ot j A B y hP hj p2 p3 hq.1 hqA hq.2.2.1 hqB) hW (iv_M_same_38 G hx hb hown hW (va_recv hK hP (ci := 4) (q0 := 0) rfl rfl) [.int (nI j), .long y] [.int (nI (enc B (prN A B x)))] rfl) hml hl.1 (by rw [hb]; exact d_M_same_38) (cd_M_pair G hW) ⟨Nat.le_of_ble_eq_true rfl, Nat.le_of_ble_eq_true rfl⟩ rfl rfl (Nat.le_of_ble_eq_true rfl) (Nat.le_of_ble_eq_true rfl) (Nat.le_of_ble_eq_true rfl) ?_
  refine lv_icmp_ne (tgt := 48) hx hb d_M_same_41 (by decide) (fun c_41 => ?_) (fun c_41 => ?_)
  · refine lv_iconst (v := (nI 0)) hx hb d_M_same_48 (by decide) ?_
    exact mx_zret hx hb hr hlk d_M_same_49 (Nat.le_of_ble_eq_true rfl) (Nat.le_of_ble_eq_true rfl) hS.2.2 (rfl) (⟨by rw [hSj, sameS_3, decide_eq_false (fun h9 => c_41 (by rw [h9]))]; rfl, ki, ka, kb, zs, pu, ce, pa, tr, so, pl, ot, hP, hpic⟩)
  · refine lv_iconst (v := (nI 1)) hx hb d_M_same_44 (by decide) ?_
    refine lv_goto (tgt := 49) hx hb d_M_same_45 (by decide) ?_
    exact mx_zret hx hb hr hlk d_M_same_49 (Nat.le_of_ble_eq_true rfl) (Nat.le_of_ble_eq_true rfl) hS.2.2 (rfl) (⟨by rw [hSj, sameS_3, decide_eq_true ((enc_inj hqB).mp ((nI_eq (by have := enc_lt hqA hqB (prN_lt hqA hqB x); omega) (by have := enc_lt hqA hqB (prN_lt hqA hqB y); omega)).mp c_41))]; rfl, ki, ka, kb, zs, pu, ce, pa, tr, so, pl, ot, hP, hpic⟩)

set_option maxHeartbeats 4000000 in
set_option maxRecDepth 100000 in
theorem c_M_same_2 {l : Launch} {s0 : State} {D : va_G} {cI cF cJ : ClassId} (G : Gx l s0 D cI cF cJ) (hm a1 a2 a3 a4 a5 a6 a7 a8 a9 a10 a11 : Nat) (th : Int32) (S : Nat → FS) (j A B n : Nat) (hd pv : Int32) (cs f : Nat → Nat) (x y : Int64) {H0 : Heap} {A0 : Nat → Prop} (hM : MP D cI hm a1 a2 a3 a4 a5 a6 a7 a8 a9 a10 a11 th S H0) (hD : va_D A0 (adM hm a1 a2 a3 a4 a5 a6 a7 a8 a9 a10 a11)) (hok : ∀ i, i < 4 → okS (S i)) (hj : j < 4) (hSj : S j = (2, A, B, hd, pv, cs, n, f)) : Mx l s0 y_M_same (.code y_M_same b_M_same 9 (some .boolean)) { frames := 7, cells := 0, slots := 0, locals := 170 } [.ref hm, .int (nI j), .long x, .long y] H0 (Aa [hm, a1, a2, a3, a4, a5, a6, a7, a8, a9, a10, a11] H0.size) (Rw (.int (bI (sameS (S j) x y))) (fun H1 => MP D cI hm a1 a2 a3 a4 a5 a6 a7 a8 a9 a10 a11 (nI 0) S H1)) := by
  refine Mx.ofW (own := "FewBitsModel") rfl rfl ?_
  rintro p e s m below meth c ⟨hx, hb, hml, hr, hown, hW, hlk⟩ hnm het hH
  have hK := G.k hW
  have hD0 := hD
  obtain ⟨ki, ka, kb, zs, pu, ce, pa, tr, so, pl, ot, hP, hpic⟩ := hM
  have hD : va_D (Aa [hm, a1, a2, a3, a4, a5, a6, a7, a8, a9, a10, a11] H0.size) [(hm, .inr (4, [.int th, .ref a1, .ref a2, .ref a3, .ref a4, .ref a5, .ref a6, .ref a7, .ref a8, .ref a9, .ref a10, .ref a11])), (a1, aN cI 4 ki), (a2, aN cI 4 ka), (a3, aN cI 4 kb), (a4, aI cI 4 zs), (a5, aI cI 4 pu), (a6, aN cI 4096 ce), (a7, aN cI 1024 pa), (a8, aN cI 1024 tr), (a9, aI cI 256 so), (a10, aN cI 6 pl), (a11, aN cI 6 ot)] := va_D.same2 [hm, a1, a2, a3, a4, a5, a6, a7, a8, a9, a10, a11] (hD.aa (sz := H0.size)) rfl rfl
  have hS : va_S (Aa [hm, a1, a2, a3, a4, a5, a6, a7, a8, a9, a10, a11] H0.size) H0 H0 [] := va_S.rf
  have hpj := hpic j hj
  rw [hSj] at hpj
  obtain ⟨p1, p2, p3, p4, p5, p7, p6⟩ := hpj.f2
  have hoj := hok j hj
  rw [hSj] at hoj
  have hq := okS_2.mp hoj
  have h0 : (S j).1 ≠ 0 := by rw [hSj]; exact (by decide : 2 ≠ 0)
  have hA : A ≤ 8 := hq.2.1
  have hB4 : 4 ≤ B := hq.2.2.1
  have hB : B ≤ 16 := hq.2.2.2.1
  have hs := hq.ce p5
  have h8 := p2_le hA
  have hl := lv_entry ([.ref hm, .int (nI j), .long x, .long y]) (n := 9) (Nat.le_of_ble_eq_true rfl)
  rw [lg_entry_eq]
  generalize (lg_sl ([.ref hm, .int (nI j), .long x, .long y]) ++ List.replicate (9 - (lg_sl ([.ref hm, .int (nI j), .long x, .long y])).length) Slot.unset).toArray = ls at hl ⊢
  have hl : lv_has ls 9 [(0, .ref hm), (1, .int (nI j)), (2, .long x), (4, .long y)] := hl
  refine lv_aload_n hx hb d_M_same_0 rfl (lv_at hl 0 rfl) ?_
  refine lv_aload_n hx hb d_M_same_1 rfl (lv_at hl 0 rfl) ?_
  refine lv_iload_n hx hb d_M_same_2 rfl (lv_at hl 1 rfl) ?_
  refine mx_callR (r := .int (nI (if (S j).1 = 0 then 2 else 0))) (c_M_wrg G hm a1 a2 a3 a4 a5 a6 a7 a8 a9 a10 a11 th S j ⟨ki, ka, kb, zs, pu, ce, pa, tr, so, pl, ot, hP, hpic⟩ hD0 hok hj) hW (iv_M_same_3 G hx hb hown hW (va_recv hK hP (ci := 4) (q0 := 0) rfl rfl) [.int (nI j)] [.ref hm] rfl) hml hl.1 (by rw [hb]; exact d_M_same_3) (cd_M_wrong G hW) ⟨Nat.le_of_ble_eq_true rfl, Nat.le_of_ble_eq_true rfl⟩ rfl rfl (Nat.le_of_ble_eq_true rfl) (Nat.le_of_ble_eq_true rfl) (Nat.le_of_ble_eq_true rfl) ?_
  refine tp_i (y := (nI 0)) (by rw [if_neg h0]) ?_
  refine va_put (D := D) (ci := 4) (v := .int (nI 0)) (ty := .int) (C := R_M) (T := T_M) (N := 12) hx hb (us_M G hW) (fun _ h => h) t_M to_M nm_M hown hK hP hD hS 0 rfl rfl 0 (by decide) (fl_M_43 G hW) (fun _ h9 => h9) rfl (by decide +kernel) rfl rfl (Nat.le_of_ble_eq_true rfl) d_M_same_6 (fun H locs hP hD hS => ?_)
  have hP : va_P D vcl [(hm, .inr (4, [.int (nI 0), .ref a1, .ref a2, .ref a3, .ref a4, .ref a5, .ref a6, .ref a7, .ref a8, .ref a9, .ref a10, .ref a11])), (a1, aN cI 4 ki), (a2, aN cI 4 ka), (a3, aN cI 4 kb), (a4, aI cI 4 zs), (a5, aI cI 4 pu), (a6, aN cI 4096 ce), (a7, aN cI 1024 pa), (a8, aN cI 1024 tr), (a9, aI cI 256 so), (a10, aN cI 6 pl), (a11, aN cI 6 ot)] H := hP
  have hD : va_D (Aa [hm, a1, a2, a3, a4, a5, a6, a7, a8, a9, a10, a11] H0.size) [(hm, .inr (4, [.int (nI 0), .ref a1, .ref a2, .ref a3, .ref a4, .ref a5, .ref a6, .ref a7, .ref a8, .ref a9, .ref a10, .ref a11])), (a1, aN cI 4 ki), (a2, aN cI 4 ka), (a3, aN cI 4 kb), (a4, aI cI 4 zs), (a5, aI cI 4 pu), (a6, aN cI 4096 ce), (a7, aN cI 1024 pa), (a8, aN cI 1024 tr), (a9, aI cI 256 so), (a10, aN cI 6 pl), (a11, aN cI 6 ot)] := hD
  refine lv_aload_n hx hb d_M_same_9 rfl (lv_at hl 0 rfl) ?_
  refine va_get (D := D) (ci := 4) (v := .int (nI 0)) (C := R_M) (T := T_M) (N := 12) hx hb (us_M G hW) (fun _ h => h) hown hK hP 0 rfl rfl 0 (by decide) (fl_M_43 G hW) (fun _ h9 => h9) rfl d_M_same_10 ?_
  refine lv_if_le (tgt := 18) hx hb d_M_same_13 (by decide) (fun c_13 => ?_) (fun c_13 => absurd (by decide) c_13)
  refine lv_aload_n hx hb d_M_same_18 rfl (lv_at hl 0 rfl) ?_
  refine va_get (D := D) (ci := 4) (v := .ref a1) (C := R_M) (T := T_M) (N := 12) hx hb (us_M G hW) (fun _ h => h) hown hK hP 0 rfl rfl 1 (by decide) (fl_M_7 G hW) (fun _ h9 => h9) rfl d_M_same_19 ?_
  refine lv_iload_n hx hb d_M_same_22 rfl (lv_at hl 1 rfl) ?_
  refine ia_ld hx hb hK hP 1 (j := j) rfl (hj) (by decide) d_M_same_23 ?_
  refine tp_i (y := (nI (ki j))) rfl ?_
  refine tp_i (y := (nI 2)) (by rw [p1]) ?_
  refine lv_iconst (v := (nI 3)) hx hb d_M_same_24 (by decide) ?_
  refine lv_icmp_ne (tgt := 50) hx hb d_M_same_25 (by decide) (fun c_25 => ?_) (fun c_25 => absurd c_25 (by decide))
  refine lv_aload_n hx hb d_M_same_50 rfl (lv_at hl 0 rfl) ?_
  refine va_get (D := D) (ci := 4) (v := .ref a1) (C := R_M) (T := T_M) (N := 12) hx hb (us_M G hW) (fun _ h => h) hown hK hP 0 rfl rfl 1 (by decide) (fl_M_7 G hW) (fun _ h9 => h9) rfl d_M_same_51 ?_
  refine lv_iload_n hx hb d_M_same_54 rfl (lv_at hl 1 rfl) ?_
  refine ia_ld hx hb hK hP 1 (j := j) rfl (hj) (by decide) d_M_same_55 ?_
  refine tp_i (y := (nI (ki j))) rfl ?_
  refine tp_i (y := (nI 2)) (by rw [p1]) ?_
  refine lv_iconst (v := (nI 2)) hx hb d_M_same_56 (by decide) ?_
  refine lv_icmp_ne (tgt := 124) hx hb d_M_same_57 (by decide) (fun c_57 => absurd (rfl) c_57) (fun c_57 => ?_)
  refine lv_aload_n hx hb d_M_same_60 rfl (lv_at hl 0 rfl) ?_
  refine lv_iload_n hx hb d_M_same_61 rfl (lv_at hl 1 rfl) ?_
  refine lv_lload_n hx hb d_M_same_62 rfl (lv_at hl 2 rfl) ?_
  refine mx_callR (r := .int (nI (fpN B x))) (c_M_fingerprint G hm a1 a2 a3 a4 a5 a6 a7 a8 a9 a10 a11 (nI 0) ki ka kb zs pu ce pa tr so pl ot j A B x hP hj p2 p3 hB4 hB) hW (iv_M_same_63 G hx hb hown hW (va_recv hK hP (ci := 4) (q0 := 0) rfl rfl) [.int (nI j), .long x] [] rfl) hml hl.1 (by rw [hb]; exact d_M_same_63) (cd_M_fingerprint G hW) ⟨Nat.le_of_ble_eq_true rfl, Nat.le_of_ble_eq_true rfl⟩ rfl rfl (Nat.le_of_ble_eq_true rfl) (Nat.le_of_ble_eq_true rfl) (Nat.le_of_ble_eq_true rfl) ?_
  refine lv_istore (lv' := [(6, .int (nI (fpN B x))), (0, .ref hm), (1, .int (nI j)), (2, .long x), (4, .long y)]) hx hb d_M_same_66 hl (by decide) rfl (fun ls hl => ?_)
  refine lv_aload_n hx hb d_M_same_68 rfl (lv_at hl 1 rfl) ?_
  refine lv_iload_n hx hb d_M_same_69 rfl (lv_at hl 2 rfl) ?_
  refine lv_lload_n hx hb d_M_same_70 rfl (lv_at hl 3 rfl) ?_
  refine mx_callR (r := .int (nI (fbN A x))) (c_M_firstBucket G hm a1 a2 a3 a4 a5 a6 a7 a8 a9 a10 a11 (nI 0) ki ka kb zs pu ce pa tr so pl ot j A B x hP hj p2 p3 (by omega)) hW (iv_M_same_71 G hx hb hown hW (va_recv hK hP (ci := 4) (q0 := 0) rfl rfl) [.int (nI j), .long x] [] rfl) hml hl.1 (by rw [hb]; exact d_M_same_71) (cd_M_firstBucket G hW) ⟨Nat.le_of_ble_eq_true rfl, Nat.le_of_ble_eq_true rfl⟩ rfl rfl (Nat.le_of_ble_eq_true rfl) (Nat.le_of_ble_eq_true rfl) (Nat.le_of_ble_eq_true rfl) ?_
  refine lv_istore (lv' := [(7, .int (nI (fbN A x))), (6, .int (nI (fpN B x))), (0, .ref hm), (1, .int (nI j)), (2, .long x), (4, .long y)]) hx hb d_M_same_74 hl (by decide) rfl (fun ls hl => ?_)
  refine lv_aload_n hx hb d_M_same_76 rfl (lv_at hl 2 rfl) ?_
  refine lv_iload_n hx hb d_M_same_77 rfl (lv_at hl 3 rfl) ?_
  refine lv_lload hx hb d_M_same_78 (lv_at hl 5 rfl) ?_
  refine mx_callR (r := .int (nI (fbN A y))) (c_M_firstBucket G hm a1 a2 a3 a4 a5 a6 a7 a8 a9 a10 a11 (nI 0) ki ka kb zs pu ce pa tr so pl ot j A B y hP hj p2 p3 (by omega)) hW (iv_M_same_80 G hx hb hown hW (va_recv hK hP (ci := 4) (q0 := 0) rfl rfl) [.int (nI j), .long y] [] rfl) hml hl.1 (by rw [hb]; exact d_M_same_80) (cd_M_firstBucket G hW) ⟨Nat.le_of_ble_eq_true rfl, Nat.le_of_ble_eq_true rfl⟩ rfl rfl (Nat.le_of_ble_eq_true rfl) (Nat.le_of_ble_eq_true rfl) (Nat.le_of_ble_eq_true rfl) ?_
  refine lv_istore (lv' := [(8, .int (nI (fbN A y))), (7, .int (nI (fbN A x))), (6, .int (nI (fpN B x))), (0, .ref hm), (1, .int (nI j)), (2, .long x), (4, .long y)]) hx hb d_M_same_83 hl (by decide) rfl (fun ls hl => ?_)
  refine lv_iload hx hb d_M_same_85 (lv_at hl 2 rfl) ?_
  refine lv_aload_n hx hb d_M_same_87 rfl (lv_at hl 3 rfl) ?_
  refine lv_iload_n hx hb d_M_same_88 rfl (lv_at hl 4 rfl) ?_
  refine lv_lload hx hb d_M_same_89 (lv_at hl 6 rfl) ?_
  refine mx_callR (r := .int (nI (fpN B y))) (c_M_fingerprint G hm a1 a2 a3 a4 a5 a6 a7 a8 a9 a10 a11 (nI 0) ki ka kb zs pu ce pa tr so pl ot j A B y hP hj p2 p3 hB4 hB) hW (iv_M_same_91 G hx hb hown hW (va_recv hK hP (ci := 4) (q0 := 0) rfl rfl) [.int (nI j), .long y] [.int (nI (fpN B x))] rfl) hml hl.1 (by rw [hb]; exact d_M_same_91) (cd_M_fingerprint G hW) ⟨Nat.le_of_ble_eq_true rfl, Nat.le_of_ble_eq_true rfl⟩ rfl rfl (Nat.le_of_ble_eq_true rfl) (Nat.le_of_ble_eq_true rfl) (Nat.le_of_ble_eq_true rfl) ?_
  refine lv_icmp_ne (tgt := 122) hx hb d_M_same_94 (by decide) (fun c_94 => ?_) (fun c_94 => ?_)
  · refine lv_iconst (v := (nI 0)) hx hb d_M_same_122 (by decide) ?_
    exact mx_zret hx hb hr hlk d_M_same_123 (Nat.le_of_ble_eq_true rfl) (Nat.le_of_ble_eq_true rfl) hS.2.2 (rfl) (⟨by rw [hSj]; rw [sameS_2]; unfold sameB; rw [decide_eq_false (show ¬ fpN B x = fpN B y from fun h9 => c_94 (by rw [h9]))]; rfl, ki, ka, kb, zs, pu, ce, pa, tr, so, pl, ot, hP, hpic⟩)
  · refine lv_iload hx hb d_M_same_97 (lv_at hl 1 rfl) ?_
    refine lv_iload hx hb d_M_same_99 (lv_at hl 0 rfl) ?_
    refine lv_icmp_eq (tgt := 118) hx hb d_M_same_101 (by decide) (fun c_101 => ?_) (fun c_101 => ?_)
    · refine lv_iconst (v := (nI 1)) hx hb d_M_same_118 (by decide) ?_
      refine lv_goto (tgt := 123) hx hb d_M_same_119 (by decide) ?_
      exact mx_zret hx hb hr hlk d_M_same_123 (Nat.le_of_ble_eq_true rfl) (Nat.le_of_ble_eq_true rfl) hS.2.2 (rfl) (⟨by rw [hSj]; rw [sameS_2]; unfold sameB; rw [decide_eq_true ((nI_eq (by have := fpN_lt hB4 hB x; omega) (by have := fpN_lt hB4 hB y; omega)).mp c_94), decide_eq_true ((nI_eq (by have := fbN_lt A x; omega) (by have := fbN_lt A y; omega)).mp c_101)]; rfl, ki, ka, kb, zs, pu, ce, pa, tr, so, pl, ot, hP, hpic⟩)
    · refine lv_aload_n hx hb d_M_same_104 rfl (lv_at hl 3 rfl) ?_
      refine lv_iload_n hx hb d_M_same_105 rfl (lv_at hl 4 rfl) ?_
      refine lv_iload hx hb d_M_same_106 (lv_at hl 2 rfl) ?_
      refine lv_iload hx hb d_M_same_108 (lv_at hl 1 rfl) ?_
      refine mx_callR (r := .int (nI (obN A (fbN A x) (fpN B x)))) (c_M_otherBucket G hm a1 a2 a3 a4 a5 a6 a7 a8 a9 a10 a11 (nI 0) ki ka kb zs pu ce pa tr so pl ot j A B (fbN A x) (fpN B x) hP hj p2 p3 (by omega)) hW (iv_M_same_110 G hx hb hown hW (va_recv hK hP (ci := 4) (q0 := 0) rfl rfl) [.int (nI j), .int (nI (fpN B x)), .int (nI (fbN A x))] [] rfl) hml hl.1 (by rw [hb]; exact d_M_same_110) (cd_M_otherBucket G hW) ⟨Nat.le_of_ble_eq_true rfl, Nat.le_of_ble_eq_true rfl⟩ rfl rfl (Nat.le_of_ble_eq_true rfl) (Nat.le_of_ble_eq_true rfl) (Nat.le_of_ble_eq_true rfl) ?_
      refine lv_iload hx hb d_M_same_113 (lv_at hl 0 rfl) ?_
      refine lv_icmp_ne (tgt := 122) hx hb d_M_same_115 (by decide) (fun c_115 => ?_) (fun c_115 => ?_)
      · refine lv_iconst (v := (nI 0)) hx hb d_M_same_122 (by decide) ?_
        exact mx_zret hx hb hr hlk d_M_same_123 (Nat.le_of_ble_eq_true rfl) (Nat.le_of_ble_eq_true rfl) hS.2.2 (rfl) (⟨by rw [hSj]; rw [sameS_2]; unfold sameB; rw [decide_eq_true ((nI_eq (by have := fpN_lt hB4 hB x; omega) (by have := fpN_lt hB4 hB y; omega)).mp c_94), decide_eq_false (show ¬ fbN A x = fbN A y from fun h9 => c_101 (by rw [h9])), decide_eq_false (show ¬ obN A (fbN A x) (fpN B x) = fbN A y from fun h9 => c_115 (by rw [h9]))]; rfl, ki, ka, kb, zs, pu, ce, pa, tr, so, pl, ot, hP, hpic⟩)
      · refine lv_iconst (v := (nI 1)) hx hb d_M_same_118 (by decide) ?_
        refine lv_goto (tgt := 123) hx hb d_M_same_119 (by decide) ?_
        exact mx_zret hx hb hr hlk d_M_same_123 (Nat.le_of_ble_eq_true rfl) (Nat.le_of_ble_eq_true rfl) hS.2.2 (rfl) (⟨by rw [hSj]; rw [sameS_2]; unfold sameB; rw [decide_eq_true ((nI_eq (by have := fpN_lt hB4 hB x; omega) (by have := fpN_lt hB4 hB y; omega)).mp c_94), decide_eq_true ((nI_eq (by have := obN_lt (fbN_lt A x) (fpN B x); omega) (by have := fbN_lt A y; omega)).mp c_115)]; simp [bI], ki, ka, kb, zs, pu, ce, pa, tr, so, pl, ot, hP, hpic⟩)

set_option maxHeartbeats 4000000 in
set_option maxRecDepth 100000 in
theorem c_M_same_1 {l : Launch} {s0 : State} {D : va_G} {cI cF cJ : ClassId} (G : Gx l s0 D cI cF cJ) (hm a1 a2 a3 a4 a5 a6 a7 a8 a9 a10 a11 : Nat) (th : Int32) (S : Nat → FS) (j A B n : Nat) (hd pv : Int32) (cs f : Nat → Nat) (x y : Int64) {H0 : Heap} {A0 : Nat → Prop} (hM : MP D cI hm a1 a2 a3 a4 a5 a6 a7 a8 a9 a10 a11 th S H0) (hD : va_D A0 (adM hm a1 a2 a3 a4 a5 a6 a7 a8 a9 a10 a11)) (hok : ∀ i, i < 4 → okS (S i)) (hj : j < 4) (hSj : S j = (1, A, B, hd, pv, cs, n, f)) : Mx l s0 y_M_same (.code y_M_same b_M_same 9 (some .boolean)) { frames := 7, cells := 0, slots := 0, locals := 170 } [.ref hm, .int (nI j), .long x, .long y] H0 (Aa [hm, a1, a2, a3, a4, a5, a6, a7, a8, a9, a10, a11] H0.size) (Rw (.int (bI (sameS (S j) x y))) (fun H1 => MP D cI hm a1 a2 a3 a4 a5 a6 a7 a8 a9 a10 a11 (nI 0) S H1)) := by
  refine Mx.ofW (own := "FewBitsModel") rfl rfl ?_
  rintro p e s m below meth c ⟨hx, hb, hml, hr, hown, hW, hlk⟩ hnm het hH
  have hK := G.k hW
  have hD0 := hD
  obtain ⟨ki, ka, kb, zs, pu, ce, pa, tr, so, pl, ot, hP, hpic⟩ := hM
  have hD : va_D (Aa [hm, a1, a2, a3, a4, a5, a6, a7, a8, a9, a10, a11] H0.size) [(hm, .inr (4, [.int th, .ref a1, .ref a2, .ref a3, .ref a4, .ref a5, .ref a6, .ref a7, .ref a8, .ref a9, .ref a10, .ref a11])), (a1, aN cI 4 ki), (a2, aN cI 4 ka), (a3, aN cI 4 kb), (a4, aI cI 4 zs), (a5, aI cI 4 pu), (a6, aN cI 4096 ce), (a7, aN cI 1024 pa), (a8, aN cI 1024 tr), (a9, aI cI 256 so), (a10, aN cI 6 pl), (a11, aN cI 6 ot)] := va_D.same2 [hm, a1, a2, a3, a4, a5, a6, a7, a8, a9, a10, a11] (hD.aa (sz := H0.size)) rfl rfl
  have hS : va_S (Aa [hm, a1, a2, a3, a4, a5, a6, a7, a8, a9, a10, a11] H0.size) H0 H0 [] := va_S.rf
  have hpj := hpic j hj
  rw [hSj] at hpj
  obtain ⟨p1, p2, p3, p4, p5, p6⟩ := hpj.f1
  have hoj := hok j hj
  rw [hSj] at hoj
  have hq := okS_1.mp hoj
  have h0 : (S j).1 ≠ 0 := by rw [hSj]; exact (by decide : 1 ≠ 0)
  have hA : A ≤ 10 := hq.2.1
  have hB : B ≤ 6 := hq.2.2.2.1
  have hl := lv_entry ([.ref hm, .int (nI j), .long x, .long y]) (n := 9) (Nat.le_of_ble_eq_true rfl)
  rw [lg_entry_eq]
  generalize (lg_sl ([.ref hm, .int (nI j), .long x, .long y]) ++ List.replicate (9 - (lg_sl ([.ref hm, .int (nI j), .long x, .long y])).length) Slot.unset).toArray = ls at hl ⊢
  have hl : lv_has ls 9 [(0, .ref hm), (1, .int (nI j)), (2, .long x), (4, .long y)] := hl
  refine lv_aload_n hx hb d_M_same_0 rfl (lv_at hl 0 rfl) ?_
  refine lv_aload_n hx hb d_M_same_1 rfl (lv_at hl 0 rfl) ?_
  refine lv_iload_n hx hb d_M_same_2 rfl (lv_at hl 1 rfl) ?_
  refine mx_callR (r := .int (nI (if (S j).1 = 0 then 2 else 0))) (c_M_wrg G hm a1 a2 a3 a4 a5 a6 a7 a8 a9 a10 a11 th S j ⟨ki, ka, kb, zs, pu, ce, pa, tr, so, pl, ot, hP, hpic⟩ hD0 hok hj) hW (iv_M_same_3 G hx hb hown hW (va_recv hK hP (ci := 4) (q0 := 0) rfl rfl) [.int (nI j)] [.ref hm] rfl) hml hl.1 (by rw [hb]; exact d_M_same_3) (cd_M_wrong G hW) ⟨Nat.le_of_ble_eq_true rfl, Nat.le_of_ble_eq_true rfl⟩ rfl rfl (Nat.le_of_ble_eq_true rfl) (Nat.le_of_ble_eq_true rfl) (Nat.le_of_ble_eq_true rfl) ?_
  refine tp_i (y := (nI 0)) (by rw [if_neg h0]) ?_
  refine va_put (D := D) (ci := 4) (v := .int (nI 0)) (ty := .int) (C := R_M) (T := T_M) (N := 12) hx hb (us_M G hW) (fun _ h => h) t_M to_M nm_M hown hK hP hD hS 0 rfl rfl 0 (by decide) (fl_M_43 G hW) (fun _ h9 => h9) rfl (by decide +kernel) rfl rfl (Nat.le_of_ble_eq_true rfl) d_M_same_6 (fun H locs hP hD hS => ?_)
  have hP : va_P D vcl [(hm, .inr (4, [.int (nI 0), .ref a1, .ref a2, .ref a3, .ref a4, .ref a5, .ref a6, .ref a7, .ref a8, .ref a9, .ref a10, .ref a11])), (a1, aN cI 4 ki), (a2, aN cI 4 ka), (a3, aN cI 4 kb), (a4, aI cI 4 zs), (a5, aI cI 4 pu), (a6, aN cI 4096 ce), (a7, aN cI 1024 pa), (a8, aN cI 1024 tr), (a9, aI cI 256 so), (a10, aN cI 6 pl), (a11, aN cI 6 ot)] H := hP
  have hD : va_D (Aa [hm, a1, a2, a3, a4, a5, a6, a7, a8, a9, a10, a11] H0.size) [(hm, .inr (4, [.int (nI 0), .ref a1, .ref a2, .ref a3, .ref a4, .ref a5, .ref a6, .ref a7, .ref a8, .ref a9, .ref a10, .ref a11])), (a1, aN cI 4 ki), (a2, aN cI 4 ka), (a3, aN cI 4 kb), (a4, aI cI 4 zs), (a5, aI cI 4 pu), (a6, aN cI 4096 ce), (a7, aN cI 1024 pa), (a8, aN cI 1024 tr), (a9, aI cI 256 so), (a10, aN cI 6 pl), (a11, aN cI 6 ot)] := hD
  refine lv_aload_n hx hb d_M_same_9 rfl (lv_at hl 0 rfl) ?_
  refine va_get (D := D) (ci := 4) (v := .int (nI 0)) (C := R_M) (T := T_M) (N := 12) hx hb (us_M G hW) (fun _ h => h) hown hK hP 0 rfl rfl 0 (by decide) (fl_M_43 G hW) (fun _ h9 => h9) rfl d_M_same_10 ?_
  refine lv_if_le (tgt := 18) hx hb d_M_same_13 (by decide) (fun c_13 => ?_) (fun c_13 => absurd (by decide) c_13)
  refine lv_aload_n hx hb d_M_same_18 rfl (lv_at hl 0 rfl) ?_
  refine va_get (D := D) (ci := 4) (v := .ref a1) (C := R_M) (T := T_M) (N := 12) hx hb (us_M G hW) (fun _ h => h) hown hK hP 0 rfl rfl 1 (by decide) (fl_M_7 G hW) (fun _ h9 => h9) rfl d_M_same_19 ?_
  refine lv_iload_n hx hb d_M_same_22 rfl (lv_at hl 1 rfl) ?_
  refine ia_ld hx hb hK hP 1 (j := j) rfl (hj) (by decide) d_M_same_23 ?_
  refine tp_i (y := (nI (ki j))) rfl ?_
  refine tp_i (y := (nI 1)) (by rw [p1]) ?_
  refine lv_iconst (v := (nI 3)) hx hb d_M_same_24 (by decide) ?_
  refine lv_icmp_ne (tgt := 50) hx hb d_M_same_25 (by decide) (fun c_25 => ?_) (fun c_25 => absurd c_25 (by decide))
  refine lv_aload_n hx hb d_M_same_50 rfl (lv_at hl 0 rfl) ?_
  refine va_get (D := D) (ci := 4) (v := .ref a1) (C := R_M) (T := T_M) (N := 12) hx hb (us_M G hW) (fun _ h => h) hown hK hP 0 rfl rfl 1 (by decide) (fl_M_7 G hW) (fun _ h9 => h9) rfl d_M_same_51 ?_
  refine lv_iload_n hx hb d_M_same_54 rfl (lv_at hl 1 rfl) ?_
  refine ia_ld hx hb hK hP 1 (j := j) rfl (hj) (by decide) d_M_same_55 ?_
  refine tp_i (y := (nI (ki j))) rfl ?_
  refine tp_i (y := (nI 1)) (by rw [p1]) ?_
  refine lv_iconst (v := (nI 2)) hx hb d_M_same_56 (by decide) ?_
  refine lv_icmp_ne (tgt := 124) hx hb d_M_same_57 (by decide) (fun c_57 => ?_) (fun c_57 => absurd c_57 (by decide))
  refine lv_aload_n hx hb d_M_same_124 rfl (lv_at hl 0 rfl) ?_
  refine lv_iload_n hx hb d_M_same_125 rfl (lv_at hl 1 rfl) ?_
  refine lv_lload_n hx hb d_M_same_126 rfl (lv_at hl 2 rfl) ?_
  refine lv_aload_n hx hb d_M_same_127 rfl (lv_at hl 0 rfl) ?_
  refine va_get (D := D) (ci := 4) (v := .ref a10) (C := R_M) (T := T_M) (N := 12) hx hb (us_M G hW) (fun _ h => h) hown hK hP 0 rfl rfl 10 (by decide) (fl_M_37 G hW) (fun _ h9 => h9) rfl d_M_same_128 ?_
  refine mx_callN (c_M_findPlaces_10 G hm a1 a2 a3 a4 a5 a6 a7 a8 a9 a10 a11 (nI 0) ki ka kb zs pu ce pa tr so pl ot j A B x hP hD hj p2 p3 hA hB) hW (iv_M_same_131 G hx hb hown hW (va_recv hK hP (ci := 4) (q0 := 0) rfl rfl) [.int (nI j), .long x, .ref a10] [] rfl) hml hl.1 (by rw [hb]; exact d_M_same_131) (cd_M_findPlaces G hW) ⟨Nat.le_of_ble_eq_true rfl, Nat.le_of_ble_eq_true rfl⟩ (Nat.le_of_ble_eq_true rfl) (Nat.le_of_ble_eq_true rfl) (Nat.le_of_ble_eq_true rfl) hS (Aa.mono (fun _ h => h) hS.1) (fun H locs hP _ _ hS => ?_)
  have hP : va_P D vcl [(hm, .inr (4, [.int (nI 0), .ref a1, .ref a2, .ref a3, .ref a4, .ref a5, .ref a6, .ref a7, .ref a8, .ref a9, .ref a10, .ref a11])), (a1, aN cI 4 ki), (a2, aN cI 4 ka), (a3, aN cI 4 kb), (a4, aI cI 4 zs), (a5, aI cI 4 pu), (a6, aN cI 4096 ce), (a7, aN cI 1024 pa), (a8, aN cI 1024 tr), (a9, aI cI 256 so), (a10, aN cI 6 (fpr A x pl B)), (a11, aN cI 6 ot)] H := hP
  have hD : va_D (Aa [hm, a1, a2, a3, a4, a5, a6, a7, a8, a9, a10, a11] H0.size) [(hm, .inr (4, [.int (nI 0), .ref a1, .ref a2, .ref a3, .ref a4, .ref a5, .ref a6, .ref a7, .ref a8, .ref a9, .ref a10, .ref a11])), (a1, aN cI 4 ki), (a2, aN cI 4 ka), (a3, aN cI 4 kb), (a4, aI cI 4 zs), (a5, aI cI 4 pu), (a6, aN cI 4096 ce), (a7, aN cI 1024 pa), (a8, aN cI 1024 tr), (a9, aI cI 256 so), (a10, aN cI 6 (fpr A x pl B)), (a11, aN cI 6 ot)] := va_D.same2 [hm, a1, a2, a3, a4, a5, a6, a7, a8, a9, a10, a11] hD rfl rfl
  refine lv_aload_n hx hb d_M_same_134 rfl (lv_at hl 0 rfl) ?_
  refine lv_iload_n hx hb d_M_same_135 rfl (lv_at hl 1 rfl) ?_
  refine lv_lload hx hb d_M_same_136 (lv_at hl 3 rfl) ?_
  refine lv_aload_n hx hb d_M_same_138 rfl (lv_at hl 0 rfl) ?_
  refine va_get (D := D) (ci := 4) (v := .ref a11) (C := R_M) (T := T_M) (N := 12) hx hb (us_M G hW) (fun _ h => h) hown hK hP 0 rfl rfl 11 (by decide) (fl_M_40 G hW) (fun _ h9 => h9) rfl d_M_same_139 ?_
  refine mx_callN (c_M_findPlaces_11 G hm a1 a2 a3 a4 a5 a6 a7 a8 a9 a10 a11 (nI 0) ki ka kb zs pu ce pa tr so (fpr A x pl B) ot j A B y hP hD hj p2 p3 hA hB) hW (iv_M_same_142 G hx hb hown hW (va_recv hK hP (ci := 4) (q0 := 0) rfl rfl) [.int (nI j), .long y, .ref a11] [] rfl) hml hl.1 (by rw [hb]; exact d_M_same_142) (cd_M_findPlaces G hW) ⟨Nat.le_of_ble_eq_true rfl, Nat.le_of_ble_eq_true rfl⟩ (Nat.le_of_ble_eq_true rfl) (Nat.le_of_ble_eq_true rfl) (Nat.le_of_ble_eq_true rfl) hS (Aa.mono (fun _ h => h) hS.1) (fun H locs hP _ _ hS => ?_)
  have hP : va_P D vcl [(hm, .inr (4, [.int (nI 0), .ref a1, .ref a2, .ref a3, .ref a4, .ref a5, .ref a6, .ref a7, .ref a8, .ref a9, .ref a10, .ref a11])), (a1, aN cI 4 ki), (a2, aN cI 4 ka), (a3, aN cI 4 kb), (a4, aI cI 4 zs), (a5, aI cI 4 pu), (a6, aN cI 4096 ce), (a7, aN cI 1024 pa), (a8, aN cI 1024 tr), (a9, aI cI 256 so), (a10, aN cI 6 (fpr A x pl B)), (a11, aN cI 6 (fpr A y ot B))] H := hP
  have hD : va_D (Aa [hm, a1, a2, a3, a4, a5, a6, a7, a8, a9, a10, a11] H0.size) [(hm, .inr (4, [.int (nI 0), .ref a1, .ref a2, .ref a3, .ref a4, .ref a5, .ref a6, .ref a7, .ref a8, .ref a9, .ref a10, .ref a11])), (a1, aN cI 4 ki), (a2, aN cI 4 ka), (a3, aN cI 4 kb), (a4, aI cI 4 zs), (a5, aI cI 4 pu), (a6, aN cI 4096 ce), (a7, aN cI 1024 pa), (a8, aN cI 1024 tr), (a9, aI cI 256 so), (a10, aN cI 6 (fpr A x pl B)), (a11, aN cI 6 (fpr A y ot B))] := va_D.same2 [hm, a1, a2, a3, a4, a5, a6, a7, a8, a9, a10, a11] hD rfl rfl
  refine lv_iconst (v := (bI true)) hx hb d_M_same_145 (by decide) ?_
  refine lv_istore (lv' := [(6, .int (bI true)), (0, .ref hm), (1, .int (nI j)), (2, .long x), (4, .long y)]) hx hb d_M_same_146 hl (by decide) rfl (fun ls hl => ?_)
  refine lv_iconst (v := (nI 0)) hx hb d_M_same_148 (by decide) ?_
  refine lv_istore (lv' := [(7, .int (nI 0)), (6, .int (bI true)), (0, .ref hm), (1, .int (nI j)), (2, .long x), (4, .long y)]) hx hb d_M_same_149 hl (by decide) rfl (fun ls hl => ?_)
  have loop_151 : ∀ (k : Nat) (i : Nat) (b : Bool), (i + k = B) → (b = allN (sameC (fpr A x pl B) (fpr A y ot B) B) i) → ∀ (ls : Array Slot), lv_has ls 9 [(7, .int (nI i)), (6, .int (bI b)), (0, .ref hm), (1, .int (nI j)), (2, .long x), (4, .long y)] → W p l e { frames := 7, cells := 0, slots := 0, locals := 170 } s m ([.ref hm, .int (nI j), .long x, .long y] : List Value).toArray below meth c H locs 0 0 (MQx below (Rw (.int (bI (sameS (S j) x y))) (fun H1 => MP D cI hm a1 a2 a3 a4 a5 a6 a7 a8 a9 a10 a11 (nI 0) S H1)) s 0 0 (Aa [hm, a1, a2, a3, a4, a5, a6, a7, a8, a9, a10, a11] H0.size)) (F0 m 151 ls []) := by
    intro k
    induction k with
    | zero =>
      intro i b hk hbb  ls hl
      refine lv_iload hx hb d_M_same_151 (lv_at hl 0 rfl) ?_
      refine lv_aload_n hx hb d_M_same_153 rfl (lv_at hl 2 rfl) ?_
      refine va_get (D := D) (ci := 4) (v := .ref a3) (C := R_M) (T := T_M) (N := 12) hx hb (us_M G hW) (fun _ h => h) hown hK hP 0 rfl rfl 3 (by decide) (fl_M_16 G hW) (fun _ h9 => h9) rfl d_M_same_154 ?_
      refine lv_iload_n hx hb d_M_same_157 rfl (lv_at hl 3 rfl) ?_
      refine ia_ld hx hb hK hP 3 (j := j) rfl (hj) (by decide) d_M_same_158 ?_
      refine tp_i (y := (nI (kb j))) rfl ?_
      refine tp_i (y := (nI B)) (by rw [p3]) ?_
      refine lv_icmp_ge (tgt := 223) hx hb d_M_same_159 (by decide) (fun c_159 => ?_) (fun c_159 => absurd (nI_le (by omega) (by omega)) c_159)
      refine lv_iload hx hb d_M_same_223 (lv_at hl 1 rfl) ?_
      exact mx_zret hx hb hr hlk d_M_same_225 (Nat.le_of_ble_eq_true rfl) (Nat.le_of_ble_eq_true rfl) hS.2.2 (bI_nar _) (⟨by rw [hSj, sameS_1, ← sameC_fpr (pl := pl) (pb := ot), ← show i = B by omega, hbb, show i = B by omega], ki, ka, kb, zs, pu, ce, pa, tr, so, _, _, hP, hpic⟩)
    | succ k ih_151 =>
      intro i b hk hbb  ls hl
      refine lv_iload hx hb d_M_same_151 (lv_at hl 0 rfl) ?_
      refine lv_aload_n hx hb d_M_same_153 rfl (lv_at hl 2 rfl) ?_
      refine va_get (D := D) (ci := 4) (v := .ref a3) (C := R_M) (T := T_M) (N := 12) hx hb (us_M G hW) (fun _ h => h) hown hK hP 0 rfl rfl 3 (by decide) (fl_M_16 G hW) (fun _ h9 => h9) rfl d_M_same_154 ?_
      refine lv_iload_n hx hb d_M_same_157 rfl (lv_at hl 3 rfl) ?_
      refine ia_ld hx hb hK hP 3 (j := j) rfl (hj) (by decide) d_M_same_158 ?_
      refine tp_i (y := (nI (kb j))) rfl ?_
      refine tp_i (y := (nI B)) (by rw [p3]) ?_
      refine lv_icmp_ge (tgt := 223) hx hb d_M_same_159 (by decide) (fun c_159 => absurd c_159 (nI_ge (by omega) (by omega))) (fun c_159 => ?_)
      refine lv_iload hx hb d_M_same_162 (lv_at hl 1 rfl) ?_
      refine lv_if_eq (tgt := 214) hx hb d_M_same_164 (by decide) (fun c_164 => ?_) (fun c_164 => ?_)
      · refine lv_iconst (v := (bI false)) hx hb d_M_same_214 (by decide) ?_
        refine lv_istore (lv' := [(6, .int (bI false)), (7, .int (nI i)), (0, .ref hm), (1, .int (nI j)), (2, .long x), (4, .long y)]) hx hb d_M_same_215 hl (by decide) rfl (fun ls hl => ?_)
        refine lv_iinc (v := (nI (i + 1))) (lv' := [(7, .int (nI (i + 1))), (6, .int (bI false)), (0, .ref hm), (1, .int (nI j)), (2, .long x), (4, .long y)]) hx hb d_M_same_217 hl (k := 1) rfl (nI_1 _) (by decide) rfl (fun ls hl => ?_)
        refine lv_goto (tgt := 151) hx hb d_M_same_220 (by decide) ?_
        exact ih_151 (i + 1) (false) (by omega) (by show false = (_ && _); rw [← hbb, bI_f c_164]; rfl) ls (lv_sub hl [0, 1, 2, 3, 4, 5] rfl)
      · refine lv_aload_n hx hb d_M_same_167 rfl (lv_at hl 2 rfl) ?_
        refine va_get (D := D) (ci := 4) (v := .ref a10) (C := R_M) (T := T_M) (N := 12) hx hb (us_M G hW) (fun _ h => h) hown hK hP 0 rfl rfl 10 (by decide) (fl_M_37 G hW) (fun _ h9 => h9) rfl d_M_same_168 ?_
        refine lv_aload_n hx hb d_M_same_171 rfl (lv_at hl 2 rfl) ?_
        refine va_get (D := D) (ci := 4) (v := .ref a3) (C := R_M) (T := T_M) (N := 12) hx hb (us_M G hW) (fun _ h => h) hown hK hP 0 rfl rfl 3 (by decide) (fl_M_16 G hW) (fun _ h9 => h9) rfl d_M_same_172 ?_
        refine lv_iload_n hx hb d_M_same_175 rfl (lv_at hl 3 rfl) ?_
        refine ia_ld hx hb hK hP 3 (j := j) rfl (hj) (by decide) d_M_same_176 ?_
        refine tp_i (y := (nI (kb j))) rfl ?_
        refine tp_i (y := (nI B)) (by rw [p3]) ?_
        refine lv_aload_n hx hb d_M_same_177 rfl (lv_at hl 2 rfl) ?_
        refine va_get (D := D) (ci := 4) (v := .ref a10) (C := R_M) (T := T_M) (N := 12) hx hb (us_M G hW) (fun _ h => h) hown hK hP 0 rfl rfl 10 (by decide) (fl_M_37 G hW) (fun _ h9 => h9) rfl d_M_same_178 ?_
        refine lv_iload hx hb d_M_same_181 (lv_at hl 0 rfl) ?_
        refine ia_ld hx hb hK hP 10 (j := i) rfl (by omega) (by decide) d_M_same_183 ?_
        refine tp_i (y := (nI ((fpr A x pl B) i))) rfl ?_
        refine mx_callR (r := .int (nI (cnt (fpr A x pl B) ((fpr A x pl B) i) B))) (c_M_howOften_10 G hm a1 a2 a3 a4 a5 a6 a7 a8 a9 a10 a11 (nI 0) ki ka kb zs pu ce pa tr so (fpr A x pl B) (fpr A y ot B) B ((fpr A x pl B) i) hP hB (fun q hq9 => fpr_in hA hq9) (fpr_in hA (by omega))) hW (iv_M_same_184 G hx hb hown hW [.ref a10, .int (nI B), .int (nI ((fpr A x pl B) i))] [] rfl) hml hl.1 (by rw [hb]; exact d_M_same_184) (cd_M_howOften G hW) ⟨Nat.le_of_ble_eq_true rfl, Nat.le_of_ble_eq_true rfl⟩ rfl rfl (Nat.le_of_ble_eq_true rfl) (Nat.le_of_ble_eq_true rfl) (Nat.le_of_ble_eq_true rfl) ?_
        refine lv_aload_n hx hb d_M_same_187 rfl (lv_at hl 2 rfl) ?_
        refine va_get (D := D) (ci := 4) (v := .ref a11) (C := R_M) (T := T_M) (N := 12) hx hb (us_M G hW) (fun _ h => h) hown hK hP 0 rfl rfl 11 (by decide) (fl_M_40 G hW) (fun _ h9 => h9) rfl d_M_same_188 ?_
        refine lv_aload_n hx hb d_M_same_191 rfl (lv_at hl 2 rfl) ?_
        refine va_get (D := D) (ci := 4) (v := .ref a3) (C := R_M) (T := T_M) (N := 12) hx hb (us_M G hW) (fun _ h => h) hown hK hP 0 rfl rfl 3 (by decide) (fl_M_16 G hW) (fun _ h9 => h9) rfl d_M_same_192 ?_
        refine lv_iload_n hx hb d_M_same_195 rfl (lv_at hl 3 rfl) ?_
        refine ia_ld hx hb hK hP 3 (j := j) rfl (hj) (by decide) d_M_same_196 ?_
        refine tp_i (y := (nI (kb j))) rfl ?_
        refine tp_i (y := (nI B)) (by rw [p3]) ?_
        refine lv_aload_n hx hb d_M_same_197 rfl (lv_at hl 2 rfl) ?_
        refine va_get (D := D) (ci := 4) (v := .ref a10) (C := R_M) (T := T_M) (N := 12) hx hb (us_M G hW) (fun _ h => h) hown hK hP 0 rfl rfl 10 (by decide) (fl_M_37 G hW) (fun _ h9 => h9) rfl d_M_same_198 ?_
        refine lv_iload hx hb d_M_same_201 (lv_at hl 0 rfl) ?_
        refine ia_ld hx hb hK hP 10 (j := i) rfl (by omega) (by decide) d_M_same_203 ?_
        refine tp_i (y := (nI ((fpr A x pl B) i))) rfl ?_
        refine mx_callR (r := .int (nI (cnt (fpr A y ot B) ((fpr A x pl B) i) B))) (c_M_howOften_11 G hm a1 a2 a3 a4 a5 a6 a7 a8 a9 a10 a11 (nI 0) ki ka kb zs pu ce pa tr so (fpr A x pl B) (fpr A y ot B) B ((fpr A x pl B) i) hP hB (fun q hq9 => fpr_in hA hq9) (fpr_in hA (by omega))) hW (iv_M_same_204 G hx hb hown hW [.ref a11, .int (nI B), .int (nI ((fpr A x pl B) i))] [.int (nI (cnt (fpr A x pl B) ((fpr A x pl B) i) B))] rfl) hml hl.1 (by rw [hb]; exact d_M_same_204) (cd_M_howOften G hW) ⟨Nat.le_of_ble_eq_true rfl, Nat.le_of_ble_eq_true rfl⟩ rfl rfl (Nat.le_of_ble_eq_true rfl) (Nat.le_of_ble_eq_true rfl) (Nat.le_of_ble_eq_true rfl) ?_
        refine lv_icmp_ne (tgt := 214) hx hb d_M_same_207 (by decide) (fun c_207 => ?_) (fun c_207 => ?_)
        · refine lv_iconst (v := (bI false)) hx hb d_M_same_214 (by decide) ?_
          refine lv_istore (lv' := [(6, .int (bI false)), (7, .int (nI i)), (0, .ref hm), (1, .int (nI j)), (2, .long x), (4, .long y)]) hx hb d_M_same_215 hl (by decide) rfl (fun ls hl => ?_)
          refine lv_iinc (v := (nI (i + 1))) (lv' := [(7, .int (nI (i + 1))), (6, .int (bI false)), (0, .ref hm), (1, .int (nI j)), (2, .long x), (4, .long y)]) hx hb d_M_same_217 hl (k := 1) rfl (nI_1 _) (by decide) rfl (fun ls hl => ?_)
          refine lv_goto (tgt := 151) hx hb d_M_same_220 (by decide) ?_
          exact ih_151 (i + 1) (false) (by omega) (by have h8 : (sameC (fpr A x pl B) (fpr A y ot B) B) i = false := decide_eq_false (fun h9 => c_207 (by rw [h9])); exact (allN_f (Nat.lt_succ_self i) h8).symm) ls (lv_sub hl [0, 1, 2, 3, 4, 5] rfl)
        · refine lv_iconst (v := (bI true)) hx hb d_M_same_210 (by decide) ?_
          refine lv_goto (tgt := 215) hx hb d_M_same_211 (by decide) ?_
          refine lv_istore (lv' := [(6, .int (bI true)), (7, .int (nI i)), (0, .ref hm), (1, .int (nI j)), (2, .long x), (4, .long y)]) hx hb d_M_same_215 hl (by decide) rfl (fun ls hl => ?_)
          refine lv_iinc (v := (nI (i + 1))) (lv' := [(7, .int (nI (i + 1))), (6, .int (bI true)), (0, .ref hm), (1, .int (nI j)), (2, .long x), (4, .long y)]) hx hb d_M_same_217 hl (k := 1) rfl (nI_1 _) (by decide) rfl (fun ls hl => ?_)
          refine lv_goto (tgt := 151) hx hb d_M_same_220 (by decide) ?_
          exact ih_151 (i + 1) (true) (by omega) (by have h8 : (sameC (fpr A x pl B) (fpr A y ot B) B) i = true := decide_eq_true ((nI_eq (by have := cnt_le (fpr A x pl B) ((fpr A x pl B) i) B; omega) (by have := cnt_le (fpr A y ot B) ((fpr A x pl B) i) B; omega)).mp c_207); exact (allN_s (by rw [← hbb]; exact bI_t c_164) h8).symm) ls (lv_sub hl [0, 1, 2, 3, 4, 5] rfl)
  exact loop_151 (B) (0) (true) (by omega) (rfl) ls (lv_sub hl [0, 1, 2, 3, 4, 5] rfl)

theorem c_M_same {l : Launch} {s0 : State} {D : va_G} {cI cF cJ : ClassId} (G : Gx l s0 D cI cF cJ) (hm a1 a2 a3 a4 a5 a6 a7 a8 a9 a10 a11 : Nat) (th : Int32) (S : Nat → FS) (j : Nat) (x y : Int64) {H0 : Heap} {A0 : Nat → Prop} (hM : MP D cI hm a1 a2 a3 a4 a5 a6 a7 a8 a9 a10 a11 th S H0) (hD : va_D A0 (adM hm a1 a2 a3 a4 a5 a6 a7 a8 a9 a10 a11)) (hok : ∀ i, i < 4 → okS (S i)) (hj : j < 4) (h0 : (S j).1 ≠ 0) : Mx l s0 y_M_same (.code y_M_same b_M_same 9 (some .boolean)) { frames := 7, cells := 0, slots := 0, locals := 170 } [.ref hm, .int (nI j), .long x, .long y] H0 (Aa [hm, a1, a2, a3, a4, a5, a6, a7, a8, a9, a10, a11] H0.size) (Rw (.int (bI (sameS (S j) x y))) (fun H1 => MP D cI hm a1 a2 a3 a4 a5 a6 a7 a8 a9 a10 a11 (nI 0) S H1)) := by
  rcases hSj : S j with ⟨kd, A, B, hd, pv, cs, n, f⟩
  rw [← hSj]
  have hoj := hok j hj
  rw [hSj] at hoj h0
  rcases hoj with h9 | h9 | h9 | h9
  · exact absurd h9 h0
  · obtain ⟨rfl, -⟩ := h9; exact c_M_same_1 G hm a1 a2 a3 a4 a5 a6 a7 a8 a9 a10 a11 th S j A B n hd pv cs f x y hM hD hok hj hSj
  · obtain ⟨rfl, -⟩ := h9; exact c_M_same_2 G hm a1 a2 a3 a4 a5 a6 a7 a8 a9 a10 a11 th S j A B n hd pv cs f x y hM hD hok hj hSj
  · obtain ⟨rfl, -⟩ := h9; exact c_M_same_3 G hm a1 a2 a3 a4 a5 a6 a7 a8 a9 a10 a11 th S j A B n hd pv cs f x y hM hD hok hj hSj

set_option maxHeartbeats 4000000 in
set_option maxRecDepth 100000 in
theorem c_M_cell_1 {l : Launch} {s0 : State} {D : va_G} {cI cF cJ : ClassId} (G : Gx l s0 D cI cF cJ) (hm a1 a2 a3 a4 a5 a6 a7 a8 a9 a10 a11 : Nat) (th : Int32) (S : Nat → FS) (j A B n : Nat) (hd pv : Int32) (cs f : Nat → Nat) (z : Nat) {H0 : Heap} {A0 : Nat → Prop} (hM : MP D cI hm a1 a2 a3 a4 a5 a6 a7 a8 a9 a10 a11 th S H0) (hD : va_D A0 (adM hm a1 a2 a3 a4 a5 a6 a7 a8 a9 a10 a11)) (hok : ∀ i, i < 4 → okS (S i)) (hj : j < 4) (hSj : S j = (1, A, B, hd, pv, cs, n, f)) (hz : z < (2 ^ A)) : Mx l s0 y_M_cell (.code y_M_cell b_M_cell 4 (some .int)) { frames := 7, cells := 0, slots := 0, locals := 170 } [.ref hm, .int (nI j), .int (nI z)] H0 (Aa [hm, a1, a2, a3, a4, a5, a6, a7, a8, a9, a10, a11] H0.size) (Rw (.int (lokS (S j) z)) (fun H1 => MP D cI hm a1 a2 a3 a4 a5 a6 a7 a8 a9 a10 a11 (nI 0) S H1)) := by
  refine Mx.ofW (own := "FewBitsModel") rfl rfl ?_
  rintro p e s m below meth c ⟨hx, hb, hml, hr, hown, hW, hlk⟩ hnm het hH
  have hK := G.k hW
  have hD0 := hD
  obtain ⟨ki, ka, kb, zs, pu, ce, pa, tr, so, pl, ot, hP, hpic⟩ := hM
  have hD : va_D (Aa [hm, a1, a2, a3, a4, a5, a6, a7, a8, a9, a10, a11] H0.size) [(hm, .inr (4, [.int th, .ref a1, .ref a2, .ref a3, .ref a4, .ref a5, .ref a6, .ref a7, .ref a8, .ref a9, .ref a10, .ref a11])), (a1, aN cI 4 ki), (a2, aN cI 4 ka), (a3, aN cI 4 kb), (a4, aI cI 4 zs), (a5, aI cI 4 pu), (a6, aN cI 4096 ce), (a7, aN cI 1024 pa), (a8, aN cI 1024 tr), (a9, aI cI 256 so), (a10, aN cI 6 pl), (a11, aN cI 6 ot)] := va_D.same2 [hm, a1, a2, a3, a4, a5, a6, a7, a8, a9, a10, a11] (hD.aa (sz := H0.size)) rfl rfl
  have hS : va_S (Aa [hm, a1, a2, a3, a4, a5, a6, a7, a8, a9, a10, a11] H0.size) H0 H0 [] := va_S.rf
  have hpj := hpic j hj
  rw [hSj] at hpj
  obtain ⟨p1, p2, p3, p4, p5, p6⟩ := hpj.f1
  have hoj := hok j hj
  rw [hSj] at hoj
  have hq := okS_1.mp hoj
  have h0 : (S j).1 ≠ 0 := by rw [hSj]; exact (by decide : 1 ≠ 0)
  have hA : A ≤ 10 := hq.2.1
  have hB : B ≤ 6 := hq.2.2.2.1
  have h8 := p2_le hA
  have hl := lv_entry ([.ref hm, .int (nI j), .int (nI z)]) (n := 4) (Nat.le_of_ble_eq_true rfl)
  rw [lg_entry_eq]
  generalize (lg_sl ([.ref hm, .int (nI j), .int (nI z)]) ++ List.replicate (4 - (lg_sl ([.ref hm, .int (nI j), .int (nI z)])).length) Slot.unset).toArray = ls at hl ⊢
  have hl : lv_has ls 4 [(0, .ref hm), (1, .int (nI j)), (2, .int (nI z))] := hl
  refine lv_aload_n hx hb d_M_cell_0 rfl (lv_at hl 0 rfl) ?_
  refine lv_aload_n hx hb d_M_cell_1 rfl (lv_at hl 0 rfl) ?_
  refine lv_iload_n hx hb d_M_cell_2 rfl (lv_at hl 1 rfl) ?_
  refine mx_callR (r := .int (nI (if (S j).1 = 0 then 2 else 0))) (c_M_wrg G hm a1 a2 a3 a4 a5 a6 a7 a8 a9 a10 a11 th S j ⟨ki, ka, kb, zs, pu, ce, pa, tr, so, pl, ot, hP, hpic⟩ hD0 hok hj) hW (iv_M_cell_3 G hx hb hown hW (va_recv hK hP (ci := 4) (q0 := 0) rfl rfl) [.int (nI j)] [.ref hm] rfl) hml hl.1 (by rw [hb]; exact d_M_cell_3) (cd_M_wrong G hW) ⟨Nat.le_of_ble_eq_true rfl, Nat.le_of_ble_eq_true rfl⟩ rfl rfl (Nat.le_of_ble_eq_true rfl) (Nat.le_of_ble_eq_true rfl) (Nat.le_of_ble_eq_true rfl) ?_
  refine tp_i (y := (nI 0)) (by rw [if_neg h0]) ?_
  refine lv_if_le (tgt := 13) hx hb d_M_cell_6 (by decide) (fun c_6 => ?_) (fun c_6 => absurd (by decide) c_6)
  refine lv_iconst (v := (nI 0)) hx hb d_M_cell_13 (by decide) ?_
  refine va_put (D := D) (ci := 4) (v := .int (nI 0)) (ty := .int) (C := R_M) (T := T_M) (N := 12) hx hb (us_M G hW) (fun _ h => h) t_M to_M nm_M hown hK hP hD hS 0 rfl rfl 0 (by decide) (fl_M_43 G hW) (fun _ h9 => h9) rfl (by decide +kernel) rfl rfl (Nat.le_of_ble_eq_true rfl) d_M_cell_14 (fun H locs hP hD hS => ?_)
  have hP : va_P D vcl [(hm, .inr (4, [.int (nI 0), .ref a1, .ref a2, .ref a3, .ref a4, .ref a5, .ref a6, .ref a7, .ref a8, .ref a9, .ref a10, .ref a11])), (a1, aN cI 4 ki), (a2, aN cI 4 ka), (a3, aN cI 4 kb), (a4, aI cI 4 zs), (a5, aI cI 4 pu), (a6, aN cI 4096 ce), (a7, aN cI 1024 pa), (a8, aN cI 1024 tr), (a9, aI cI 256 so), (a10, aN cI 6 pl), (a11, aN cI 6 ot)] H := hP
  have hD : va_D (Aa [hm, a1, a2, a3, a4, a5, a6, a7, a8, a9, a10, a11] H0.size) [(hm, .inr (4, [.int (nI 0), .ref a1, .ref a2, .ref a3, .ref a4, .ref a5, .ref a6, .ref a7, .ref a8, .ref a9, .ref a10, .ref a11])), (a1, aN cI 4 ki), (a2, aN cI 4 ka), (a3, aN cI 4 kb), (a4, aI cI 4 zs), (a5, aI cI 4 pu), (a6, aN cI 4096 ce), (a7, aN cI 1024 pa), (a8, aN cI 1024 tr), (a9, aI cI 256 so), (a10, aN cI 6 pl), (a11, aN cI 6 ot)] := hD
  refine lv_aload_n hx hb d_M_cell_17 rfl (lv_at hl 0 rfl) ?_
  refine va_get (D := D) (ci := 4) (v := .int (nI 0)) (C := R_M) (T := T_M) (N := 12) hx hb (us_M G hW) (fun _ h => h) hown hK hP 0 rfl rfl 0 (by decide) (fl_M_43 G hW) (fun _ h9 => h9) rfl d_M_cell_18 ?_
  refine lv_if_le (tgt := 26) hx hb d_M_cell_21 (by decide) (fun c_21 => ?_) (fun c_21 => absurd (by decide) c_21)
  refine lv_aload_n hx hb d_M_cell_26 rfl (lv_at hl 0 rfl) ?_
  refine va_get (D := D) (ci := 4) (v := .ref a1) (C := R_M) (T := T_M) (N := 12) hx hb (us_M G hW) (fun _ h => h) hown hK hP 0 rfl rfl 1 (by decide) (fl_M_7 G hW) (fun _ h9 => h9) rfl d_M_cell_27 ?_
  refine lv_iload_n hx hb d_M_cell_30 rfl (lv_at hl 1 rfl) ?_
  refine ia_ld hx hb hK hP 1 (j := j) rfl (hj) (by decide) d_M_cell_31 ?_
  refine tp_i (y := (nI (ki j))) rfl ?_
  refine tp_i (y := (nI 1)) (by rw [p1]) ?_
  refine lv_iconst (v := (nI 2)) hx hb d_M_cell_32 (by decide) ?_
  refine lv_icmp_ne (tgt := 47) hx hb d_M_cell_33 (by decide) (fun c_33 => ?_) (fun c_33 => absurd c_33 (by decide))
  refine lv_iconst (v := (nI 1)) hx hb d_M_cell_47 (by decide) ?_
  refine lv_aload_n hx hb d_M_cell_48 rfl (lv_at hl 0 rfl) ?_
  refine va_get (D := D) (ci := 4) (v := .ref a2) (C := R_M) (T := T_M) (N := 12) hx hb (us_M G hW) (fun _ h => h) hown hK hP 0 rfl rfl 2 (by decide) (fl_M_13 G hW) (fun _ h9 => h9) rfl d_M_cell_49 ?_
  refine lv_iload_n hx hb d_M_cell_52 rfl (lv_at hl 1 rfl) ?_
  refine ia_ld hx hb hK hP 2 (j := j) rfl (hj) (by decide) d_M_cell_53 ?_
  refine tp_i (y := (nI (ka j))) rfl ?_
  refine tp_i (y := (nI A)) (by rw [p2]) ?_
  refine lv_ishl hx hb d_M_cell_54 ?_
  refine tp_i (y := (nI (2 ^ A))) (pw_shl A (by omega)) ?_
  refine lv_istore_n (lv' := [(3, .int (nI (2 ^ A))), (0, .ref hm), (1, .int (nI j)), (2, .int (nI z))]) hx hb d_M_cell_55 rfl hl (by decide) rfl (fun ls hl => ?_)
  refine lv_aload_n hx hb d_M_cell_56 rfl (lv_at hl 1 rfl) ?_
  refine lv_iload_n hx hb d_M_cell_57 rfl (lv_at hl 3 rfl) ?_
  refine lv_if_lt (tgt := 70) hx hb d_M_cell_58 (by decide) (fun c_58 => absurd c_58 (nI_pos (by omega))) (fun c_58 => ?_)
  refine lv_iload_n hx hb d_M_cell_61 rfl (lv_at hl 3 rfl) ?_
  refine lv_iload_n hx hb d_M_cell_62 rfl (lv_at hl 0 rfl) ?_
  refine lv_icmp_ge (tgt := 70) hx hb d_M_cell_63 (by decide) (fun c_63 => absurd c_63 (nI_ge hz (by omega))) (fun c_63 => ?_)
  refine lv_iconst (v := (nI 0)) hx hb d_M_cell_66 (by decide) ?_
  refine lv_goto (tgt := 71) hx hb d_M_cell_67 (by decide) ?_
  refine va_put (D := D) (ci := 4) (v := .int (nI 0)) (ty := .int) (C := R_M) (T := T_M) (N := 12) hx hb (us_M G hW) (fun _ h => h) t_M to_M nm_M hown hK hP hD hS 0 rfl rfl 0 (by decide) (fl_M_43 G hW) (fun _ h9 => h9) rfl (by decide +kernel) rfl rfl (Nat.le_of_ble_eq_true rfl) d_M_cell_71 (fun H locs hP hD hS => ?_)
  have hP : va_P D vcl [(hm, .inr (4, [.int (nI 0), .ref a1, .ref a2, .ref a3, .ref a4, .ref a5, .ref a6, .ref a7, .ref a8, .ref a9, .ref a10, .ref a11])), (a1, aN cI 4 ki), (a2, aN cI 4 ka), (a3, aN cI 4 kb), (a4, aI cI 4 zs), (a5, aI cI 4 pu), (a6, aN cI 4096 ce), (a7, aN cI 1024 pa), (a8, aN cI 1024 tr), (a9, aI cI 256 so), (a10, aN cI 6 pl), (a11, aN cI 6 ot)] H := hP
  have hD : va_D (Aa [hm, a1, a2, a3, a4, a5, a6, a7, a8, a9, a10, a11] H0.size) [(hm, .inr (4, [.int (nI 0), .ref a1, .ref a2, .ref a3, .ref a4, .ref a5, .ref a6, .ref a7, .ref a8, .ref a9, .ref a10, .ref a11])), (a1, aN cI 4 ki), (a2, aN cI 4 ka), (a3, aN cI 4 kb), (a4, aI cI 4 zs), (a5, aI cI 4 pu), (a6, aN cI 4096 ce), (a7, aN cI 1024 pa), (a8, aN cI 1024 tr), (a9, aI cI 256 so), (a10, aN cI 6 pl), (a11, aN cI 6 ot)] := hD
  refine lv_aload_n hx hb d_M_cell_74 rfl (lv_at hl 1 rfl) ?_
  refine va_get (D := D) (ci := 4) (v := .int (nI 0)) (C := R_M) (T := T_M) (N := 12) hx hb (us_M G hW) (fun _ h => h) hown hK hP 0 rfl rfl 0 (by decide) (fl_M_43 G hW) (fun _ h9 => h9) rfl d_M_cell_75 ?_
  refine lv_if_le (tgt := 83) hx hb d_M_cell_78 (by decide) (fun c_78 => ?_) (fun c_78 => absurd (by decide) c_78)
  refine lv_aload_n hx hb d_M_cell_83 rfl (lv_at hl 1 rfl) ?_
  refine va_get (D := D) (ci := 4) (v := .ref a1) (C := R_M) (T := T_M) (N := 12) hx hb (us_M G hW) (fun _ h => h) hown hK hP 0 rfl rfl 1 (by decide) (fl_M_7 G hW) (fun _ h9 => h9) rfl d_M_cell_84 ?_
  refine lv_iload_n hx hb d_M_cell_87 rfl (lv_at hl 2 rfl) ?_
  refine ia_ld hx hb hK hP 1 (j := j) rfl (hj) (by decide) d_M_cell_88 ?_
  refine tp_i (y := (nI (ki j))) rfl ?_
  refine tp_i (y := (nI 1)) (by rw [p1]) ?_
  refine lv_iconst (v := (nI 3)) hx hb d_M_cell_89 (by decide) ?_
  refine lv_icmp_ne (tgt := 102) hx hb d_M_cell_90 (by decide) (fun c_90 => ?_) (fun c_90 => absurd c_90 (by decide))
  refine lv_aload_n hx hb d_M_cell_102 rfl (lv_at hl 1 rfl) ?_
  refine va_get (D := D) (ci := 4) (v := .ref a6) (C := R_M) (T := T_M) (N := 12) hx hb (us_M G hW) (fun _ h => h) hown hK hP 0 rfl rfl 6 (by decide) (fl_M_25 G hW) (fun _ h9 => h9) rfl d_M_cell_103 ?_
  refine lv_sipush (v := (nI 1024)) hx hb d_M_cell_106 (by decide) ?_
  refine lv_iload_n hx hb d_M_cell_109 rfl (lv_at hl 2 rfl) ?_
  refine lv_imul hx hb d_M_cell_110 ?_
  refine tp_i (y := (nI (1024 * j))) (pk_mul _ _) ?_
  refine lv_iload_n hx hb d_M_cell_111 rfl (lv_at hl 3 rfl) ?_
  refine lv_iadd hx hb d_M_cell_112 ?_
  refine tp_i (y := (nI ((1024 * j) + z))) (nI_add _ _) ?_
  refine ia_ld hx hb hK hP 6 (j := ((1024 * j) + z)) rfl (by omega) (by decide) d_M_cell_113 ?_
  refine tp_i (y := (nI (ce ((1024 * j) + z)))) rfl ?_
  refine tp_i (y := (lokS (S j) z)) (by rw [hSj]; exact congrArg nI (p5 z (by omega))) ?_
  exact mx_iret hx hb hr hlk d_M_cell_114 (Nat.le_of_ble_eq_true rfl) (Nat.le_of_ble_eq_true rfl) hS.2.2 (⟨rfl, ki, ka, kb, zs, pu, ce, pa, tr, _, pl, ot, hP, hpic⟩)

set_option maxHeartbeats 4000000 in
set_option maxRecDepth 100000 in
theorem c_M_cell_1_out {l : Launch} {s0 : State} {D : va_G} {cI cF cJ : ClassId} (G : Gx l s0 D cI cF cJ) (hm a1 a2 a3 a4 a5 a6 a7 a8 a9 a10 a11 : Nat) (th : Int32) (S : Nat → FS) (j A B n : Nat) (hd pv : Int32) (cs f : Nat → Nat) (iv : Int32) {H0 : Heap} {A0 : Nat → Prop} (hM : MP D cI hm a1 a2 a3 a4 a5 a6 a7 a8 a9 a10 a11 th S H0) (hD : va_D A0 (adM hm a1 a2 a3 a4 a5 a6 a7 a8 a9 a10 a11)) (hok : ∀ i, i < 4 → okS (S i)) (hj : j < 4) (hSj : S j = (1, A, B, hd, pv, cs, n, f)) (hbad : iv < 0 ∨ nI (2 ^ A) ≤ iv) : Mx l s0 y_M_cell (.code y_M_cell b_M_cell 4 (some .int)) { frames := 7, cells := 0, slots := 0, locals := 170 } [.ref hm, .int (nI j), .int iv] H0 (Aa [hm, a1, a2, a3, a4, a5, a6, a7, a8, a9, a10, a11] H0.size) (Rw (.int (nI 0)) (fun H1 => MP D cI hm a1 a2 a3 a4 a5 a6 a7 a8 a9 a10 a11 (nI 2) S H1)) := by
  refine Mx.ofW (own := "FewBitsModel") rfl rfl ?_
  rintro p e s m below meth c ⟨hx, hb, hml, hr, hown, hW, hlk⟩ hnm het hH
  have hK := G.k hW
  have hD0 := hD
  obtain ⟨ki, ka, kb, zs, pu, ce, pa, tr, so, pl, ot, hP, hpic⟩ := hM
  have hD : va_D (Aa [hm, a1, a2, a3, a4, a5, a6, a7, a8, a9, a10, a11] H0.size) [(hm, .inr (4, [.int th, .ref a1, .ref a2, .ref a3, .ref a4, .ref a5, .ref a6, .ref a7, .ref a8, .ref a9, .ref a10, .ref a11])), (a1, aN cI 4 ki), (a2, aN cI 4 ka), (a3, aN cI 4 kb), (a4, aI cI 4 zs), (a5, aI cI 4 pu), (a6, aN cI 4096 ce), (a7, aN cI 1024 pa), (a8, aN cI 1024 tr), (a9, aI cI 256 so), (a10, aN cI 6 pl), (a11, aN cI 6 ot)] := va_D.same2 [hm, a1, a2, a3, a4, a5, a6, a7, a8, a9, a10, a11] (hD.aa (sz := H0.size)) rfl rfl
  have hS : va_S (Aa [hm, a1, a2, a3, a4, a5, a6, a7, a8, a9, a10, a11] H0.size) H0 H0 [] := va_S.rf
  have hpj := hpic j hj
  rw [hSj] at hpj
  obtain ⟨p1, p2, p3, p4, p5, p6⟩ := hpj.f1
  have hoj := hok j hj
  rw [hSj] at hoj
  have hq := okS_1.mp hoj
  have h0 : (S j).1 ≠ 0 := by rw [hSj]; exact (by decide : 1 ≠ 0)
  have hA : A ≤ 10 := hq.2.1
  have hB : B ≤ 6 := hq.2.2.2.1
  have h8 := p2_le hA
  have hl := lv_entry ([.ref hm, .int (nI j), .int iv]) (n := 4) (Nat.le_of_ble_eq_true rfl)
  rw [lg_entry_eq]
  generalize (lg_sl ([.ref hm, .int (nI j), .int iv]) ++ List.replicate (4 - (lg_sl ([.ref hm, .int (nI j), .int iv])).length) Slot.unset).toArray = ls at hl ⊢
  have hl : lv_has ls 4 [(0, .ref hm), (1, .int (nI j)), (2, .int iv)] := hl
  refine lv_aload_n hx hb d_M_cell_0 rfl (lv_at hl 0 rfl) ?_
  refine lv_aload_n hx hb d_M_cell_1 rfl (lv_at hl 0 rfl) ?_
  refine lv_iload_n hx hb d_M_cell_2 rfl (lv_at hl 1 rfl) ?_
  refine mx_callR (r := .int (nI (if (S j).1 = 0 then 2 else 0))) (c_M_wrg G hm a1 a2 a3 a4 a5 a6 a7 a8 a9 a10 a11 th S j ⟨ki, ka, kb, zs, pu, ce, pa, tr, so, pl, ot, hP, hpic⟩ hD0 hok hj) hW (iv_M_cell_3 G hx hb hown hW (va_recv hK hP (ci := 4) (q0 := 0) rfl rfl) [.int (nI j)] [.ref hm] rfl) hml hl.1 (by rw [hb]; exact d_M_cell_3) (cd_M_wrong G hW) ⟨Nat.le_of_ble_eq_true rfl, Nat.le_of_ble_eq_true rfl⟩ rfl rfl (Nat.le_of_ble_eq_true rfl) (Nat.le_of_ble_eq_true rfl) (Nat.le_of_ble_eq_true rfl) ?_
  refine tp_i (y := (nI 0)) (by rw [if_neg h0]) ?_
  refine lv_if_le (tgt := 13) hx hb d_M_cell_6 (by decide) (fun c_6 => ?_) (fun c_6 => absurd (by decide) c_6)
  refine lv_iconst (v := (nI 0)) hx hb d_M_cell_13 (by decide) ?_
  refine va_put (D := D) (ci := 4) (v := .int (nI 0)) (ty := .int) (C := R_M) (T := T_M) (N := 12) hx hb (us_M G hW) (fun _ h => h) t_M to_M nm_M hown hK hP hD hS 0 rfl rfl 0 (by decide) (fl_M_43 G hW) (fun _ h9 => h9) rfl (by decide +kernel) rfl rfl (Nat.le_of_ble_eq_true rfl) d_M_cell_14 (fun H locs hP hD hS => ?_)
  have hP : va_P D vcl [(hm, .inr (4, [.int (nI 0), .ref a1, .ref a2, .ref a3, .ref a4, .ref a5, .ref a6, .ref a7, .ref a8, .ref a9, .ref a10, .ref a11])), (a1, aN cI 4 ki), (a2, aN cI 4 ka), (a3, aN cI 4 kb), (a4, aI cI 4 zs), (a5, aI cI 4 pu), (a6, aN cI 4096 ce), (a7, aN cI 1024 pa), (a8, aN cI 1024 tr), (a9, aI cI 256 so), (a10, aN cI 6 pl), (a11, aN cI 6 ot)] H := hP
  have hD : va_D (Aa [hm, a1, a2, a3, a4, a5, a6, a7, a8, a9, a10, a11] H0.size) [(hm, .inr (4, [.int (nI 0), .ref a1, .ref a2, .ref a3, .ref a4, .ref a5, .ref a6, .ref a7, .ref a8, .ref a9, .ref a10, .ref a11])), (a1, aN cI 4 ki), (a2, aN cI 4 ka), (a3, aN cI 4 kb), (a4, aI cI 4 zs), (a5, aI cI 4 pu), (a6, aN cI 4096 ce), (a7, aN cI 1024 pa), (a8, aN cI 1024 tr), (a9, aI cI 256 so), (a10, aN cI 6 pl), (a11, aN cI 6 ot)] := hD
  refine lv_aload_n hx hb d_M_cell_17 rfl (lv_at hl 0 rfl) ?_
  refine va_get (D := D) (ci := 4) (v := .int (nI 0)) (C := R_M) (T := T_M) (N := 12) hx hb (us_M G hW) (fun _ h => h) hown hK hP 0 rfl rfl 0 (by decide) (fl_M_43 G hW) (fun _ h9 => h9) rfl d_M_cell_18 ?_
  refine lv_if_le (tgt := 26) hx hb d_M_cell_21 (by decide) (fun c_21 => ?_) (fun c_21 => absurd (by decide) c_21)
  refine lv_aload_n hx hb d_M_cell_26 rfl (lv_at hl 0 rfl) ?_
  refine va_get (D := D) (ci := 4) (v := .ref a1) (C := R_M) (T := T_M) (N := 12) hx hb (us_M G hW) (fun _ h => h) hown hK hP 0 rfl rfl 1 (by decide) (fl_M_7 G hW) (fun _ h9 => h9) rfl d_M_cell_27 ?_
  refine lv_iload_n hx hb d_M_cell_30 rfl (lv_at hl 1 rfl) ?_
  refine ia_ld hx hb hK hP 1 (j := j) rfl (hj) (by decide) d_M_cell_31 ?_
  refine tp_i (y := (nI (ki j))) rfl ?_
  refine tp_i (y := (nI 1)) (by rw [p1]) ?_
  refine lv_iconst (v := (nI 2)) hx hb d_M_cell_32 (by decide) ?_
  refine lv_icmp_ne (tgt := 47) hx hb d_M_cell_33 (by decide) (fun c_33 => ?_) (fun c_33 => absurd c_33 (by decide))
  refine lv_iconst (v := (nI 1)) hx hb d_M_cell_47 (by decide) ?_
  refine lv_aload_n hx hb d_M_cell_48 rfl (lv_at hl 0 rfl) ?_
  refine va_get (D := D) (ci := 4) (v := .ref a2) (C := R_M) (T := T_M) (N := 12) hx hb (us_M G hW) (fun _ h => h) hown hK hP 0 rfl rfl 2 (by decide) (fl_M_13 G hW) (fun _ h9 => h9) rfl d_M_cell_49 ?_
  refine lv_iload_n hx hb d_M_cell_52 rfl (lv_at hl 1 rfl) ?_
  refine ia_ld hx hb hK hP 2 (j := j) rfl (hj) (by decide) d_M_cell_53 ?_
  refine tp_i (y := (nI (ka j))) rfl ?_
  refine tp_i (y := (nI A)) (by rw [p2]) ?_
  refine lv_ishl hx hb d_M_cell_54 ?_
  refine tp_i (y := (nI (2 ^ A))) (pw_shl A (by omega)) ?_
  refine lv_istore_n (lv' := [(3, .int (nI (2 ^ A))), (0, .ref hm), (1, .int (nI j)), (2, .int iv)]) hx hb d_M_cell_55 rfl hl (by decide) rfl (fun ls hl => ?_)
  refine lv_aload_n hx hb d_M_cell_56 rfl (lv_at hl 1 rfl) ?_
  refine lv_iload_n hx hb d_M_cell_57 rfl (lv_at hl 3 rfl) ?_
  refine lv_if_lt (tgt := 70) hx hb d_M_cell_58 (by decide) (fun c_58 => ?_) (fun c_58 => ?_)
  · refine lv_iconst (v := (nI 2)) hx hb d_M_cell_70 (by decide) ?_
    refine va_put (D := D) (ci := 4) (v := .int (nI 2)) (ty := .int) (C := R_M) (T := T_M) (N := 12) hx hb (us_M G hW) (fun _ h => h) t_M to_M nm_M hown hK hP hD hS 0 rfl rfl 0 (by decide) (fl_M_43 G hW) (fun _ h9 => h9) rfl (by decide +kernel) rfl rfl (Nat.le_of_ble_eq_true rfl) d_M_cell_71 (fun H locs hP hD hS => ?_)
    have hP : va_P D vcl [(hm, .inr (4, [.int (nI 2), .ref a1, .ref a2, .ref a3, .ref a4, .ref a5, .ref a6, .ref a7, .ref a8, .ref a9, .ref a10, .ref a11])), (a1, aN cI 4 ki), (a2, aN cI 4 ka), (a3, aN cI 4 kb), (a4, aI cI 4 zs), (a5, aI cI 4 pu), (a6, aN cI 4096 ce), (a7, aN cI 1024 pa), (a8, aN cI 1024 tr), (a9, aI cI 256 so), (a10, aN cI 6 pl), (a11, aN cI 6 ot)] H := hP
    have hD : va_D (Aa [hm, a1, a2, a3, a4, a5, a6, a7, a8, a9, a10, a11] H0.size) [(hm, .inr (4, [.int (nI 2), .ref a1, .ref a2, .ref a3, .ref a4, .ref a5, .ref a6, .ref a7, .ref a8, .ref a9, .ref a10, .ref a11])), (a1, aN cI 4 ki), (a2, aN cI 4 ka), (a3, aN cI 4 kb), (a4, aI cI 4 zs), (a5, aI cI 4 pu), (a6, aN cI 4096 ce), (a7, aN cI 1024 pa), (a8, aN cI 1024 tr), (a9, aI cI 256 so), (a10, aN cI 6 pl), (a11, aN cI 6 ot)] := hD
    refine lv_aload_n hx hb d_M_cell_74 rfl (lv_at hl 1 rfl) ?_
    refine va_get (D := D) (ci := 4) (v := .int (nI 2)) (C := R_M) (T := T_M) (N := 12) hx hb (us_M G hW) (fun _ h => h) hown hK hP 0 rfl rfl 0 (by decide) (fl_M_43 G hW) (fun _ h9 => h9) rfl d_M_cell_75 ?_
    refine lv_if_le (tgt := 83) hx hb d_M_cell_78 (by decide) (fun c_78 => absurd c_78 (by decide)) (fun c_78 => ?_)
    refine lv_iconst (v := (nI 0)) hx hb d_M_cell_81 (by decide) ?_
    exact mx_iret hx hb hr hlk d_M_cell_82 (Nat.le_of_ble_eq_true rfl) (Nat.le_of_ble_eq_true rfl) hS.2.2 (⟨rfl, ki, ka, kb, zs, pu, ce, pa, tr, so, pl, ot, hP, hpic⟩)
  · refine lv_iload_n hx hb d_M_cell_61 rfl (lv_at hl 3 rfl) ?_
    refine lv_iload_n hx hb d_M_cell_62 rfl (lv_at hl 0 rfl) ?_
    refine lv_icmp_ge (tgt := 70) hx hb d_M_cell_63 (by decide) (fun c_63 => ?_) (fun c_63 => absurd (hbad.resolve_left c_58) c_63)
    refine lv_iconst (v := (nI 2)) hx hb d_M_cell_70 (by decide) ?_
    refine va_put (D := D) (ci := 4) (v := .int (nI 2)) (ty := .int) (C := R_M) (T := T_M) (N := 12) hx hb (us_M G hW) (fun _ h => h) t_M to_M nm_M hown hK hP hD hS 0 rfl rfl 0 (by decide) (fl_M_43 G hW) (fun _ h9 => h9) rfl (by decide +kernel) rfl rfl (Nat.le_of_ble_eq_true rfl) d_M_cell_71 (fun H locs hP hD hS => ?_)
    have hP : va_P D vcl [(hm, .inr (4, [.int (nI 2), .ref a1, .ref a2, .ref a3, .ref a4, .ref a5, .ref a6, .ref a7, .ref a8, .ref a9, .ref a10, .ref a11])), (a1, aN cI 4 ki), (a2, aN cI 4 ka), (a3, aN cI 4 kb), (a4, aI cI 4 zs), (a5, aI cI 4 pu), (a6, aN cI 4096 ce), (a7, aN cI 1024 pa), (a8, aN cI 1024 tr), (a9, aI cI 256 so), (a10, aN cI 6 pl), (a11, aN cI 6 ot)] H := hP
    have hD : va_D (Aa [hm, a1, a2, a3, a4, a5, a6, a7, a8, a9, a10, a11] H0.size) [(hm, .inr (4, [.int (nI 2), .ref a1, .ref a2, .ref a3, .ref a4, .ref a5, .ref a6, .ref a7, .ref a8, .ref a9, .ref a10, .ref a11])), (a1, aN cI 4 ki), (a2, aN cI 4 ka), (a3, aN cI 4 kb), (a4, aI cI 4 zs), (a5, aI cI 4 pu), (a6, aN cI 4096 ce), (a7, aN cI 1024 pa), (a8, aN cI 1024 tr), (a9, aI cI 256 so), (a10, aN cI 6 pl), (a11, aN cI 6 ot)] := hD
    refine lv_aload_n hx hb d_M_cell_74 rfl (lv_at hl 1 rfl) ?_
    refine va_get (D := D) (ci := 4) (v := .int (nI 2)) (C := R_M) (T := T_M) (N := 12) hx hb (us_M G hW) (fun _ h => h) hown hK hP 0 rfl rfl 0 (by decide) (fl_M_43 G hW) (fun _ h9 => h9) rfl d_M_cell_75 ?_
    refine lv_if_le (tgt := 83) hx hb d_M_cell_78 (by decide) (fun c_78 => absurd c_78 (by decide)) (fun c_78 => ?_)
    refine lv_iconst (v := (nI 0)) hx hb d_M_cell_81 (by decide) ?_
    exact mx_iret hx hb hr hlk d_M_cell_82 (Nat.le_of_ble_eq_true rfl) (Nat.le_of_ble_eq_true rfl) hS.2.2 (⟨rfl, ki, ka, kb, zs, pu, ce, pa, tr, so, pl, ot, hP, hpic⟩)

set_option maxHeartbeats 4000000 in
set_option maxRecDepth 100000 in
theorem c_M_cell_2 {l : Launch} {s0 : State} {D : va_G} {cI cF cJ : ClassId} (G : Gx l s0 D cI cF cJ) (hm a1 a2 a3 a4 a5 a6 a7 a8 a9 a10 a11 : Nat) (th : Int32) (S : Nat → FS) (j A B n : Nat) (hd pv : Int32) (cs f : Nat → Nat) (z : Nat) {H0 : Heap} {A0 : Nat → Prop} (hM : MP D cI hm a1 a2 a3 a4 a5 a6 a7 a8 a9 a10 a11 th S H0) (hD : va_D A0 (adM hm a1 a2 a3 a4 a5 a6 a7 a8 a9 a10 a11)) (hok : ∀ i, i < 4 → okS (S i)) (hj : j < 4) (hSj : S j = (2, A, B, hd, pv, cs, n, f)) (hz : z < (4 * 2 ^ A)) : Mx l s0 y_M_cell (.code y_M_cell b_M_cell 4 (some .int)) { frames := 7, cells := 0, slots := 0, locals := 170 } [.ref hm, .int (nI j), .int (nI z)] H0 (Aa [hm, a1, a2, a3, a4, a5, a6, a7, a8, a9, a10, a11] H0.size) (Rw (.int (lokS (S j) z)) (fun H1 => MP D cI hm a1 a2 a3 a4 a5 a6 a7 a8 a9 a10 a11 (nI 0) S H1)) := by
  refine Mx.ofW (own := "FewBitsModel") rfl rfl ?_
  rintro p e s m below meth c ⟨hx, hb, hml, hr, hown, hW, hlk⟩ hnm het hH
  have hK := G.k hW
  have hD0 := hD
  obtain ⟨ki, ka, kb, zs, pu, ce, pa, tr, so, pl, ot, hP, hpic⟩ := hM
  have hD : va_D (Aa [hm, a1, a2, a3, a4, a5, a6, a7, a8, a9, a10, a11] H0.size) [(hm, .inr (4, [.int th, .ref a1, .ref a2, .ref a3, .ref a4, .ref a5, .ref a6, .ref a7, .ref a8, .ref a9, .ref a10, .ref a11])), (a1, aN cI 4 ki), (a2, aN cI 4 ka), (a3, aN cI 4 kb), (a4, aI cI 4 zs), (a5, aI cI 4 pu), (a6, aN cI 4096 ce), (a7, aN cI 1024 pa), (a8, aN cI 1024 tr), (a9, aI cI 256 so), (a10, aN cI 6 pl), (a11, aN cI 6 ot)] := va_D.same2 [hm, a1, a2, a3, a4, a5, a6, a7, a8, a9, a10, a11] (hD.aa (sz := H0.size)) rfl rfl
  have hS : va_S (Aa [hm, a1, a2, a3, a4, a5, a6, a7, a8, a9, a10, a11] H0.size) H0 H0 [] := va_S.rf
  have hpj := hpic j hj
  rw [hSj] at hpj
  obtain ⟨p1, p2, p3, p4, p5, p7, p6⟩ := hpj.f2
  have hoj := hok j hj
  rw [hSj] at hoj
  have hq := okS_2.mp hoj
  have h0 : (S j).1 ≠ 0 := by rw [hSj]; exact (by decide : 2 ≠ 0)
  have hA : A ≤ 8 := hq.2.1
  have hB4 : 4 ≤ B := hq.2.2.1
  have hB : B ≤ 16 := hq.2.2.2.1
  have hs := hq.ce p5
  have h8 := p2_le hA
  have hl := lv_entry ([.ref hm, .int (nI j), .int (nI z)]) (n := 4) (Nat.le_of_ble_eq_true rfl)
  rw [lg_entry_eq]
  generalize (lg_sl ([.ref hm, .int (nI j), .int (nI z)]) ++ List.replicate (4 - (lg_sl ([.ref hm, .int (nI j), .int (nI z)])).length) Slot.unset).toArray = ls at hl ⊢
  have hl : lv_has ls 4 [(0, .ref hm), (1, .int (nI j)), (2, .int (nI z))] := hl
  refine lv_aload_n hx hb d_M_cell_0 rfl (lv_at hl 0 rfl) ?_
  refine lv_aload_n hx hb d_M_cell_1 rfl (lv_at hl 0 rfl) ?_
  refine lv_iload_n hx hb d_M_cell_2 rfl (lv_at hl 1 rfl) ?_
  refine mx_callR (r := .int (nI (if (S j).1 = 0 then 2 else 0))) (c_M_wrg G hm a1 a2 a3 a4 a5 a6 a7 a8 a9 a10 a11 th S j ⟨ki, ka, kb, zs, pu, ce, pa, tr, so, pl, ot, hP, hpic⟩ hD0 hok hj) hW (iv_M_cell_3 G hx hb hown hW (va_recv hK hP (ci := 4) (q0 := 0) rfl rfl) [.int (nI j)] [.ref hm] rfl) hml hl.1 (by rw [hb]; exact d_M_cell_3) (cd_M_wrong G hW) ⟨Nat.le_of_ble_eq_true rfl, Nat.le_of_ble_eq_true rfl⟩ rfl rfl (Nat.le_of_ble_eq_true rfl) (Nat.le_of_ble_eq_true rfl) (Nat.le_of_ble_eq_true rfl) ?_
  refine tp_i (y := (nI 0)) (by rw [if_neg h0]) ?_
  refine lv_if_le (tgt := 13) hx hb d_M_cell_6 (by decide) (fun c_6 => ?_) (fun c_6 => absurd (by decide) c_6)
  refine lv_iconst (v := (nI 0)) hx hb d_M_cell_13 (by decide) ?_
  refine va_put (D := D) (ci := 4) (v := .int (nI 0)) (ty := .int) (C := R_M) (T := T_M) (N := 12) hx hb (us_M G hW) (fun _ h => h) t_M to_M nm_M hown hK hP hD hS 0 rfl rfl 0 (by decide) (fl_M_43 G hW) (fun _ h9 => h9) rfl (by decide +kernel) rfl rfl (Nat.le_of_ble_eq_true rfl) d_M_cell_14 (fun H locs hP hD hS => ?_)
  have hP : va_P D vcl [(hm, .inr (4, [.int (nI 0), .ref a1, .ref a2, .ref a3, .ref a4, .ref a5, .ref a6, .ref a7, .ref a8, .ref a9, .ref a10, .ref a11])), (a1, aN cI 4 ki), (a2, aN cI 4 ka), (a3, aN cI 4 kb), (a4, aI cI 4 zs), (a5, aI cI 4 pu), (a6, aN cI 4096 ce), (a7, aN cI 1024 pa), (a8, aN cI 1024 tr), (a9, aI cI 256 so), (a10, aN cI 6 pl), (a11, aN cI 6 ot)] H := hP
  have hD : va_D (Aa [hm, a1, a2, a3, a4, a5, a6, a7, a8, a9, a10, a11] H0.size) [(hm, .inr (4, [.int (nI 0), .ref a1, .ref a2, .ref a3, .ref a4, .ref a5, .ref a6, .ref a7, .ref a8, .ref a9, .ref a10, .ref a11])), (a1, aN cI 4 ki), (a2, aN cI 4 ka), (a3, aN cI 4 kb), (a4, aI cI 4 zs), (a5, aI cI 4 pu), (a6, aN cI 4096 ce), (a7, aN cI 1024 pa), (a8, aN cI 1024 tr), (a9, aI cI 256 so), (a10, aN cI 6 pl), (a11, aN cI 6 ot)] := hD
  refine lv_aload_n hx hb d_M_cell_17 rfl (lv_at hl 0 rfl) ?_
  refine va_get (D := D) (ci := 4) (v := .int (nI 0)) (C := R_M) (T := T_M) (N := 12) hx hb (us_M G hW) (fun _ h => h) hown hK hP 0 rfl rfl 0 (by decide) (fl_M_43 G hW) (fun _ h9 => h9) rfl d_M_cell_18 ?_
  refine lv_if_le (tgt := 26) hx hb d_M_cell_21 (by decide) (fun c_21 => ?_) (fun c_21 => absurd (by decide) c_21)
  refine lv_aload_n hx hb d_M_cell_26 rfl (lv_at hl 0 rfl) ?_
  refine va_get (D := D) (ci := 4) (v := .ref a1) (C := R_M) (T := T_M) (N := 12) hx hb (us_M G hW) (fun _ h => h) hown hK hP 0 rfl rfl 1 (by decide) (fl_M_7 G hW) (fun _ h9 => h9) rfl d_M_cell_27 ?_
  refine lv_iload_n hx hb d_M_cell_30 rfl (lv_at hl 1 rfl) ?_
  refine ia_ld hx hb hK hP 1 (j := j) rfl (hj) (by decide) d_M_cell_31 ?_
  refine tp_i (y := (nI (ki j))) rfl ?_
  refine tp_i (y := (nI 2)) (by rw [p1]) ?_
  refine lv_iconst (v := (nI 2)) hx hb d_M_cell_32 (by decide) ?_
  refine lv_icmp_ne (tgt := 47) hx hb d_M_cell_33 (by decide) (fun c_33 => absurd (rfl) c_33) (fun c_33 => ?_)
  refine lv_iconst (v := (nI 4)) hx hb d_M_cell_36 (by decide) ?_
  refine lv_aload_n hx hb d_M_cell_37 rfl (lv_at hl 0 rfl) ?_
  refine va_get (D := D) (ci := 4) (v := .ref a2) (C := R_M) (T := T_M) (N := 12) hx hb (us_M G hW) (fun _ h => h) hown hK hP 0 rfl rfl 2 (by decide) (fl_M_13 G hW) (fun _ h9 => h9) rfl d_M_cell_38 ?_
  refine lv_iload_n hx hb d_M_cell_41 rfl (lv_at hl 1 rfl) ?_
  refine ia_ld hx hb hK hP 2 (j := j) rfl (hj) (by decide) d_M_cell_42 ?_
  refine tp_i (y := (nI (ka j))) rfl ?_
  refine tp_i (y := (nI A)) (by rw [p2]) ?_
  refine lv_ishl hx hb d_M_cell_43 ?_
  refine tp_i (y := (nI (4 * 2 ^ A))) (shl_B (by omega) (by omega)) ?_
  refine lv_goto (tgt := 55) hx hb d_M_cell_44 (by decide) ?_
  refine lv_istore_n (lv' := [(3, .int (nI (4 * 2 ^ A))), (0, .ref hm), (1, .int (nI j)), (2, .int (nI z))]) hx hb d_M_cell_55 rfl hl (by decide) rfl (fun ls hl => ?_)
  refine lv_aload_n hx hb d_M_cell_56 rfl (lv_at hl 1 rfl) ?_
  refine lv_iload_n hx hb d_M_cell_57 rfl (lv_at hl 3 rfl) ?_
  refine lv_if_lt (tgt := 70) hx hb d_M_cell_58 (by decide) (fun c_58 => absurd c_58 (nI_pos (by omega))) (fun c_58 => ?_)
  refine lv_iload_n hx hb d_M_cell_61 rfl (lv_at hl 3 rfl) ?_
  refine lv_iload_n hx hb d_M_cell_62 rfl (lv_at hl 0 rfl) ?_
  refine lv_icmp_ge (tgt := 70) hx hb d_M_cell_63 (by decide) (fun c_63 => absurd c_63 (nI_ge hz (by omega))) (fun c_63 => ?_)
  refine lv_iconst (v := (nI 0)) hx hb d_M_cell_66 (by decide) ?_
  refine lv_goto (tgt := 71) hx hb d_M_cell_67 (by decide) ?_
  refine va_put (D := D) (ci := 4) (v := .int (nI 0)) (ty := .int) (C := R_M) (T := T_M) (N := 12) hx hb (us_M G hW) (fun _ h => h) t_M to_M nm_M hown hK hP hD hS 0 rfl rfl 0 (by decide) (fl_M_43 G hW) (fun _ h9 => h9) rfl (by decide +kernel) rfl rfl (Nat.le_of_ble_eq_true rfl) d_M_cell_71 (fun H locs hP hD hS => ?_)
  have hP : va_P D vcl [(hm, .inr (4, [.int (nI 0), .ref a1, .ref a2, .ref a3, .ref a4, .ref a5, .ref a6, .ref a7, .ref a8, .ref a9, .ref a10, .ref a11])), (a1, aN cI 4 ki), (a2, aN cI 4 ka), (a3, aN cI 4 kb), (a4, aI cI 4 zs), (a5, aI cI 4 pu), (a6, aN cI 4096 ce), (a7, aN cI 1024 pa), (a8, aN cI 1024 tr), (a9, aI cI 256 so), (a10, aN cI 6 pl), (a11, aN cI 6 ot)] H := hP
  have hD : va_D (Aa [hm, a1, a2, a3, a4, a5, a6, a7, a8, a9, a10, a11] H0.size) [(hm, .inr (4, [.int (nI 0), .ref a1, .ref a2, .ref a3, .ref a4, .ref a5, .ref a6, .ref a7, .ref a8, .ref a9, .ref a10, .ref a11])), (a1, aN cI 4 ki), (a2, aN cI 4 ka), (a3, aN cI 4 kb), (a4, aI cI 4 zs), (a5, aI cI 4 pu), (a6, aN cI 4096 ce), (a7, aN cI 1024 pa), (a8, aN cI 1024 tr), (a9, aI cI 256 so), (a10, aN cI 6 pl), (a11, aN cI 6 ot)] := hD
  refine lv_aload_n hx hb d_M_cell_74 rfl (lv_at hl 1 rfl) ?_
  refine va_get (D := D) (ci := 4) (v := .int (nI 0)) (C := R_M) (T := T_M) (N := 12) hx hb (us_M G hW) (fun _ h => h) hown hK hP 0 rfl rfl 0 (by decide) (fl_M_43 G hW) (fun _ h9 => h9) rfl d_M_cell_75 ?_
  refine lv_if_le (tgt := 83) hx hb d_M_cell_78 (by decide) (fun c_78 => ?_) (fun c_78 => absurd (by decide) c_78)
  refine lv_aload_n hx hb d_M_cell_83 rfl (lv_at hl 1 rfl) ?_
  refine va_get (D := D) (ci := 4) (v := .ref a1) (C := R_M) (T := T_M) (N := 12) hx hb (us_M G hW) (fun _ h => h) hown hK hP 0 rfl rfl 1 (by decide) (fl_M_7 G hW) (fun _ h9 => h9) rfl d_M_cell_84 ?_
  refine lv_iload_n hx hb d_M_cell_87 rfl (lv_at hl 2 rfl) ?_
  refine ia_ld hx hb hK hP 1 (j := j) rfl (hj) (by decide) d_M_cell_88 ?_
  refine tp_i (y := (nI (ki j))) rfl ?_
  refine tp_i (y := (nI 2)) (by rw [p1]) ?_
  refine lv_iconst (v := (nI 3)) hx hb d_M_cell_89 (by decide) ?_
  refine lv_icmp_ne (tgt := 102) hx hb d_M_cell_90 (by decide) (fun c_90 => ?_) (fun c_90 => absurd c_90 (by decide))
  refine lv_aload_n hx hb d_M_cell_102 rfl (lv_at hl 1 rfl) ?_
  refine va_get (D := D) (ci := 4) (v := .ref a6) (C := R_M) (T := T_M) (N := 12) hx hb (us_M G hW) (fun _ h => h) hown hK hP 0 rfl rfl 6 (by decide) (fl_M_25 G hW) (fun _ h9 => h9) rfl d_M_cell_103 ?_
  refine lv_sipush (v := (nI 1024)) hx hb d_M_cell_106 (by decide) ?_
  refine lv_iload_n hx hb d_M_cell_109 rfl (lv_at hl 2 rfl) ?_
  refine lv_imul hx hb d_M_cell_110 ?_
  refine tp_i (y := (nI (1024 * j))) (pk_mul _ _) ?_
  refine lv_iload_n hx hb d_M_cell_111 rfl (lv_at hl 3 rfl) ?_
  refine lv_iadd hx hb d_M_cell_112 ?_
  refine tp_i (y := (nI ((1024 * j) + z))) (nI_add _ _) ?_
  refine ia_ld hx hb hK hP 6 (j := ((1024 * j) + z)) rfl (by omega) (by decide) d_M_cell_113 ?_
  refine tp_i (y := (nI (ce ((1024 * j) + z)))) rfl ?_
  refine tp_i (y := (lokS (S j) z)) (by rw [hSj]; exact congrArg nI (p5 z (by omega))) ?_
  exact mx_iret hx hb hr hlk d_M_cell_114 (Nat.le_of_ble_eq_true rfl) (Nat.le_of_ble_eq_true rfl) hS.2.2 (⟨rfl, ki, ka, kb, zs, pu, ce, pa, tr, _, pl, ot, hP, hpic⟩)

set_option maxHeartbeats 4000000 in
set_option maxRecDepth 100000 in
theorem c_M_cell_2_out {l : Launch} {s0 : State} {D : va_G} {cI cF cJ : ClassId} (G : Gx l s0 D cI cF cJ) (hm a1 a2 a3 a4 a5 a6 a7 a8 a9 a10 a11 : Nat) (th : Int32) (S : Nat → FS) (j A B n : Nat) (hd pv : Int32) (cs f : Nat → Nat) (iv : Int32) {H0 : Heap} {A0 : Nat → Prop} (hM : MP D cI hm a1 a2 a3 a4 a5 a6 a7 a8 a9 a10 a11 th S H0) (hD : va_D A0 (adM hm a1 a2 a3 a4 a5 a6 a7 a8 a9 a10 a11)) (hok : ∀ i, i < 4 → okS (S i)) (hj : j < 4) (hSj : S j = (2, A, B, hd, pv, cs, n, f)) (hbad : iv < 0 ∨ nI (4 * 2 ^ A) ≤ iv) : Mx l s0 y_M_cell (.code y_M_cell b_M_cell 4 (some .int)) { frames := 7, cells := 0, slots := 0, locals := 170 } [.ref hm, .int (nI j), .int iv] H0 (Aa [hm, a1, a2, a3, a4, a5, a6, a7, a8, a9, a10, a11] H0.size) (Rw (.int (nI 0)) (fun H1 => MP D cI hm a1 a2 a3 a4 a5 a6 a7 a8 a9 a10 a11 (nI 2) S H1)) := by
  refine Mx.ofW (own := "FewBitsModel") rfl rfl ?_
  rintro p e s m below meth c ⟨hx, hb, hml, hr, hown, hW, hlk⟩ hnm het hH
  have hK := G.k hW
  have hD0 := hD
  obtain ⟨ki, ka, kb, zs, pu, ce, pa, tr, so, pl, ot, hP, hpic⟩ := hM
  have hD : va_D (Aa [hm, a1, a2, a3, a4, a5, a6, a7, a8, a9, a10, a11] H0.size) [(hm, .inr (4, [.int th, .ref a1, .ref a2, .ref a3, .ref a4, .ref a5, .ref a6, .ref a7, .ref a8, .ref a9, .ref a10, .ref a11])), (a1, aN cI 4 ki), (a2, aN cI 4 ka), (a3, aN cI 4 kb), (a4, aI cI 4 zs), (a5, aI cI 4 pu), (a6, aN cI 4096 ce), (a7, aN cI 1024 pa), (a8, aN cI 1024 tr), (a9, aI cI 256 so), (a10, aN cI 6 pl), (a11, aN cI 6 ot)] := va_D.same2 [hm, a1, a2, a3, a4, a5, a6, a7, a8, a9, a10, a11] (hD.aa (sz := H0.size)) rfl rfl
  have hS : va_S (Aa [hm, a1, a2, a3, a4, a5, a6, a7, a8, a9, a10, a11] H0.size) H0 H0 [] := va_S.rf
  have hpj := hpic j hj
  rw [hSj] at hpj
  obtain ⟨p1, p2, p3, p4, p5, p7, p6⟩ := hpj.f2
  have hoj := hok j hj
  rw [hSj] at hoj
  have hq := okS_2.mp hoj
  have h0 : (S j).1 ≠ 0 := by rw [hSj]; exact (by decide : 2 ≠ 0)
  have hA : A ≤ 8 := hq.2.1
  have hB4 : 4 ≤ B := hq.2.2.1
  have hB : B ≤ 16 := hq.2.2.2.1
  have hs := hq.ce p5
  have h8 := p2_le hA
  have hl := lv_entry ([.ref hm, .int (nI j), .int iv]) (n := 4) (Nat.le_of_ble_eq_true rfl)
  rw [lg_entry_eq]
  generalize (lg_sl ([.ref hm, .int (nI j), .int iv]) ++ List.replicate (4 - (lg_sl ([.ref hm, .int (nI j), .int iv])).length) Slot.unset).toArray = ls at hl ⊢
  have hl : lv_has ls 4 [(0, .ref hm), (1, .int (nI j)), (2, .int iv)] := hl
  refine lv_aload_n hx hb d_M_cell_0 rfl (lv_at hl 0 rfl) ?_
  refine lv_aload_n hx hb d_M_cell_1 rfl (lv_at hl 0 rfl) ?_
  refine lv_iload_n hx hb d_M_cell_2 rfl (lv_at hl 1 rfl) ?_
  refine mx_callR (r := .int (nI (if (S j).1 = 0 then 2 else 0))) (c_M_wrg G hm a1 a2 a3 a4 a5 a6 a7 a8 a9 a10 a11 th S j ⟨ki, ka, kb, zs, pu, ce, pa, tr, so, pl, ot, hP, hpic⟩ hD0 hok hj) hW (iv_M_cell_3 G hx hb hown hW (va_recv hK hP (ci := 4) (q0 := 0) rfl rfl) [.int (nI j)] [.ref hm] rfl) hml hl.1 (by rw [hb]; exact d_M_cell_3) (cd_M_wrong G hW) ⟨Nat.le_of_ble_eq_true rfl, Nat.le_of_ble_eq_true rfl⟩ rfl rfl (Nat.le_of_ble_eq_true rfl) (Nat.le_of_ble_eq_true rfl) (Nat.le_of_ble_eq_true rfl) ?_
  refine tp_i (y := (nI 0)) (by rw [if_neg h0]) ?_
  refine lv_if_le (tgt := 13) hx hb d_M_cell_6 (by decide) (fun c_6 => ?_) (fun c_6 => absurd (by decide) c_6)
  refine lv_iconst (v := (nI 0)) hx hb d_M_cell_13 (by decide) ?_
  refine va_put (D := D) (ci := 4) (v := .int (nI 0)) (ty := .int) (C := R_M) (T := T_M) (N := 12) hx hb (us_M G hW) (fun _ h => h) t_M to_M nm_M hown hK hP hD hS 0 rfl rfl 0 (by decide) (fl_M_43 G hW) (fun _ h9 => h9) rfl (by decide +kernel) rfl rfl (Nat.le_of_ble_eq_true rfl) d_M_cell_14 (fun H locs hP hD hS => ?_)
  have hP : va_P D vcl [(hm, .inr (4, [.int (nI 0), .ref a1, .ref a2, .ref a3, .ref a4, .ref a5, .ref a6, .ref a7, .ref a8, .ref a9, .ref a10, .ref a11])), (a1, aN cI 4 ki), (a2, aN cI 4 ka), (a3, aN cI 4 kb), (a4, aI cI 4 zs), (a5, aI cI 4 pu), (a6, aN cI 4096 ce), (a7, aN cI 1024 pa), (a8, aN cI 1024 tr), (a9, aI cI 256 so), (a10, aN cI 6 pl), (a11, aN cI 6 ot)] H := hP
  have hD : va_D (Aa [hm, a1, a2, a3, a4, a5, a6, a7, a8, a9, a10, a11] H0.size) [(hm, .inr (4, [.int (nI 0), .ref a1, .ref a2, .ref a3, .ref a4, .ref a5, .ref a6, .ref a7, .ref a8, .ref a9, .ref a10, .ref a11])), (a1, aN cI 4 ki), (a2, aN cI 4 ka), (a3, aN cI 4 kb), (a4, aI cI 4 zs), (a5, aI cI 4 pu), (a6, aN cI 4096 ce), (a7, aN cI 1024 pa), (a8, aN cI 1024 tr), (a9, aI cI 256 so), (a10, aN cI 6 pl), (a11, aN cI 6 ot)] := hD
  refine lv_aload_n hx hb d_M_cell_17 rfl (lv_at hl 0 rfl) ?_
  refine va_get (D := D) (ci := 4) (v := .int (nI 0)) (C := R_M) (T := T_M) (N := 12) hx hb (us_M G hW) (fun _ h => h) hown hK hP 0 rfl rfl 0 (by decide) (fl_M_43 G hW) (fun _ h9 => h9) rfl d_M_cell_18 ?_
  refine lv_if_le (tgt := 26) hx hb d_M_cell_21 (by decide) (fun c_21 => ?_) (fun c_21 => absurd (by decide) c_21)
  refine lv_aload_n hx hb d_M_cell_26 rfl (lv_at hl 0 rfl) ?_
  refine va_get (D := D) (ci := 4) (v := .ref a1) (C := R_M) (T := T_M) (N := 12) hx hb (us_M G hW) (fun _ h => h) hown hK hP 0 rfl rfl 1 (by decide) (fl_M_7 G hW) (fun _ h9 => h9) rfl d_M_cell_27 ?_
  refine lv_iload_n hx hb d_M_cell_30 rfl (lv_at hl 1 rfl) ?_
  refine ia_ld hx hb hK hP 1 (j := j) rfl (hj) (by decide) d_M_cell_31 ?_
  refine tp_i (y := (nI (ki j))) rfl ?_
  refine tp_i (y := (nI 2)) (by rw [p1]) ?_
  refine lv_iconst (v := (nI 2)) hx hb d_M_cell_32 (by decide) ?_
  refine lv_icmp_ne (tgt := 47) hx hb d_M_cell_33 (by decide) (fun c_33 => absurd (rfl) c_33) (fun c_33 => ?_)
  refine lv_iconst (v := (nI 4)) hx hb d_M_cell_36 (by decide) ?_
  refine lv_aload_n hx hb d_M_cell_37 rfl (lv_at hl 0 rfl) ?_
  refine va_get (D := D) (ci := 4) (v := .ref a2) (C := R_M) (T := T_M) (N := 12) hx hb (us_M G hW) (fun _ h => h) hown hK hP 0 rfl rfl 2 (by decide) (fl_M_13 G hW) (fun _ h9 => h9) rfl d_M_cell_38 ?_
  refine lv_iload_n hx hb d_M_cell_41 rfl (lv_at hl 1 rfl) ?_
  refine ia_ld hx hb hK hP 2 (j := j) rfl (hj) (by decide) d_M_cell_42 ?_
  refine tp_i (y := (nI (ka j))) rfl ?_
  refine tp_i (y := (nI A)) (by rw [p2]) ?_
  refine lv_ishl hx hb d_M_cell_43 ?_
  refine tp_i (y := (nI (4 * 2 ^ A))) (shl_B (by omega) (by omega)) ?_
  refine lv_goto (tgt := 55) hx hb d_M_cell_44 (by decide) ?_
  refine lv_istore_n (lv' := [(3, .int (nI (4 * 2 ^ A))), (0, .ref hm), (1, .int (nI j)), (2, .int iv)]) hx hb d_M_cell_55 rfl hl (by decide) rfl (fun ls hl => ?_)
  refine lv_aload_n hx hb d_M_cell_56 rfl (lv_at hl 1 rfl) ?_
  refine lv_iload_n hx hb d_M_cell_57 rfl (lv_at hl 3 rfl) ?_
  refine lv_if_lt (tgt := 70) hx hb d_M_cell_58 (by decide) (fun c_58 => ?_) (fun c_58 => ?_)
  · refine lv_iconst (v := (nI 2)) hx hb d_M_cell_70 (by decide) ?_
    refine va_put (D := D) (ci := 4) (v := .int (nI 2)) (ty := .int) (C := R_M) (T := T_M) (N := 12) hx hb (us_M G hW) (fun _ h => h) t_M to_M nm_M hown hK hP hD hS 0 rfl rfl 0 (by decide) (fl_M_43 G hW) (fun _ h9 => h9) rfl (by decide +kernel) rfl rfl (Nat.le_of_ble_eq_true rfl) d_M_cell_71 (fun H locs hP hD hS => ?_)
    have hP : va_P D vcl [(hm, .inr (4, [.int (nI 2), .ref a1, .ref a2, .ref a3, .ref a4, .ref a5, .ref a6, .ref a7, .ref a8, .ref a9, .ref a10, .ref a11])), (a1, aN cI 4 ki), (a2, aN cI 4 ka), (a3, aN cI 4 kb), (a4, aI cI 4 zs), (a5, aI cI 4 pu), (a6, aN cI 4096 ce), (a7, aN cI 1024 pa), (a8, aN cI 1024 tr), (a9, aI cI 256 so), (a10, aN cI 6 pl), (a11, aN cI 6 ot)] H := hP
    have hD : va_D (Aa [hm, a1, a2, a3, a4, a5, a6, a7, a8, a9, a10, a11] H0.size) [(hm, .inr (4, [.int (nI 2), .ref a1, .ref a2, .ref a3, .ref a4, .ref a5, .ref a6, .ref a7, .ref a8, .ref a9, .ref a10, .ref a11])), (a1, aN cI 4 ki), (a2, aN cI 4 ka), (a3, aN cI 4 kb), (a4, aI cI 4 zs), (a5, aI cI 4 pu), (a6, aN cI 4096 ce), (a7, aN cI 1024 pa), (a8, aN cI 1024 tr), (a9, aI cI 256 so), (a10, aN cI 6 pl), (a11, aN cI 6 ot)] := hD
    refine lv_aload_n hx hb d_M_cell_74 rfl (lv_at hl 1 rfl) ?_
    refine va_get (D := D) (ci := 4) (v := .int (nI 2)) (C := R_M) (T := T_M) (N := 12) hx hb (us_M G hW) (fun _ h => h) hown hK hP 0 rfl rfl 0 (by decide) (fl_M_43 G hW) (fun _ h9 => h9) rfl d_M_cell_75 ?_
    refine lv_if_le (tgt := 83) hx hb d_M_cell_78 (by decide) (fun c_78 => absurd c_78 (by decide)) (fun c_78 => ?_)
    refine lv_iconst (v := (nI 0)) hx hb d_M_cell_81 (by decide) ?_
    exact mx_iret hx hb hr hlk d_M_cell_82 (Nat.le_of_ble_eq_true rfl) (Nat.le_of_ble_eq_true rfl) hS.2.2 (⟨rfl, ki, ka, kb, zs, pu, ce, pa, tr, so, pl, ot, hP, hpic⟩)
  · refine lv_iload_n hx hb d_M_cell_61 rfl (lv_at hl 3 rfl) ?_
    refine lv_iload_n hx hb d_M_cell_62 rfl (lv_at hl 0 rfl) ?_
    refine lv_icmp_ge (tgt := 70) hx hb d_M_cell_63 (by decide) (fun c_63 => ?_) (fun c_63 => absurd (hbad.resolve_left c_58) c_63)
    refine lv_iconst (v := (nI 2)) hx hb d_M_cell_70 (by decide) ?_
    refine va_put (D := D) (ci := 4) (v := .int (nI 2)) (ty := .int) (C := R_M) (T := T_M) (N := 12) hx hb (us_M G hW) (fun _ h => h) t_M to_M nm_M hown hK hP hD hS 0 rfl rfl 0 (by decide) (fl_M_43 G hW) (fun _ h9 => h9) rfl (by decide +kernel) rfl rfl (Nat.le_of_ble_eq_true rfl) d_M_cell_71 (fun H locs hP hD hS => ?_)
    have hP : va_P D vcl [(hm, .inr (4, [.int (nI 2), .ref a1, .ref a2, .ref a3, .ref a4, .ref a5, .ref a6, .ref a7, .ref a8, .ref a9, .ref a10, .ref a11])), (a1, aN cI 4 ki), (a2, aN cI 4 ka), (a3, aN cI 4 kb), (a4, aI cI 4 zs), (a5, aI cI 4 pu), (a6, aN cI 4096 ce), (a7, aN cI 1024 pa), (a8, aN cI 1024 tr), (a9, aI cI 256 so), (a10, aN cI 6 pl), (a11, aN cI 6 ot)] H := hP
    have hD : va_D (Aa [hm, a1, a2, a3, a4, a5, a6, a7, a8, a9, a10, a11] H0.size) [(hm, .inr (4, [.int (nI 2), .ref a1, .ref a2, .ref a3, .ref a4, .ref a5, .ref a6, .ref a7, .ref a8, .ref a9, .ref a10, .ref a11])), (a1, aN cI 4 ki), (a2, aN cI 4 ka), (a3, aN cI 4 kb), (a4, aI cI 4 zs), (a5, aI cI 4 pu), (a6, aN cI 4096 ce), (a7, aN cI 1024 pa), (a8, aN cI 1024 tr), (a9, aI cI 256 so), (a10, aN cI 6 pl), (a11, aN cI 6 ot)] := hD
    refine lv_aload_n hx hb d_M_cell_74 rfl (lv_at hl 1 rfl) ?_
    refine va_get (D := D) (ci := 4) (v := .int (nI 2)) (C := R_M) (T := T_M) (N := 12) hx hb (us_M G hW) (fun _ h => h) hown hK hP 0 rfl rfl 0 (by decide) (fl_M_43 G hW) (fun _ h9 => h9) rfl d_M_cell_75 ?_
    refine lv_if_le (tgt := 83) hx hb d_M_cell_78 (by decide) (fun c_78 => absurd c_78 (by decide)) (fun c_78 => ?_)
    refine lv_iconst (v := (nI 0)) hx hb d_M_cell_81 (by decide) ?_
    exact mx_iret hx hb hr hlk d_M_cell_82 (Nat.le_of_ble_eq_true rfl) (Nat.le_of_ble_eq_true rfl) hS.2.2 (⟨rfl, ki, ka, kb, zs, pu, ce, pa, tr, so, pl, ot, hP, hpic⟩)

set_option maxHeartbeats 4000000 in
set_option maxRecDepth 100000 in
theorem c_M_cell_3 {l : Launch} {s0 : State} {D : va_G} {cI cF cJ : ClassId} (G : Gx l s0 D cI cF cJ) (hm a1 a2 a3 a4 a5 a6 a7 a8 a9 a10 a11 : Nat) (th : Int32) (S : Nat → FS) (j A B n : Nat) (hd pv : Int32) (cs f : Nat → Nat) (z : Nat) {H0 : Heap} {A0 : Nat → Prop} (hM : MP D cI hm a1 a2 a3 a4 a5 a6 a7 a8 a9 a10 a11 th S H0) (hD : va_D A0 (adM hm a1 a2 a3 a4 a5 a6 a7 a8 a9 a10 a11)) (hok : ∀ i, i < 4 → okS (S i)) (hj : j < 4) (hSj : S j = (3, A, B, hd, pv, cs, n, f)) (hz : z < (2 ^ A)) : Mx l s0 y_M_cell (.code y_M_cell b_M_cell 4 (some .int)) { frames := 7, cells := 0, slots := 0, locals := 170 } [.ref hm, .int (nI j), .int (nI z)] H0 (Aa [hm, a1, a2, a3, a4, a5, a6, a7, a8, a9, a10, a11] H0.size) (Rw (.int (lokS (S j) z)) (fun H1 => MP D cI hm a1 a2 a3 a4 a5 a6 a7 a8 a9 a10 a11 (nI 0) S H1)) := by
  refine Mx.ofW (own := "FewBitsModel") rfl rfl ?_
  rintro p e s m below meth c ⟨hx, hb, hml, hr, hown, hW, hlk⟩ hnm het hH
  have hK := G.k hW
  have hD0 := hD
  obtain ⟨ki, ka, kb, zs, pu, ce, pa, tr, so, pl, ot, hP, hpic⟩ := hM
  have hD : va_D (Aa [hm, a1, a2, a3, a4, a5, a6, a7, a8, a9, a10, a11] H0.size) [(hm, .inr (4, [.int th, .ref a1, .ref a2, .ref a3, .ref a4, .ref a5, .ref a6, .ref a7, .ref a8, .ref a9, .ref a10, .ref a11])), (a1, aN cI 4 ki), (a2, aN cI 4 ka), (a3, aN cI 4 kb), (a4, aI cI 4 zs), (a5, aI cI 4 pu), (a6, aN cI 4096 ce), (a7, aN cI 1024 pa), (a8, aN cI 1024 tr), (a9, aI cI 256 so), (a10, aN cI 6 pl), (a11, aN cI 6 ot)] := va_D.same2 [hm, a1, a2, a3, a4, a5, a6, a7, a8, a9, a10, a11] (hD.aa (sz := H0.size)) rfl rfl
  have hS : va_S (Aa [hm, a1, a2, a3, a4, a5, a6, a7, a8, a9, a10, a11] H0.size) H0 H0 [] := va_S.rf
  have hpj := hpic j hj
  rw [hSj] at hpj
  obtain ⟨p1, p2, p3, p4, p5, p6⟩ := hpj.f3
  have hoj := hok j hj
  rw [hSj] at hoj
  have hq := (okS_3.mp hoj).1
  have hhd := (okS_3.mp hoj).2
  have p4n : zs j = nI n := by rw [p4, hhd]
  have hqA : A ≤ 8 := hq.2.1
  have hqB : B ≤ 20 := hq.2.2.2.1
  have h0 : (S j).1 ≠ 0 := by rw [hSj]; exact (by decide : 3 ≠ 0)
  have h8 := p2_le hqA
  have hnn := hq.n
  have hsr := hq.2.2.2.2.2.1
  have hl := lv_entry ([.ref hm, .int (nI j), .int (nI z)]) (n := 4) (Nat.le_of_ble_eq_true rfl)
  rw [lg_entry_eq]
  generalize (lg_sl ([.ref hm, .int (nI j), .int (nI z)]) ++ List.replicate (4 - (lg_sl ([.ref hm, .int (nI j), .int (nI z)])).length) Slot.unset).toArray = ls at hl ⊢
  have hl : lv_has ls 4 [(0, .ref hm), (1, .int (nI j)), (2, .int (nI z))] := hl
  refine lv_aload_n hx hb d_M_cell_0 rfl (lv_at hl 0 rfl) ?_
  refine lv_aload_n hx hb d_M_cell_1 rfl (lv_at hl 0 rfl) ?_
  refine lv_iload_n hx hb d_M_cell_2 rfl (lv_at hl 1 rfl) ?_
  refine mx_callR (r := .int (nI (if (S j).1 = 0 then 2 else 0))) (c_M_wrg G hm a1 a2 a3 a4 a5 a6 a7 a8 a9 a10 a11 th S j ⟨ki, ka, kb, zs, pu, ce, pa, tr, so, pl, ot, hP, hpic⟩ hD0 hok hj) hW (iv_M_cell_3 G hx hb hown hW (va_recv hK hP (ci := 4) (q0 := 0) rfl rfl) [.int (nI j)] [.ref hm] rfl) hml hl.1 (by rw [hb]; exact d_M_cell_3) (cd_M_wrong G hW) ⟨Nat.le_of_ble_eq_true rfl, Nat.le_of_ble_eq_true rfl⟩ rfl rfl (Nat.le_of_ble_eq_true rfl) (Nat.le_of_ble_eq_true rfl) (Nat.le_of_ble_eq_true rfl) ?_
  refine tp_i (y := (nI 0)) (by rw [if_neg h0]) ?_
  refine lv_if_le (tgt := 13) hx hb d_M_cell_6 (by decide) (fun c_6 => ?_) (fun c_6 => absurd (by decide) c_6)
  refine lv_iconst (v := (nI 0)) hx hb d_M_cell_13 (by decide) ?_
  refine va_put (D := D) (ci := 4) (v := .int (nI 0)) (ty := .int) (C := R_M) (T := T_M) (N := 12) hx hb (us_M G hW) (fun _ h => h) t_M to_M nm_M hown hK hP hD hS 0 rfl rfl 0 (by decide) (fl_M_43 G hW) (fun _ h9 => h9) rfl (by decide +kernel) rfl rfl (Nat.le_of_ble_eq_true rfl) d_M_cell_14 (fun H locs hP hD hS => ?_)
  have hP : va_P D vcl [(hm, .inr (4, [.int (nI 0), .ref a1, .ref a2, .ref a3, .ref a4, .ref a5, .ref a6, .ref a7, .ref a8, .ref a9, .ref a10, .ref a11])), (a1, aN cI 4 ki), (a2, aN cI 4 ka), (a3, aN cI 4 kb), (a4, aI cI 4 zs), (a5, aI cI 4 pu), (a6, aN cI 4096 ce), (a7, aN cI 1024 pa), (a8, aN cI 1024 tr), (a9, aI cI 256 so), (a10, aN cI 6 pl), (a11, aN cI 6 ot)] H := hP
  have hD : va_D (Aa [hm, a1, a2, a3, a4, a5, a6, a7, a8, a9, a10, a11] H0.size) [(hm, .inr (4, [.int (nI 0), .ref a1, .ref a2, .ref a3, .ref a4, .ref a5, .ref a6, .ref a7, .ref a8, .ref a9, .ref a10, .ref a11])), (a1, aN cI 4 ki), (a2, aN cI 4 ka), (a3, aN cI 4 kb), (a4, aI cI 4 zs), (a5, aI cI 4 pu), (a6, aN cI 4096 ce), (a7, aN cI 1024 pa), (a8, aN cI 1024 tr), (a9, aI cI 256 so), (a10, aN cI 6 pl), (a11, aN cI 6 ot)] := hD
  refine lv_aload_n hx hb d_M_cell_17 rfl (lv_at hl 0 rfl) ?_
  refine va_get (D := D) (ci := 4) (v := .int (nI 0)) (C := R_M) (T := T_M) (N := 12) hx hb (us_M G hW) (fun _ h => h) hown hK hP 0 rfl rfl 0 (by decide) (fl_M_43 G hW) (fun _ h9 => h9) rfl d_M_cell_18 ?_
  refine lv_if_le (tgt := 26) hx hb d_M_cell_21 (by decide) (fun c_21 => ?_) (fun c_21 => absurd (by decide) c_21)
  refine lv_aload_n hx hb d_M_cell_26 rfl (lv_at hl 0 rfl) ?_
  refine va_get (D := D) (ci := 4) (v := .ref a1) (C := R_M) (T := T_M) (N := 12) hx hb (us_M G hW) (fun _ h => h) hown hK hP 0 rfl rfl 1 (by decide) (fl_M_7 G hW) (fun _ h9 => h9) rfl d_M_cell_27 ?_
  refine lv_iload_n hx hb d_M_cell_30 rfl (lv_at hl 1 rfl) ?_
  refine ia_ld hx hb hK hP 1 (j := j) rfl (hj) (by decide) d_M_cell_31 ?_
  refine tp_i (y := (nI (ki j))) rfl ?_
  refine tp_i (y := (nI 3)) (by rw [p1]) ?_
  refine lv_iconst (v := (nI 2)) hx hb d_M_cell_32 (by decide) ?_
  refine lv_icmp_ne (tgt := 47) hx hb d_M_cell_33 (by decide) (fun c_33 => ?_) (fun c_33 => absurd c_33 (by decide))
  refine lv_iconst (v := (nI 1)) hx hb d_M_cell_47 (by decide) ?_
  refine lv_aload_n hx hb d_M_cell_48 rfl (lv_at hl 0 rfl) ?_
  refine va_get (D := D) (ci := 4) (v := .ref a2) (C := R_M) (T := T_M) (N := 12) hx hb (us_M G hW) (fun _ h => h) hown hK hP 0 rfl rfl 2 (by decide) (fl_M_13 G hW) (fun _ h9 => h9) rfl d_M_cell_49 ?_
  refine lv_iload_n hx hb d_M_cell_52 rfl (lv_at hl 1 rfl) ?_
  refine ia_ld hx hb hK hP 2 (j := j) rfl (hj) (by decide) d_M_cell_53 ?_
  refine tp_i (y := (nI (ka j))) rfl ?_
  refine tp_i (y := (nI A)) (by rw [p2]) ?_
  refine lv_ishl hx hb d_M_cell_54 ?_
  refine tp_i (y := (nI (2 ^ A))) (pw_shl A (by omega)) ?_
  refine lv_istore_n (lv' := [(3, .int (nI (2 ^ A))), (0, .ref hm), (1, .int (nI j)), (2, .int (nI z))]) hx hb d_M_cell_55 rfl hl (by decide) rfl (fun ls hl => ?_)
  refine lv_aload_n hx hb d_M_cell_56 rfl (lv_at hl 1 rfl) ?_
  refine lv_iload_n hx hb d_M_cell_57 rfl (lv_at hl 3 rfl) ?_
  refine lv_if_lt (tgt := 70) hx hb d_M_cell_58 (by decide) (fun c_58 => absurd c_58 (nI_pos (by omega))) (fun c_58 => ?_)
  refine lv_iload_n hx hb d_M_cell_61 rfl (lv_at hl 3 rfl) ?_
  refine lv_iload_n hx hb d_M_cell_62 rfl (lv_at hl 0 rfl) ?_
  refine lv_icmp_ge (tgt := 70) hx hb d_M_cell_63 (by decide) (fun c_63 => absurd c_63 (nI_ge hz (by omega))) (fun c_63 => ?_)
  refine lv_iconst (v := (nI 0)) hx hb d_M_cell_66 (by decide) ?_
  refine lv_goto (tgt := 71) hx hb d_M_cell_67 (by decide) ?_
  refine va_put (D := D) (ci := 4) (v := .int (nI 0)) (ty := .int) (C := R_M) (T := T_M) (N := 12) hx hb (us_M G hW) (fun _ h => h) t_M to_M nm_M hown hK hP hD hS 0 rfl rfl 0 (by decide) (fl_M_43 G hW) (fun _ h9 => h9) rfl (by decide +kernel) rfl rfl (Nat.le_of_ble_eq_true rfl) d_M_cell_71 (fun H locs hP hD hS => ?_)
  have hP : va_P D vcl [(hm, .inr (4, [.int (nI 0), .ref a1, .ref a2, .ref a3, .ref a4, .ref a5, .ref a6, .ref a7, .ref a8, .ref a9, .ref a10, .ref a11])), (a1, aN cI 4 ki), (a2, aN cI 4 ka), (a3, aN cI 4 kb), (a4, aI cI 4 zs), (a5, aI cI 4 pu), (a6, aN cI 4096 ce), (a7, aN cI 1024 pa), (a8, aN cI 1024 tr), (a9, aI cI 256 so), (a10, aN cI 6 pl), (a11, aN cI 6 ot)] H := hP
  have hD : va_D (Aa [hm, a1, a2, a3, a4, a5, a6, a7, a8, a9, a10, a11] H0.size) [(hm, .inr (4, [.int (nI 0), .ref a1, .ref a2, .ref a3, .ref a4, .ref a5, .ref a6, .ref a7, .ref a8, .ref a9, .ref a10, .ref a11])), (a1, aN cI 4 ki), (a2, aN cI 4 ka), (a3, aN cI 4 kb), (a4, aI cI 4 zs), (a5, aI cI 4 pu), (a6, aN cI 4096 ce), (a7, aN cI 1024 pa), (a8, aN cI 1024 tr), (a9, aI cI 256 so), (a10, aN cI 6 pl), (a11, aN cI 6 ot)] := hD
  refine lv_aload_n hx hb d_M_cell_74 rfl (lv_at hl 1 rfl) ?_
  refine va_get (D := D) (ci := 4) (v := .int (nI 0)) (C := R_M) (T := T_M) (N := 12) hx hb (us_M G hW) (fun _ h => h) hown hK hP 0 rfl rfl 0 (by decide) (fl_M_43 G hW) (fun _ h9 => h9) rfl d_M_cell_75 ?_
  refine lv_if_le (tgt := 83) hx hb d_M_cell_78 (by decide) (fun c_78 => ?_) (fun c_78 => absurd (by decide) c_78)
  refine lv_aload_n hx hb d_M_cell_83 rfl (lv_at hl 1 rfl) ?_
  refine va_get (D := D) (ci := 4) (v := .ref a1) (C := R_M) (T := T_M) (N := 12) hx hb (us_M G hW) (fun _ h => h) hown hK hP 0 rfl rfl 1 (by decide) (fl_M_7 G hW) (fun _ h9 => h9) rfl d_M_cell_84 ?_
  refine lv_iload_n hx hb d_M_cell_87 rfl (lv_at hl 2 rfl) ?_
  refine ia_ld hx hb hK hP 1 (j := j) rfl (hj) (by decide) d_M_cell_88 ?_
  refine tp_i (y := (nI (ki j))) rfl ?_
  refine tp_i (y := (nI 3)) (by rw [p1]) ?_
  refine lv_iconst (v := (nI 3)) hx hb d_M_cell_89 (by decide) ?_
  refine lv_icmp_ne (tgt := 102) hx hb d_M_cell_90 (by decide) (fun c_90 => absurd (rfl) c_90) (fun c_90 => ?_)
  refine lv_aload_n hx hb d_M_cell_93 rfl (lv_at hl 1 rfl) ?_
  refine lv_iload_n hx hb d_M_cell_94 rfl (lv_at hl 2 rfl) ?_
  refine lv_iload_n hx hb d_M_cell_95 rfl (lv_at hl 3 rfl) ?_
  refine mx_callW (r := .int (nI (rcM f B n z (cirF f A B n z)))) (c_M_runCell G hm a1 a2 a3 a4 a5 a6 a7 a8 a9 a10 a11 (nI 0) ki ka kb zs pu ce pa tr so pl ot j A B n f z hP hD hj p2 p3 hq.1 hqA hq.2.2.1 hqB p4n hnn p5 hq.2.2.2.2.2.2 hz) hW (iv_M_cell_96 G hx hb hown hW (va_recv hK hP (ci := 4) (q0 := 0) rfl rfl) [.int (nI j), .int (nI z)] [] rfl) hml hl.1 (by rw [hb]; exact d_M_cell_96) (cd_M_runCell G hW) ⟨Nat.le_of_ble_eq_true rfl, Nat.le_of_ble_eq_true rfl⟩ (Nat.le_of_ble_eq_true rfl) (Nat.le_of_ble_eq_true rfl) (Nat.le_of_ble_eq_true rfl) hS (Aa.mono (fun _ h => h) hS.1) (fun H locs hP _ _ hS => ?_)
  obtain ⟨so1, hP, hsh⟩ := hP
  have hP : va_P D vcl [(hm, .inr (4, [.int (nI 0), .ref a1, .ref a2, .ref a3, .ref a4, .ref a5, .ref a6, .ref a7, .ref a8, .ref a9, .ref a10, .ref a11])), (a1, aN cI 4 ki), (a2, aN cI 4 ka), (a3, aN cI 4 kb), (a4, aI cI 4 zs), (a5, aI cI 4 pu), (a6, aN cI 4096 ce), (a7, aN cI 1024 pa), (a8, aN cI 1024 tr), (a9, aI cI 256 so1), (a10, aN cI 6 pl), (a11, aN cI 6 ot)] H := hP
  have hD : va_D (Aa [hm, a1, a2, a3, a4, a5, a6, a7, a8, a9, a10, a11] H0.size) [(hm, .inr (4, [.int (nI 0), .ref a1, .ref a2, .ref a3, .ref a4, .ref a5, .ref a6, .ref a7, .ref a8, .ref a9, .ref a10, .ref a11])), (a1, aN cI 4 ki), (a2, aN cI 4 ka), (a3, aN cI 4 kb), (a4, aI cI 4 zs), (a5, aI cI 4 pu), (a6, aN cI 4096 ce), (a7, aN cI 1024 pa), (a8, aN cI 1024 tr), (a9, aI cI 256 so1), (a10, aN cI 6 pl), (a11, aN cI 6 ot)] := va_D.same2 [hm, a1, a2, a3, a4, a5, a6, a7, a8, a9, a10, a11] hD rfl rfl
  refine tp_i (y := (lokS (S j) z)) (by rw [hSj, rc_lk hq]; rfl) ?_
  refine lv_goto (tgt := 114) hx hb d_M_cell_99 (by decide) ?_
  exact mx_iret hx hb hr hlk d_M_cell_114 (Nat.le_of_ble_eq_true rfl) (Nat.le_of_ble_eq_true rfl) hS.2.2 (⟨rfl, ki, ka, kb, zs, pu, ce, pa, tr, _, pl, ot, hP, hpic⟩)

set_option maxHeartbeats 4000000 in
set_option maxRecDepth 100000 in
theorem c_M_cell_3_out {l : Launch} {s0 : State} {D : va_G} {cI cF cJ : ClassId} (G : Gx l s0 D cI cF cJ) (hm a1 a2 a3 a4 a5 a6 a7 a8 a9 a10 a11 : Nat) (th : Int32) (S : Nat → FS) (j A B n : Nat) (hd pv : Int32) (cs f : Nat → Nat) (iv : Int32) {H0 : Heap} {A0 : Nat → Prop} (hM : MP D cI hm a1 a2 a3 a4 a5 a6 a7 a8 a9 a10 a11 th S H0) (hD : va_D A0 (adM hm a1 a2 a3 a4 a5 a6 a7 a8 a9 a10 a11)) (hok : ∀ i, i < 4 → okS (S i)) (hj : j < 4) (hSj : S j = (3, A, B, hd, pv, cs, n, f)) (hbad : iv < 0 ∨ nI (2 ^ A) ≤ iv) : Mx l s0 y_M_cell (.code y_M_cell b_M_cell 4 (some .int)) { frames := 7, cells := 0, slots := 0, locals := 170 } [.ref hm, .int (nI j), .int iv] H0 (Aa [hm, a1, a2, a3, a4, a5, a6, a7, a8, a9, a10, a11] H0.size) (Rw (.int (nI 0)) (fun H1 => MP D cI hm a1 a2 a3 a4 a5 a6 a7 a8 a9 a10 a11 (nI 2) S H1)) := by
  refine Mx.ofW (own := "FewBitsModel") rfl rfl ?_
  rintro p e s m below meth c ⟨hx, hb, hml, hr, hown, hW, hlk⟩ hnm het hH
  have hK := G.k hW
  have hD0 := hD
  obtain ⟨ki, ka, kb, zs, pu, ce, pa, tr, so, pl, ot, hP, hpic⟩ := hM
  have hD : va_D (Aa [hm, a1, a2, a3, a4, a5, a6, a7, a8, a9, a10, a11] H0.size) [(hm, .inr (4, [.int th, .ref a1, .ref a2, .ref a3, .ref a4, .ref a5, .ref a6, .ref a7, .ref a8, .ref a9, .ref a10, .ref a11])), (a1, aN cI 4 ki), (a2, aN cI 4 ka), (a3, aN cI 4 kb), (a4, aI cI 4 zs), (a5, aI cI 4 pu), (a6, aN cI 4096 ce), (a7, aN cI 1024 pa), (a8, aN cI 1024 tr), (a9, aI cI 256 so), (a10, aN cI 6 pl), (a11, aN cI 6 ot)] := va_D.same2 [hm, a1, a2, a3, a4, a5, a6, a7, a8, a9, a10, a11] (hD.aa (sz := H0.size)) rfl rfl
  have hS : va_S (Aa [hm, a1, a2, a3, a4, a5, a6, a7, a8, a9, a10, a11] H0.size) H0 H0 [] := va_S.rf
  have hpj := hpic j hj
  rw [hSj] at hpj
  obtain ⟨p1, p2, p3, p4, p5, p6⟩ := hpj.f3
  have hoj := hok j hj
  rw [hSj] at hoj
  have hq := (okS_3.mp hoj).1
  have hhd := (okS_3.mp hoj).2
  have p4n : zs j = nI n := by rw [p4, hhd]
  have hqA : A ≤ 8 := hq.2.1
  have hqB : B ≤ 20 := hq.2.2.2.1
  have h0 : (S j).1 ≠ 0 := by rw [hSj]; exact (by decide : 3 ≠ 0)
  have h8 := p2_le hqA
  have hnn := hq.n
  have hsr := hq.2.2.2.2.2.1
  have hl := lv_entry ([.ref hm, .int (nI j), .int iv]) (n := 4) (Nat.le_of_ble_eq_true rfl)
  rw [lg_entry_eq]
  generalize (lg_sl ([.ref hm, .int (nI j), .int iv]) ++ List.replicate (4 - (lg_sl ([.ref hm, .int (nI j), .int iv])).length) Slot.unset).toArray = ls at hl ⊢
  have hl : lv_has ls 4 [(0, .ref hm), (1, .int (nI j)), (2, .int iv)] := hl
  refine lv_aload_n hx hb d_M_cell_0 rfl (lv_at hl 0 rfl) ?_
  refine lv_aload_n hx hb d_M_cell_1 rfl (lv_at hl 0 rfl) ?_
  refine lv_iload_n hx hb d_M_cell_2 rfl (lv_at hl 1 rfl) ?_
  refine mx_callR (r := .int (nI (if (S j).1 = 0 then 2 else 0))) (c_M_wrg G hm a1 a2 a3 a4 a5 a6 a7 a8 a9 a10 a11 th S j ⟨ki, ka, kb, zs, pu, ce, pa, tr, so, pl, ot, hP, hpic⟩ hD0 hok hj) hW (iv_M_cell_3 G hx hb hown hW (va_recv hK hP (ci := 4) (q0 := 0) rfl rfl) [.int (nI j)] [.ref hm] rfl) hml hl.1 (by rw [hb]; exact d_M_cell_3) (cd_M_wrong G hW) ⟨Nat.le_of_ble_eq_true rfl, Nat.le_of_ble_eq_true rfl⟩ rfl rfl (Nat.le_of_ble_eq_true rfl) (Nat.le_of_ble_eq_true rfl) (Nat.le_of_ble_eq_true rfl) ?_
  refine tp_i (y := (nI 0)) (by rw [if_neg h0]) ?_
  refine lv_if_le (tgt := 13) hx hb d_M_cell_6 (by decide) (fun c_6 => ?_) (fun c_6 => absurd (by decide) c_6)
  refine lv_iconst (v := (nI 0)) hx hb d_M_cell_13 (by decide) ?_
  refine va_put (D := D) (ci := 4) (v := .int (nI 0)) (ty := .int) (C := R_M) (T := T_M) (N := 12) hx hb (us_M G hW) (fun _ h => h) t_M to_M nm_M hown hK hP hD hS 0 rfl rfl 0 (by decide) (fl_M_43 G hW) (fun _ h9 => h9) rfl (by decide +kernel) rfl rfl (Nat.le_of_ble_eq_true rfl) d_M_cell_14 (fun H locs hP hD hS => ?_)
  have hP : va_P D vcl [(hm, .inr (4, [.int (nI 0), .ref a1, .ref a2, .ref a3, .ref a4, .ref a5, .ref a6, .ref a7, .ref a8, .ref a9, .ref a10, .ref a11])), (a1, aN cI 4 ki), (a2, aN cI 4 ka), (a3, aN cI 4 kb), (a4, aI cI 4 zs), (a5, aI cI 4 pu), (a6, aN cI 4096 ce), (a7, aN cI 1024 pa), (a8, aN cI 1024 tr), (a9, aI cI 256 so), (a10, aN cI 6 pl), (a11, aN cI 6 ot)] H := hP
  have hD : va_D (Aa [hm, a1, a2, a3, a4, a5, a6, a7, a8, a9, a10, a11] H0.size) [(hm, .inr (4, [.int (nI 0), .ref a1, .ref a2, .ref a3, .ref a4, .ref a5, .ref a6, .ref a7, .ref a8, .ref a9, .ref a10, .ref a11])), (a1, aN cI 4 ki), (a2, aN cI 4 ka), (a3, aN cI 4 kb), (a4, aI cI 4 zs), (a5, aI cI 4 pu), (a6, aN cI 4096 ce), (a7, aN cI 1024 pa), (a8, aN cI 1024 tr), (a9, aI cI 256 so), (a10, aN cI 6 pl), (a11, aN cI 6 ot)] := hD
  refine lv_aload_n hx hb d_M_cell_17 rfl (lv_at hl 0 rfl) ?_
  refine va_get (D := D) (ci := 4) (v := .int (nI 0)) (C := R_M) (T := T_M) (N := 12) hx hb (us_M G hW) (fun _ h => h) hown hK hP 0 rfl rfl 0 (by decide) (fl_M_43 G hW) (fun _ h9 => h9) rfl d_M_cell_18 ?_
  refine lv_if_le (tgt := 26) hx hb d_M_cell_21 (by decide) (fun c_21 => ?_) (fun c_21 => absurd (by decide) c_21)
  refine lv_aload_n hx hb d_M_cell_26 rfl (lv_at hl 0 rfl) ?_
  refine va_get (D := D) (ci := 4) (v := .ref a1) (C := R_M) (T := T_M) (N := 12) hx hb (us_M G hW) (fun _ h => h) hown hK hP 0 rfl rfl 1 (by decide) (fl_M_7 G hW) (fun _ h9 => h9) rfl d_M_cell_27 ?_
  refine lv_iload_n hx hb d_M_cell_30 rfl (lv_at hl 1 rfl) ?_
  refine ia_ld hx hb hK hP 1 (j := j) rfl (hj) (by decide) d_M_cell_31 ?_
  refine tp_i (y := (nI (ki j))) rfl ?_
  refine tp_i (y := (nI 3)) (by rw [p1]) ?_
  refine lv_iconst (v := (nI 2)) hx hb d_M_cell_32 (by decide) ?_
  refine lv_icmp_ne (tgt := 47) hx hb d_M_cell_33 (by decide) (fun c_33 => ?_) (fun c_33 => absurd c_33 (by decide))
  refine lv_iconst (v := (nI 1)) hx hb d_M_cell_47 (by decide) ?_
  refine lv_aload_n hx hb d_M_cell_48 rfl (lv_at hl 0 rfl) ?_
  refine va_get (D := D) (ci := 4) (v := .ref a2) (C := R_M) (T := T_M) (N := 12) hx hb (us_M G hW) (fun _ h => h) hown hK hP 0 rfl rfl 2 (by decide) (fl_M_13 G hW) (fun _ h9 => h9) rfl d_M_cell_49 ?_
  refine lv_iload_n hx hb d_M_cell_52 rfl (lv_at hl 1 rfl) ?_
  refine ia_ld hx hb hK hP 2 (j := j) rfl (hj) (by decide) d_M_cell_53 ?_
  refine tp_i (y := (nI (ka j))) rfl ?_
  refine tp_i (y := (nI A)) (by rw [p2]) ?_
  refine lv_ishl hx hb d_M_cell_54 ?_
  refine tp_i (y := (nI (2 ^ A))) (pw_shl A (by omega)) ?_
  refine lv_istore_n (lv' := [(3, .int (nI (2 ^ A))), (0, .ref hm), (1, .int (nI j)), (2, .int iv)]) hx hb d_M_cell_55 rfl hl (by decide) rfl (fun ls hl => ?_)
  refine lv_aload_n hx hb d_M_cell_56 rfl (lv_at hl 1 rfl) ?_
  refine lv_iload_n hx hb d_M_cell_57 rfl (lv_at hl 3 rfl) ?_
  refine lv_if_lt (tgt := 70) hx hb d_M_cell_58 (by decide) (fun c_58 => ?_) (fun c_58 => ?_)
  · refine lv_iconst (v := (nI 2)) hx hb d_M_cell_70 (by decide) ?_
    refine va_put (D := D) (ci := 4) (v := .int (nI 2)) (ty := .int) (C := R_M) (T := T_M) (N := 12) hx hb (us_M G hW) (fun _ h => h) t_M to_M nm_M hown hK hP hD hS 0 rfl rfl 0 (by decide) (fl_M_43 G hW) (fun _ h9 => h9) rfl (by decide +kernel) rfl rfl (Nat.le_of_ble_eq_true rfl) d_M_cell_71 (fun H locs hP hD hS => ?_)
    have hP : va_P D vcl [(hm, .inr (4, [.int (nI 2), .ref a1, .ref a2, .ref a3, .ref a4, .ref a5, .ref a6, .ref a7, .ref a8, .ref a9, .ref a10, .ref a11])), (a1, aN cI 4 ki), (a2, aN cI 4 ka), (a3, aN cI 4 kb), (a4, aI cI 4 zs), (a5, aI cI 4 pu), (a6, aN cI 4096 ce), (a7, aN cI 1024 pa), (a8, aN cI 1024 tr), (a9, aI cI 256 so), (a10, aN cI 6 pl), (a11, aN cI 6 ot)] H := hP
    have hD : va_D (Aa [hm, a1, a2, a3, a4, a5, a6, a7, a8, a9, a10, a11] H0.size) [(hm, .inr (4, [.int (nI 2), .ref a1, .ref a2, .ref a3, .ref a4, .ref a5, .ref a6, .ref a7, .ref a8, .ref a9, .ref a10, .ref a11])), (a1, aN cI 4 ki), (a2, aN cI 4 ka), (a3, aN cI 4 kb), (a4, aI cI 4 zs), (a5, aI cI 4 pu), (a6, aN cI 4096 ce), (a7, aN cI 1024 pa), (a8, aN cI 1024 tr), (a9, aI cI 256 so), (a10, aN cI 6 pl), (a11, aN cI 6 ot)] := hD
    refine lv_aload_n hx hb d_M_cell_74 rfl (lv_at hl 1 rfl) ?_
    refine va_get (D := D) (ci := 4) (v := .int (nI 2)) (C := R_M) (T := T_M) (N := 12) hx hb (us_M G hW) (fun _ h => h) hown hK hP 0 rfl rfl 0 (by decide) (fl_M_43 G hW) (fun _ h9 => h9) rfl d_M_cell_75 ?_
    refine lv_if_le (tgt := 83) hx hb d_M_cell_78 (by decide) (fun c_78 => absurd c_78 (by decide)) (fun c_78 => ?_)
    refine lv_iconst (v := (nI 0)) hx hb d_M_cell_81 (by decide) ?_
    exact mx_iret hx hb hr hlk d_M_cell_82 (Nat.le_of_ble_eq_true rfl) (Nat.le_of_ble_eq_true rfl) hS.2.2 (⟨rfl, ki, ka, kb, zs, pu, ce, pa, tr, so, pl, ot, hP, hpic⟩)
  · refine lv_iload_n hx hb d_M_cell_61 rfl (lv_at hl 3 rfl) ?_
    refine lv_iload_n hx hb d_M_cell_62 rfl (lv_at hl 0 rfl) ?_
    refine lv_icmp_ge (tgt := 70) hx hb d_M_cell_63 (by decide) (fun c_63 => ?_) (fun c_63 => absurd (hbad.resolve_left c_58) c_63)
    refine lv_iconst (v := (nI 2)) hx hb d_M_cell_70 (by decide) ?_
    refine va_put (D := D) (ci := 4) (v := .int (nI 2)) (ty := .int) (C := R_M) (T := T_M) (N := 12) hx hb (us_M G hW) (fun _ h => h) t_M to_M nm_M hown hK hP hD hS 0 rfl rfl 0 (by decide) (fl_M_43 G hW) (fun _ h9 => h9) rfl (by decide +kernel) rfl rfl (Nat.le_of_ble_eq_true rfl) d_M_cell_71 (fun H locs hP hD hS => ?_)
    have hP : va_P D vcl [(hm, .inr (4, [.int (nI 2), .ref a1, .ref a2, .ref a3, .ref a4, .ref a5, .ref a6, .ref a7, .ref a8, .ref a9, .ref a10, .ref a11])), (a1, aN cI 4 ki), (a2, aN cI 4 ka), (a3, aN cI 4 kb), (a4, aI cI 4 zs), (a5, aI cI 4 pu), (a6, aN cI 4096 ce), (a7, aN cI 1024 pa), (a8, aN cI 1024 tr), (a9, aI cI 256 so), (a10, aN cI 6 pl), (a11, aN cI 6 ot)] H := hP
    have hD : va_D (Aa [hm, a1, a2, a3, a4, a5, a6, a7, a8, a9, a10, a11] H0.size) [(hm, .inr (4, [.int (nI 2), .ref a1, .ref a2, .ref a3, .ref a4, .ref a5, .ref a6, .ref a7, .ref a8, .ref a9, .ref a10, .ref a11])), (a1, aN cI 4 ki), (a2, aN cI 4 ka), (a3, aN cI 4 kb), (a4, aI cI 4 zs), (a5, aI cI 4 pu), (a6, aN cI 4096 ce), (a7, aN cI 1024 pa), (a8, aN cI 1024 tr), (a9, aI cI 256 so), (a10, aN cI 6 pl), (a11, aN cI 6 ot)] := hD
    refine lv_aload_n hx hb d_M_cell_74 rfl (lv_at hl 1 rfl) ?_
    refine va_get (D := D) (ci := 4) (v := .int (nI 2)) (C := R_M) (T := T_M) (N := 12) hx hb (us_M G hW) (fun _ h => h) hown hK hP 0 rfl rfl 0 (by decide) (fl_M_43 G hW) (fun _ h9 => h9) rfl d_M_cell_75 ?_
    refine lv_if_le (tgt := 83) hx hb d_M_cell_78 (by decide) (fun c_78 => absurd c_78 (by decide)) (fun c_78 => ?_)
    refine lv_iconst (v := (nI 0)) hx hb d_M_cell_81 (by decide) ?_
    exact mx_iret hx hb hr hlk d_M_cell_82 (Nat.le_of_ble_eq_true rfl) (Nat.le_of_ble_eq_true rfl) hS.2.2 (⟨rfl, ki, ka, kb, zs, pu, ce, pa, tr, so, pl, ot, hP, hpic⟩)

set_option maxHeartbeats 4000000 in
set_option maxRecDepth 100000 in
theorem c_M_count_1_0 {l : Launch} {s0 : State} {D : va_G} {cI cF cJ : ClassId} (G : Gx l s0 D cI cF cJ) (hm a1 a2 a3 a4 a5 a6 a7 a8 a9 a10 a11 : Nat) (th : Int32) (S : Nat → FS) (j A B n : Nat) (hd pv : Int32) (cs f : Nat → Nat) {H0 : Heap} {A0 : Nat → Prop} (hM : MP D cI hm a1 a2 a3 a4 a5 a6 a7 a8 a9 a10 a11 th S H0) (hD : va_D A0 (adM hm a1 a2 a3 a4 a5 a6 a7 a8 a9 a10 a11)) (hok : ∀ i, i < 4 → okS (S i)) (hj : j < 4) (hSj : S j = (1, A, B, hd, pv, cs, n, f)) : Mx l s0 y_M_count (.code y_M_count b_M_count 7 (some .int)) { frames := 7, cells := 0, slots := 0, locals := 170 } [.ref hm, .int (nI j), .int (nI 0)] H0 (Aa [hm, a1, a2, a3, a4, a5, a6, a7, a8, a9, a10, a11] H0.size) (Rw (.int (cntS (S j) 0)) (fun H1 => MP D cI hm a1 a2 a3 a4 a5 a6 a7 a8 a9 a10 a11 (nI 0) S H1)) := by
  refine Mx.ofW (own := "FewBitsModel") rfl rfl ?_
  rintro p e s m below meth c ⟨hx, hb, hml, hr, hown, hW, hlk⟩ hnm het hH
  have hK := G.k hW
  have hD0 := hD
  obtain ⟨ki, ka, kb, zs, pu, ce, pa, tr, so, pl, ot, hP, hpic⟩ := hM
  have hD : va_D (Aa [hm, a1, a2, a3, a4, a5, a6, a7, a8, a9, a10, a11] H0.size) [(hm, .inr (4, [.int th, .ref a1, .ref a2, .ref a3, .ref a4, .ref a5, .ref a6, .ref a7, .ref a8, .ref a9, .ref a10, .ref a11])), (a1, aN cI 4 ki), (a2, aN cI 4 ka), (a3, aN cI 4 kb), (a4, aI cI 4 zs), (a5, aI cI 4 pu), (a6, aN cI 4096 ce), (a7, aN cI 1024 pa), (a8, aN cI 1024 tr), (a9, aI cI 256 so), (a10, aN cI 6 pl), (a11, aN cI 6 ot)] := va_D.same2 [hm, a1, a2, a3, a4, a5, a6, a7, a8, a9, a10, a11] (hD.aa (sz := H0.size)) rfl rfl
  have hS : va_S (Aa [hm, a1, a2, a3, a4, a5, a6, a7, a8, a9, a10, a11] H0.size) H0 H0 [] := va_S.rf
  have hpj := hpic j hj
  rw [hSj] at hpj
  obtain ⟨p1, p2, p3, p4, p5, p6⟩ := hpj.f1
  have hoj := hok j hj
  rw [hSj] at hoj
  have hq := okS_1.mp hoj
  have h0 : (S j).1 ≠ 0 := by rw [hSj]; exact (by decide : 1 ≠ 0)
  have hA : A ≤ 10 := hq.2.1
  have hB : B ≤ 6 := hq.2.2.2.1
  have h8 := p2_le hA
  have hl := lv_entry ([.ref hm, .int (nI j), .int (nI 0)]) (n := 7) (Nat.le_of_ble_eq_true rfl)
  rw [lg_entry_eq]
  generalize (lg_sl ([.ref hm, .int (nI j), .int (nI 0)]) ++ List.replicate (7 - (lg_sl ([.ref hm, .int (nI j), .int (nI 0)])).length) Slot.unset).toArray = ls at hl ⊢
  have hl : lv_has ls 7 [(0, .ref hm), (1, .int (nI j)), (2, .int (nI 0))] := hl
  refine lv_aload_n hx hb d_M_count_0 rfl (lv_at hl 0 rfl) ?_
  refine lv_aload_n hx hb d_M_count_1 rfl (lv_at hl 0 rfl) ?_
  refine lv_iload_n hx hb d_M_count_2 rfl (lv_at hl 1 rfl) ?_
  refine mx_callR (r := .int (nI (if (S j).1 = 0 then 2 else 0))) (c_M_wrg G hm a1 a2 a3 a4 a5 a6 a7 a8 a9 a10 a11 th S j ⟨ki, ka, kb, zs, pu, ce, pa, tr, so, pl, ot, hP, hpic⟩ hD0 hok hj) hW (iv_M_count_3 G hx hb hown hW (va_recv hK hP (ci := 4) (q0 := 0) rfl rfl) [.int (nI j)] [.ref hm] rfl) hml hl.1 (by rw [hb]; exact d_M_count_3) (cd_M_wrong G hW) ⟨Nat.le_of_ble_eq_true rfl, Nat.le_of_ble_eq_true rfl⟩ rfl rfl (Nat.le_of_ble_eq_true rfl) (Nat.le_of_ble_eq_true rfl) (Nat.le_of_ble_eq_true rfl) ?_
  refine tp_i (y := (nI 0)) (by rw [if_neg h0]) ?_
  refine lv_if_le (tgt := 17) hx hb d_M_count_6 (by decide) (fun c_6 => ?_) (fun c_6 => absurd (by decide) c_6)
  refine lv_iload_n hx hb d_M_count_17 rfl (lv_at hl 2 rfl) ?_
  refine lv_if_lt (tgt := 26) hx hb d_M_count_18 (by decide) (fun c_18 => absurd c_18 (by decide)) (fun c_18 => ?_)
  refine lv_iload_n hx hb d_M_count_21 rfl (lv_at hl 2 rfl) ?_
  refine lv_iconst (v := (nI 5)) hx hb d_M_count_22 (by decide) ?_
  refine lv_icmp_le (tgt := 30) hx hb d_M_count_23 (by decide) (fun c_23 => ?_) (fun c_23 => absurd (by decide) c_23)
  refine lv_iconst (v := (nI 0)) hx hb d_M_count_30 (by decide) ?_
  refine va_put (D := D) (ci := 4) (v := .int (nI 0)) (ty := .int) (C := R_M) (T := T_M) (N := 12) hx hb (us_M G hW) (fun _ h => h) t_M to_M nm_M hown hK hP hD hS 0 rfl rfl 0 (by decide) (fl_M_43 G hW) (fun _ h9 => h9) rfl (by decide +kernel) rfl rfl (Nat.le_of_ble_eq_true rfl) d_M_count_31 (fun H locs hP hD hS => ?_)
  have hP : va_P D vcl [(hm, .inr (4, [.int (nI 0), .ref a1, .ref a2, .ref a3, .ref a4, .ref a5, .ref a6, .ref a7, .ref a8, .ref a9, .ref a10, .ref a11])), (a1, aN cI 4 ki), (a2, aN cI 4 ka), (a3, aN cI 4 kb), (a4, aI cI 4 zs), (a5, aI cI 4 pu), (a6, aN cI 4096 ce), (a7, aN cI 1024 pa), (a8, aN cI 1024 tr), (a9, aI cI 256 so), (a10, aN cI 6 pl), (a11, aN cI 6 ot)] H := hP
  have hD : va_D (Aa [hm, a1, a2, a3, a4, a5, a6, a7, a8, a9, a10, a11] H0.size) [(hm, .inr (4, [.int (nI 0), .ref a1, .ref a2, .ref a3, .ref a4, .ref a5, .ref a6, .ref a7, .ref a8, .ref a9, .ref a10, .ref a11])), (a1, aN cI 4 ki), (a2, aN cI 4 ka), (a3, aN cI 4 kb), (a4, aI cI 4 zs), (a5, aI cI 4 pu), (a6, aN cI 4096 ce), (a7, aN cI 1024 pa), (a8, aN cI 1024 tr), (a9, aI cI 256 so), (a10, aN cI 6 pl), (a11, aN cI 6 ot)] := hD
  refine lv_aload_n hx hb d_M_count_34 rfl (lv_at hl 0 rfl) ?_
  refine va_get (D := D) (ci := 4) (v := .int (nI 0)) (C := R_M) (T := T_M) (N := 12) hx hb (us_M G hW) (fun _ h => h) hown hK hP 0 rfl rfl 0 (by decide) (fl_M_43 G hW) (fun _ h9 => h9) rfl d_M_count_35 ?_
  refine lv_if_le (tgt := 43) hx hb d_M_count_38 (by decide) (fun c_38 => ?_) (fun c_38 => absurd (by decide) c_38)
  refine lv_iload_n hx hb d_M_count_43 rfl (lv_at hl 2 rfl) ?_
  refine lv_iconst (v := (nI 4)) hx hb d_M_count_44 (by decide) ?_
  refine lv_icmp_ge (tgt := 96) hx hb d_M_count_45 (by decide) (fun c_45 => absurd c_45 (by decide)) (fun c_45 => ?_)
  refine lv_iload_n hx hb d_M_count_48 rfl (lv_at hl 2 rfl) ?_
  refine lv_if_ne (tgt := 61) hx hb d_M_count_49 (by decide) (fun c_49 => absurd (rfl) c_49) (fun c_49 => ?_)
  refine lv_aload_n hx hb d_M_count_52 rfl (lv_at hl 0 rfl) ?_
  refine va_get (D := D) (ci := 4) (v := .ref a1) (C := R_M) (T := T_M) (N := 12) hx hb (us_M G hW) (fun _ h => h) hown hK hP 0 rfl rfl 1 (by decide) (fl_M_7 G hW) (fun _ h9 => h9) rfl d_M_count_53 ?_
  refine lv_iload_n hx hb d_M_count_56 rfl (lv_at hl 1 rfl) ?_
  refine ia_ld hx hb hK hP 1 (j := j) rfl (hj) (by decide) d_M_count_57 ?_
  refine tp_i (y := (nI (ki j))) rfl ?_
  refine tp_i (y := (cntS (S j) 0)) (by rw [p1, hSj]; rfl) ?_
  refine lv_goto (tgt := 95) hx hb d_M_count_58 (by decide) ?_
  exact mx_iret hx hb hr hlk d_M_count_95 (Nat.le_of_ble_eq_true rfl) (Nat.le_of_ble_eq_true rfl) hS.2.2 (⟨rfl, ki, ka, kb, zs, pu, ce, pa, tr, so, pl, ot, hP, hpic⟩)

set_option maxHeartbeats 4000000 in
set_option maxRecDepth 100000 in
theorem c_M_count_1_1 {l : Launch} {s0 : State} {D : va_G} {cI cF cJ : ClassId} (G : Gx l s0 D cI cF cJ) (hm a1 a2 a3 a4 a5 a6 a7 a8 a9 a10 a11 : Nat) (th : Int32) (S : Nat → FS) (j A B n : Nat) (hd pv : Int32) (cs f : Nat → Nat) {H0 : Heap} {A0 : Nat → Prop} (hM : MP D cI hm a1 a2 a3 a4 a5 a6 a7 a8 a9 a10 a11 th S H0) (hD : va_D A0 (adM hm a1 a2 a3 a4 a5 a6 a7 a8 a9 a10 a11)) (hok : ∀ i, i < 4 → okS (S i)) (hj : j < 4) (hSj : S j = (1, A, B, hd, pv, cs, n, f)) : Mx l s0 y_M_count (.code y_M_count b_M_count 7 (some .int)) { frames := 7, cells := 0, slots := 0, locals := 170 } [.ref hm, .int (nI j), .int (nI 1)] H0 (Aa [hm, a1, a2, a3, a4, a5, a6, a7, a8, a9, a10, a11] H0.size) (Rw (.int (cntS (S j) 1)) (fun H1 => MP D cI hm a1 a2 a3 a4 a5 a6 a7 a8 a9 a10 a11 (nI 0) S H1)) := by
  refine Mx.ofW (own := "FewBitsModel") rfl rfl ?_
  rintro p e s m below meth c ⟨hx, hb, hml, hr, hown, hW, hlk⟩ hnm het hH
  have hK := G.k hW
  have hD0 := hD
  obtain ⟨ki, ka, kb, zs, pu, ce, pa, tr, so, pl, ot, hP, hpic⟩ := hM
  have hD : va_D (Aa [hm, a1, a2, a3, a4, a5, a6, a7, a8, a9, a10, a11] H0.size) [(hm, .inr (4, [.int th, .ref a1, .ref a2, .ref a3, .ref a4, .ref a5, .ref a6, .ref a7, .ref a8, .ref a9, .ref a10, .ref a11])), (a1, aN cI 4 ki), (a2, aN cI 4 ka), (a3, aN cI 4 kb), (a4, aI cI 4 zs), (a5, aI cI 4 pu), (a6, aN cI 4096 ce), (a7, aN cI 1024 pa), (a8, aN cI 1024 tr), (a9, aI cI 256 so), (a10, aN cI 6 pl), (a11, aN cI 6 ot)] := va_D.same2 [hm, a1, a2, a3, a4, a5, a6, a7, a8, a9, a10, a11] (hD.aa (sz := H0.size)) rfl rfl
  have hS : va_S (Aa [hm, a1, a2, a3, a4, a5, a6, a7, a8, a9, a10, a11] H0.size) H0 H0 [] := va_S.rf
  have hpj := hpic j hj
  rw [hSj] at hpj
  obtain ⟨p1, p2, p3, p4, p5, p6⟩ := hpj.f1
  have hoj := hok j hj
  rw [hSj] at hoj
  have hq := okS_1.mp hoj
  have h0 : (S j).1 ≠ 0 := by rw [hSj]; exact (by decide : 1 ≠ 0)
  have hA : A ≤ 10 := hq.2.1
  have hB : B ≤ 6 := hq.2.2.2.1
  have h8 := p2_le hA
  have hl := lv_entry ([.ref hm, .int (nI j), .int (nI 1)]) (n := 7) (Nat.le_of_ble_eq_true rfl)
  rw [lg_entry_eq]
  generalize (lg_sl ([.ref hm, .int (nI j), .int (nI 1)]) ++ List.replicate (7 - (lg_sl ([.ref hm, .int (nI j), .int (nI 1)])).length) Slot.unset).toArray = ls at hl ⊢
  have hl : lv_has ls 7 [(0, .ref hm), (1, .int (nI j)), (2, .int (nI 1))] := hl
  refine lv_aload_n hx hb d_M_count_0 rfl (lv_at hl 0 rfl) ?_
  refine lv_aload_n hx hb d_M_count_1 rfl (lv_at hl 0 rfl) ?_
  refine lv_iload_n hx hb d_M_count_2 rfl (lv_at hl 1 rfl) ?_
  refine mx_callR (r := .int (nI (if (S j).1 = 0 then 2 else 0))) (c_M_wrg G hm a1 a2 a3 a4 a5 a6 a7 a8 a9 a10 a11 th S j ⟨ki, ka, kb, zs, pu, ce, pa, tr, so, pl, ot, hP, hpic⟩ hD0 hok hj) hW (iv_M_count_3 G hx hb hown hW (va_recv hK hP (ci := 4) (q0 := 0) rfl rfl) [.int (nI j)] [.ref hm] rfl) hml hl.1 (by rw [hb]; exact d_M_count_3) (cd_M_wrong G hW) ⟨Nat.le_of_ble_eq_true rfl, Nat.le_of_ble_eq_true rfl⟩ rfl rfl (Nat.le_of_ble_eq_true rfl) (Nat.le_of_ble_eq_true rfl) (Nat.le_of_ble_eq_true rfl) ?_
  refine tp_i (y := (nI 0)) (by rw [if_neg h0]) ?_
  refine lv_if_le (tgt := 17) hx hb d_M_count_6 (by decide) (fun c_6 => ?_) (fun c_6 => absurd (by decide) c_6)
  refine lv_iload_n hx hb d_M_count_17 rfl (lv_at hl 2 rfl) ?_
  refine lv_if_lt (tgt := 26) hx hb d_M_count_18 (by decide) (fun c_18 => absurd c_18 (by decide)) (fun c_18 => ?_)
  refine lv_iload_n hx hb d_M_count_21 rfl (lv_at hl 2 rfl) ?_
  refine lv_iconst (v := (nI 5)) hx hb d_M_count_22 (by decide) ?_
  refine lv_icmp_le (tgt := 30) hx hb d_M_count_23 (by decide) (fun c_23 => ?_) (fun c_23 => absurd (by decide) c_23)
  refine lv_iconst (v := (nI 0)) hx hb d_M_count_30 (by decide) ?_
  refine va_put (D := D) (ci := 4) (v := .int (nI 0)) (ty := .int) (C := R_M) (T := T_M) (N := 12) hx hb (us_M G hW) (fun _ h => h) t_M to_M nm_M hown hK hP hD hS 0 rfl rfl 0 (by decide) (fl_M_43 G hW) (fun _ h9 => h9) rfl (by decide +kernel) rfl rfl (Nat.le_of_ble_eq_true rfl) d_M_count_31 (fun H locs hP hD hS => ?_)
  have hP : va_P D vcl [(hm, .inr (4, [.int (nI 0), .ref a1, .ref a2, .ref a3, .ref a4, .ref a5, .ref a6, .ref a7, .ref a8, .ref a9, .ref a10, .ref a11])), (a1, aN cI 4 ki), (a2, aN cI 4 ka), (a3, aN cI 4 kb), (a4, aI cI 4 zs), (a5, aI cI 4 pu), (a6, aN cI 4096 ce), (a7, aN cI 1024 pa), (a8, aN cI 1024 tr), (a9, aI cI 256 so), (a10, aN cI 6 pl), (a11, aN cI 6 ot)] H := hP
  have hD : va_D (Aa [hm, a1, a2, a3, a4, a5, a6, a7, a8, a9, a10, a11] H0.size) [(hm, .inr (4, [.int (nI 0), .ref a1, .ref a2, .ref a3, .ref a4, .ref a5, .ref a6, .ref a7, .ref a8, .ref a9, .ref a10, .ref a11])), (a1, aN cI 4 ki), (a2, aN cI 4 ka), (a3, aN cI 4 kb), (a4, aI cI 4 zs), (a5, aI cI 4 pu), (a6, aN cI 4096 ce), (a7, aN cI 1024 pa), (a8, aN cI 1024 tr), (a9, aI cI 256 so), (a10, aN cI 6 pl), (a11, aN cI 6 ot)] := hD
  refine lv_aload_n hx hb d_M_count_34 rfl (lv_at hl 0 rfl) ?_
  refine va_get (D := D) (ci := 4) (v := .int (nI 0)) (C := R_M) (T := T_M) (N := 12) hx hb (us_M G hW) (fun _ h => h) hown hK hP 0 rfl rfl 0 (by decide) (fl_M_43 G hW) (fun _ h9 => h9) rfl d_M_count_35 ?_
  refine lv_if_le (tgt := 43) hx hb d_M_count_38 (by decide) (fun c_38 => ?_) (fun c_38 => absurd (by decide) c_38)
  refine lv_iload_n hx hb d_M_count_43 rfl (lv_at hl 2 rfl) ?_
  refine lv_iconst (v := (nI 4)) hx hb d_M_count_44 (by decide) ?_
  refine lv_icmp_ge (tgt := 96) hx hb d_M_count_45 (by decide) (fun c_45 => absurd c_45 (by decide)) (fun c_45 => ?_)
  refine lv_iload_n hx hb d_M_count_48 rfl (lv_at hl 2 rfl) ?_
  refine lv_if_ne (tgt := 61) hx hb d_M_count_49 (by decide) (fun c_49 => ?_) (fun c_49 => absurd c_49 (by decide))
  refine lv_iload_n hx hb d_M_count_61 rfl (lv_at hl 2 rfl) ?_
  refine lv_iconst (v := (nI 1)) hx hb d_M_count_62 (by decide) ?_
  refine lv_icmp_ne (tgt := 75) hx hb d_M_count_63 (by decide) (fun c_63 => absurd (rfl) c_63) (fun c_63 => ?_)
  refine lv_aload_n hx hb d_M_count_66 rfl (lv_at hl 0 rfl) ?_
  refine va_get (D := D) (ci := 4) (v := .ref a2) (C := R_M) (T := T_M) (N := 12) hx hb (us_M G hW) (fun _ h => h) hown hK hP 0 rfl rfl 2 (by decide) (fl_M_13 G hW) (fun _ h9 => h9) rfl d_M_count_67 ?_
  refine lv_iload_n hx hb d_M_count_70 rfl (lv_at hl 1 rfl) ?_
  refine ia_ld hx hb hK hP 2 (j := j) rfl (hj) (by decide) d_M_count_71 ?_
  refine tp_i (y := (nI (ka j))) rfl ?_
  refine tp_i (y := (cntS (S j) 1)) (by rw [p2, hSj]; rfl) ?_
  refine lv_goto (tgt := 95) hx hb d_M_count_72 (by decide) ?_
  exact mx_iret hx hb hr hlk d_M_count_95 (Nat.le_of_ble_eq_true rfl) (Nat.le_of_ble_eq_true rfl) hS.2.2 (⟨rfl, ki, ka, kb, zs, pu, ce, pa, tr, so, pl, ot, hP, hpic⟩)

set_option maxHeartbeats 4000000 in
set_option maxRecDepth 100000 in
theorem c_M_count_1_2 {l : Launch} {s0 : State} {D : va_G} {cI cF cJ : ClassId} (G : Gx l s0 D cI cF cJ) (hm a1 a2 a3 a4 a5 a6 a7 a8 a9 a10 a11 : Nat) (th : Int32) (S : Nat → FS) (j A B n : Nat) (hd pv : Int32) (cs f : Nat → Nat) {H0 : Heap} {A0 : Nat → Prop} (hM : MP D cI hm a1 a2 a3 a4 a5 a6 a7 a8 a9 a10 a11 th S H0) (hD : va_D A0 (adM hm a1 a2 a3 a4 a5 a6 a7 a8 a9 a10 a11)) (hok : ∀ i, i < 4 → okS (S i)) (hj : j < 4) (hSj : S j = (1, A, B, hd, pv, cs, n, f)) : Mx l s0 y_M_count (.code y_M_count b_M_count 7 (some .int)) { frames := 7, cells := 0, slots := 0, locals := 170 } [.ref hm, .int (nI j), .int (nI 2)] H0 (Aa [hm, a1, a2, a3, a4, a5, a6, a7, a8, a9, a10, a11] H0.size) (Rw (.int (cntS (S j) 2)) (fun H1 => MP D cI hm a1 a2 a3 a4 a5 a6 a7 a8 a9 a10 a11 (nI 0) S H1)) := by
  refine Mx.ofW (own := "FewBitsModel") rfl rfl ?_
  rintro p e s m below meth c ⟨hx, hb, hml, hr, hown, hW, hlk⟩ hnm het hH
  have hK := G.k hW
  have hD0 := hD
  obtain ⟨ki, ka, kb, zs, pu, ce, pa, tr, so, pl, ot, hP, hpic⟩ := hM
  have hD : va_D (Aa [hm, a1, a2, a3, a4, a5, a6, a7, a8, a9, a10, a11] H0.size) [(hm, .inr (4, [.int th, .ref a1, .ref a2, .ref a3, .ref a4, .ref a5, .ref a6, .ref a7, .ref a8, .ref a9, .ref a10, .ref a11])), (a1, aN cI 4 ki), (a2, aN cI 4 ka), (a3, aN cI 4 kb), (a4, aI cI 4 zs), (a5, aI cI 4 pu), (a6, aN cI 4096 ce), (a7, aN cI 1024 pa), (a8, aN cI 1024 tr), (a9, aI cI 256 so), (a10, aN cI 6 pl), (a11, aN cI 6 ot)] := va_D.same2 [hm, a1, a2, a3, a4, a5, a6, a7, a8, a9, a10, a11] (hD.aa (sz := H0.size)) rfl rfl
  have hS : va_S (Aa [hm, a1, a2, a3, a4, a5, a6, a7, a8, a9, a10, a11] H0.size) H0 H0 [] := va_S.rf
  have hpj := hpic j hj
  rw [hSj] at hpj
  obtain ⟨p1, p2, p3, p4, p5, p6⟩ := hpj.f1
  have hoj := hok j hj
  rw [hSj] at hoj
  have hq := okS_1.mp hoj
  have h0 : (S j).1 ≠ 0 := by rw [hSj]; exact (by decide : 1 ≠ 0)
  have hA : A ≤ 10 := hq.2.1
  have hB : B ≤ 6 := hq.2.2.2.1
  have h8 := p2_le hA
  have hl := lv_entry ([.ref hm, .int (nI j), .int (nI 2)]) (n := 7) (Nat.le_of_ble_eq_true rfl)
  rw [lg_entry_eq]
  generalize (lg_sl ([.ref hm, .int (nI j), .int (nI 2)]) ++ List.replicate (7 - (lg_sl ([.ref hm, .int (nI j), .int (nI 2)])).length) Slot.unset).toArray = ls at hl ⊢
  have hl : lv_has ls 7 [(0, .ref hm), (1, .int (nI j)), (2, .int (nI 2))] := hl
  refine lv_aload_n hx hb d_M_count_0 rfl (lv_at hl 0 rfl) ?_
  refine lv_aload_n hx hb d_M_count_1 rfl (lv_at hl 0 rfl) ?_
  refine lv_iload_n hx hb d_M_count_2 rfl (lv_at hl 1 rfl) ?_
  refine mx_callR (r := .int (nI (if (S j).1 = 0 then 2 else 0))) (c_M_wrg G hm a1 a2 a3 a4 a5 a6 a7 a8 a9 a10 a11 th S j ⟨ki, ka, kb, zs, pu, ce, pa, tr, so, pl, ot, hP, hpic⟩ hD0 hok hj) hW (iv_M_count_3 G hx hb hown hW (va_recv hK hP (ci := 4) (q0 := 0) rfl rfl) [.int (nI j)] [.ref hm] rfl) hml hl.1 (by rw [hb]; exact d_M_count_3) (cd_M_wrong G hW) ⟨Nat.le_of_ble_eq_true rfl, Nat.le_of_ble_eq_true rfl⟩ rfl rfl (Nat.le_of_ble_eq_true rfl) (Nat.le_of_ble_eq_true rfl) (Nat.le_of_ble_eq_true rfl) ?_
  refine tp_i (y := (nI 0)) (by rw [if_neg h0]) ?_
  refine lv_if_le (tgt := 17) hx hb d_M_count_6 (by decide) (fun c_6 => ?_) (fun c_6 => absurd (by decide) c_6)
  refine lv_iload_n hx hb d_M_count_17 rfl (lv_at hl 2 rfl) ?_
  refine lv_if_lt (tgt := 26) hx hb d_M_count_18 (by decide) (fun c_18 => absurd c_18 (by decide)) (fun c_18 => ?_)
  refine lv_iload_n hx hb d_M_count_21 rfl (lv_at hl 2 rfl) ?_
  refine lv_iconst (v := (nI 5)) hx hb d_M_count_22 (by decide) ?_
  refine lv_icmp_le (tgt := 30) hx hb d_M_count_23 (by decide) (fun c_23 => ?_) (fun c_23 => absurd (by decide) c_23)
  refine lv_iconst (v := (nI 0)) hx hb d_M_count_30 (by decide) ?_
  refine va_put (D := D) (ci := 4) (v := .int (nI 0)) (ty := .int) (C := R_M) (T := T_M) (N := 12) hx hb (us_M G hW) (fun _ h => h) t_M to_M nm_M hown hK hP hD hS 0 rfl rfl 0 (by decide) (fl_M_43 G hW) (fun _ h9 => h9) rfl (by decide +kernel) rfl rfl (Nat.le_of_ble_eq_true rfl) d_M_count_31 (fun H locs hP hD hS => ?_)
  have hP : va_P D vcl [(hm, .inr (4, [.int (nI 0), .ref a1, .ref a2, .ref a3, .ref a4, .ref a5, .ref a6, .ref a7, .ref a8, .ref a9, .ref a10, .ref a11])), (a1, aN cI 4 ki), (a2, aN cI 4 ka), (a3, aN cI 4 kb), (a4, aI cI 4 zs), (a5, aI cI 4 pu), (a6, aN cI 4096 ce), (a7, aN cI 1024 pa), (a8, aN cI 1024 tr), (a9, aI cI 256 so), (a10, aN cI 6 pl), (a11, aN cI 6 ot)] H := hP
  have hD : va_D (Aa [hm, a1, a2, a3, a4, a5, a6, a7, a8, a9, a10, a11] H0.size) [(hm, .inr (4, [.int (nI 0), .ref a1, .ref a2, .ref a3, .ref a4, .ref a5, .ref a6, .ref a7, .ref a8, .ref a9, .ref a10, .ref a11])), (a1, aN cI 4 ki), (a2, aN cI 4 ka), (a3, aN cI 4 kb), (a4, aI cI 4 zs), (a5, aI cI 4 pu), (a6, aN cI 4096 ce), (a7, aN cI 1024 pa), (a8, aN cI 1024 tr), (a9, aI cI 256 so), (a10, aN cI 6 pl), (a11, aN cI 6 ot)] := hD
  refine lv_aload_n hx hb d_M_count_34 rfl (lv_at hl 0 rfl) ?_
  refine va_get (D := D) (ci := 4) (v := .int (nI 0)) (C := R_M) (T := T_M) (N := 12) hx hb (us_M G hW) (fun _ h => h) hown hK hP 0 rfl rfl 0 (by decide) (fl_M_43 G hW) (fun _ h9 => h9) rfl d_M_count_35 ?_
  refine lv_if_le (tgt := 43) hx hb d_M_count_38 (by decide) (fun c_38 => ?_) (fun c_38 => absurd (by decide) c_38)
  refine lv_iload_n hx hb d_M_count_43 rfl (lv_at hl 2 rfl) ?_
  refine lv_iconst (v := (nI 4)) hx hb d_M_count_44 (by decide) ?_
  refine lv_icmp_ge (tgt := 96) hx hb d_M_count_45 (by decide) (fun c_45 => absurd c_45 (by decide)) (fun c_45 => ?_)
  refine lv_iload_n hx hb d_M_count_48 rfl (lv_at hl 2 rfl) ?_
  refine lv_if_ne (tgt := 61) hx hb d_M_count_49 (by decide) (fun c_49 => ?_) (fun c_49 => absurd c_49 (by decide))
  refine lv_iload_n hx hb d_M_count_61 rfl (lv_at hl 2 rfl) ?_
  refine lv_iconst (v := (nI 1)) hx hb d_M_count_62 (by decide) ?_
  refine lv_icmp_ne (tgt := 75) hx hb d_M_count_63 (by decide) (fun c_63 => ?_) (fun c_63 => absurd c_63 (by decide))
  refine lv_iload_n hx hb d_M_count_75 rfl (lv_at hl 2 rfl) ?_
  refine lv_iconst (v := (nI 2)) hx hb d_M_count_76 (by decide) ?_
  refine lv_icmp_ne (tgt := 89) hx hb d_M_count_77 (by decide) (fun c_77 => absurd (rfl) c_77) (fun c_77 => ?_)
  refine lv_aload_n hx hb d_M_count_80 rfl (lv_at hl 0 rfl) ?_
  refine va_get (D := D) (ci := 4) (v := .ref a3) (C := R_M) (T := T_M) (N := 12) hx hb (us_M G hW) (fun _ h => h) hown hK hP 0 rfl rfl 3 (by decide) (fl_M_16 G hW) (fun _ h9 => h9) rfl d_M_count_81 ?_
  refine lv_iload_n hx hb d_M_count_84 rfl (lv_at hl 1 rfl) ?_
  refine ia_ld hx hb hK hP 3 (j := j) rfl (hj) (by decide) d_M_count_85 ?_
  refine tp_i (y := (nI (kb j))) rfl ?_
  refine tp_i (y := (cntS (S j) 2)) (by rw [p3, hSj]; rfl) ?_
  refine lv_goto (tgt := 95) hx hb d_M_count_86 (by decide) ?_
  exact mx_iret hx hb hr hlk d_M_count_95 (Nat.le_of_ble_eq_true rfl) (Nat.le_of_ble_eq_true rfl) hS.2.2 (⟨rfl, ki, ka, kb, zs, pu, ce, pa, tr, so, pl, ot, hP, hpic⟩)

set_option maxHeartbeats 4000000 in
set_option maxRecDepth 100000 in
theorem c_M_count_1_3 {l : Launch} {s0 : State} {D : va_G} {cI cF cJ : ClassId} (G : Gx l s0 D cI cF cJ) (hm a1 a2 a3 a4 a5 a6 a7 a8 a9 a10 a11 : Nat) (th : Int32) (S : Nat → FS) (j A B n : Nat) (hd pv : Int32) (cs f : Nat → Nat) {H0 : Heap} {A0 : Nat → Prop} (hM : MP D cI hm a1 a2 a3 a4 a5 a6 a7 a8 a9 a10 a11 th S H0) (hD : va_D A0 (adM hm a1 a2 a3 a4 a5 a6 a7 a8 a9 a10 a11)) (hok : ∀ i, i < 4 → okS (S i)) (hj : j < 4) (hSj : S j = (1, A, B, hd, pv, cs, n, f)) : Mx l s0 y_M_count (.code y_M_count b_M_count 7 (some .int)) { frames := 7, cells := 0, slots := 0, locals := 170 } [.ref hm, .int (nI j), .int (nI 3)] H0 (Aa [hm, a1, a2, a3, a4, a5, a6, a7, a8, a9, a10, a11] H0.size) (Rw (.int (cntS (S j) 3)) (fun H1 => MP D cI hm a1 a2 a3 a4 a5 a6 a7 a8 a9 a10 a11 (nI 0) S H1)) := by
  refine Mx.ofW (own := "FewBitsModel") rfl rfl ?_
  rintro p e s m below meth c ⟨hx, hb, hml, hr, hown, hW, hlk⟩ hnm het hH
  have hK := G.k hW
  have hD0 := hD
  obtain ⟨ki, ka, kb, zs, pu, ce, pa, tr, so, pl, ot, hP, hpic⟩ := hM
  have hD : va_D (Aa [hm, a1, a2, a3, a4, a5, a6, a7, a8, a9, a10, a11] H0.size) [(hm, .inr (4, [.int th, .ref a1, .ref a2, .ref a3, .ref a4, .ref a5, .ref a6, .ref a7, .ref a8, .ref a9, .ref a10, .ref a11])), (a1, aN cI 4 ki), (a2, aN cI 4 ka), (a3, aN cI 4 kb), (a4, aI cI 4 zs), (a5, aI cI 4 pu), (a6, aN cI 4096 ce), (a7, aN cI 1024 pa), (a8, aN cI 1024 tr), (a9, aI cI 256 so), (a10, aN cI 6 pl), (a11, aN cI 6 ot)] := va_D.same2 [hm, a1, a2, a3, a4, a5, a6, a7, a8, a9, a10, a11] (hD.aa (sz := H0.size)) rfl rfl
  have hS : va_S (Aa [hm, a1, a2, a3, a4, a5, a6, a7, a8, a9, a10, a11] H0.size) H0 H0 [] := va_S.rf
  have hpj := hpic j hj
  rw [hSj] at hpj
  obtain ⟨p1, p2, p3, p4, p5, p6⟩ := hpj.f1
  have hoj := hok j hj
  rw [hSj] at hoj
  have hq := okS_1.mp hoj
  have h0 : (S j).1 ≠ 0 := by rw [hSj]; exact (by decide : 1 ≠ 0)
  have hA : A ≤ 10 := hq.2.1
  have hB : B ≤ 6 := hq.2.2.2.1
  have h8 := p2_le hA
  have hl := lv_entry ([.ref hm, .int (nI j), .int (nI 3)]) (n := 7) (Nat.le_of_ble_eq_true rfl)
  rw [lg_entry_eq]
  generalize (lg_sl ([.ref hm, .int (nI j), .int (nI 3)]) ++ List.replicate (7 - (lg_sl ([.ref hm, .int (nI j), .int (nI 3)])).length) Slot.unset).toArray = ls at hl ⊢
  have hl : lv_has ls 7 [(0, .ref hm), (1, .int (nI j)), (2, .int (nI 3))] := hl
  refine lv_aload_n hx hb d_M_count_0 rfl (lv_at hl 0 rfl) ?_
  refine lv_aload_n hx hb d_M_count_1 rfl (lv_at hl 0 rfl) ?_
  refine lv_iload_n hx hb d_M_count_2 rfl (lv_at hl 1 rfl) ?_
  refine mx_callR (r := .int (nI (if (S j).1 = 0 then 2 else 0))) (c_M_wrg G hm a1 a2 a3 a4 a5 a6 a7 a8 a9 a10 a11 th S j ⟨ki, ka, kb, zs, pu, ce, pa, tr, so, pl, ot, hP, hpic⟩ hD0 hok hj) hW (iv_M_count_3 G hx hb hown hW (va_recv hK hP (ci := 4) (q0 := 0) rfl rfl) [.int (nI j)] [.ref hm] rfl) hml hl.1 (by rw [hb]; exact d_M_count_3) (cd_M_wrong G hW) ⟨Nat.le_of_ble_eq_true rfl, Nat.le_of_ble_eq_true rfl⟩ rfl rfl (Nat.le_of_ble_eq_true rfl) (Nat.le_of_ble_eq_true rfl) (Nat.le_of_ble_eq_true rfl) ?_
  refine tp_i (y := (nI 0)) (by rw [if_neg h0]) ?_
  refine lv_if_le (tgt := 17) hx hb d_M_count_6 (by decide) (fun c_6 => ?_) (fun c_6 => absurd (by decide) c_6)
  refine lv_iload_n hx hb d_M_count_17 rfl (lv_at hl 2 rfl) ?_
  refine lv_if_lt (tgt := 26) hx hb d_M_count_18 (by decide) (fun c_18 => absurd c_18 (by decide)) (fun c_18 => ?_)
  refine lv_iload_n hx hb d_M_count_21 rfl (lv_at hl 2 rfl) ?_
  refine lv_iconst (v := (nI 5)) hx hb d_M_count_22 (by decide) ?_
  refine lv_icmp_le (tgt := 30) hx hb d_M_count_23 (by decide) (fun c_23 => ?_) (fun c_23 => absurd (by decide) c_23)
  refine lv_iconst (v := (nI 0)) hx hb d_M_count_30 (by decide) ?_
  refine va_put (D := D) (ci := 4) (v := .int (nI 0)) (ty := .int) (C := R_M) (T := T_M) (N := 12) hx hb (us_M G hW) (fun _ h => h) t_M to_M nm_M hown hK hP hD hS 0 rfl rfl 0 (by decide) (fl_M_43 G hW) (fun _ h9 => h9) rfl (by decide +kernel) rfl rfl (Nat.le_of_ble_eq_true rfl) d_M_count_31 (fun H locs hP hD hS => ?_)
  have hP : va_P D vcl [(hm, .inr (4, [.int (nI 0), .ref a1, .ref a2, .ref a3, .ref a4, .ref a5, .ref a6, .ref a7, .ref a8, .ref a9, .ref a10, .ref a11])), (a1, aN cI 4 ki), (a2, aN cI 4 ka), (a3, aN cI 4 kb), (a4, aI cI 4 zs), (a5, aI cI 4 pu), (a6, aN cI 4096 ce), (a7, aN cI 1024 pa), (a8, aN cI 1024 tr), (a9, aI cI 256 so), (a10, aN cI 6 pl), (a11, aN cI 6 ot)] H := hP
  have hD : va_D (Aa [hm, a1, a2, a3, a4, a5, a6, a7, a8, a9, a10, a11] H0.size) [(hm, .inr (4, [.int (nI 0), .ref a1, .ref a2, .ref a3, .ref a4, .ref a5, .ref a6, .ref a7, .ref a8, .ref a9, .ref a10, .ref a11])), (a1, aN cI 4 ki), (a2, aN cI 4 ka), (a3, aN cI 4 kb), (a4, aI cI 4 zs), (a5, aI cI 4 pu), (a6, aN cI 4096 ce), (a7, aN cI 1024 pa), (a8, aN cI 1024 tr), (a9, aI cI 256 so), (a10, aN cI 6 pl), (a11, aN cI 6 ot)] := hD
  refine lv_aload_n hx hb d_M_count_34 rfl (lv_at hl 0 rfl) ?_
  refine va_get (D := D) (ci := 4) (v := .int (nI 0)) (C := R_M) (T := T_M) (N := 12) hx hb (us_M G hW) (fun _ h => h) hown hK hP 0 rfl rfl 0 (by decide) (fl_M_43 G hW) (fun _ h9 => h9) rfl d_M_count_35 ?_
  refine lv_if_le (tgt := 43) hx hb d_M_count_38 (by decide) (fun c_38 => ?_) (fun c_38 => absurd (by decide) c_38)
  refine lv_iload_n hx hb d_M_count_43 rfl (lv_at hl 2 rfl) ?_
  refine lv_iconst (v := (nI 4)) hx hb d_M_count_44 (by decide) ?_
  refine lv_icmp_ge (tgt := 96) hx hb d_M_count_45 (by decide) (fun c_45 => absurd c_45 (by decide)) (fun c_45 => ?_)
  refine lv_iload_n hx hb d_M_count_48 rfl (lv_at hl 2 rfl) ?_
  refine lv_if_ne (tgt := 61) hx hb d_M_count_49 (by decide) (fun c_49 => ?_) (fun c_49 => absurd c_49 (by decide))
  refine lv_iload_n hx hb d_M_count_61 rfl (lv_at hl 2 rfl) ?_
  refine lv_iconst (v := (nI 1)) hx hb d_M_count_62 (by decide) ?_
  refine lv_icmp_ne (tgt := 75) hx hb d_M_count_63 (by decide) (fun c_63 => ?_) (fun c_63 => absurd c_63 (by decide))
  refine lv_iload_n hx hb d_M_count_75 rfl (lv_at hl 2 rfl) ?_
  refine lv_iconst (v := (nI 2)) hx hb d_M_count_76 (by decide) ?_
  refine lv_icmp_ne (tgt := 89) hx hb d_M_count_77 (by decide) (fun c_77 => ?_) (fun c_77 => absurd c_77 (by decide))
  refine lv_aload_n hx hb d_M_count_89 rfl (lv_at hl 0 rfl) ?_
  refine va_get (D := D) (ci := 4) (v := .ref a4) (C := R_M) (T := T_M) (N := 12) hx hb (us_M G hW) (fun _ h => h) hown hK hP 0 rfl rfl 4 (by decide) (fl_M_19 G hW) (fun _ h9 => h9) rfl d_M_count_90 ?_
  refine lv_iload_n hx hb d_M_count_93 rfl (lv_at hl 1 rfl) ?_
  refine ia_ld hx hb hK hP 4 (j := j) rfl (hj) (by decide) d_M_count_94 ?_
  refine tp_i (y := (cntS (S j) 3)) (by rw [p4, hSj]; rfl) ?_
  exact mx_iret hx hb hr hlk d_M_count_95 (Nat.le_of_ble_eq_true rfl) (Nat.le_of_ble_eq_true rfl) hS.2.2 (⟨rfl, ki, ka, kb, zs, pu, ce, pa, tr, so, pl, ot, hP, hpic⟩)

set_option maxHeartbeats 4000000 in
set_option maxRecDepth 100000 in
theorem c_M_count_1_4 {l : Launch} {s0 : State} {D : va_G} {cI cF cJ : ClassId} (G : Gx l s0 D cI cF cJ) (hm a1 a2 a3 a4 a5 a6 a7 a8 a9 a10 a11 : Nat) (th : Int32) (S : Nat → FS) (j A B n : Nat) (hd pv : Int32) (cs f : Nat → Nat) {H0 : Heap} {A0 : Nat → Prop} (hM : MP D cI hm a1 a2 a3 a4 a5 a6 a7 a8 a9 a10 a11 th S H0) (hD : va_D A0 (adM hm a1 a2 a3 a4 a5 a6 a7 a8 a9 a10 a11)) (hok : ∀ i, i < 4 → okS (S i)) (hj : j < 4) (hSj : S j = (1, A, B, hd, pv, cs, n, f)) : Mx l s0 y_M_count (.code y_M_count b_M_count 7 (some .int)) { frames := 7, cells := 0, slots := 0, locals := 170 } [.ref hm, .int (nI j), .int (nI 4)] H0 (Aa [hm, a1, a2, a3, a4, a5, a6, a7, a8, a9, a10, a11] H0.size) (Rw (.int (cntS (S j) 4)) (fun H1 => MP D cI hm a1 a2 a3 a4 a5 a6 a7 a8 a9 a10 a11 (nI 0) S H1)) := by
  refine Mx.ofW (own := "FewBitsModel") rfl rfl ?_
  rintro p e s m below meth c ⟨hx, hb, hml, hr, hown, hW, hlk⟩ hnm het hH
  have hK := G.k hW
  have hD0 := hD
  obtain ⟨ki, ka, kb, zs, pu, ce, pa, tr, so, pl, ot, hP, hpic⟩ := hM
  have hD : va_D (Aa [hm, a1, a2, a3, a4, a5, a6, a7, a8, a9, a10, a11] H0.size) [(hm, .inr (4, [.int th, .ref a1, .ref a2, .ref a3, .ref a4, .ref a5, .ref a6, .ref a7, .ref a8, .ref a9, .ref a10, .ref a11])), (a1, aN cI 4 ki), (a2, aN cI 4 ka), (a3, aN cI 4 kb), (a4, aI cI 4 zs), (a5, aI cI 4 pu), (a6, aN cI 4096 ce), (a7, aN cI 1024 pa), (a8, aN cI 1024 tr), (a9, aI cI 256 so), (a10, aN cI 6 pl), (a11, aN cI 6 ot)] := va_D.same2 [hm, a1, a2, a3, a4, a5, a6, a7, a8, a9, a10, a11] (hD.aa (sz := H0.size)) rfl rfl
  have hS : va_S (Aa [hm, a1, a2, a3, a4, a5, a6, a7, a8, a9, a10, a11] H0.size) H0 H0 [] := va_S.rf
  have hpj := hpic j hj
  rw [hSj] at hpj
  obtain ⟨p1, p2, p3, p4, p5, p6⟩ := hpj.f1
  have hoj := hok j hj
  rw [hSj] at hoj
  have hq := okS_1.mp hoj
  have h0 : (S j).1 ≠ 0 := by rw [hSj]; exact (by decide : 1 ≠ 0)
  have hA : A ≤ 10 := hq.2.1
  have hB : B ≤ 6 := hq.2.2.2.1
  have h8 := p2_le hA
  have hcb : ∀ q, q < 1024 → (vw ce (1024 * j)) q < 65536 := fun q hq9 => Nat.lt_of_le_of_lt (hq.ce p5 q hq9) (by decide)
  have hl := lv_entry ([.ref hm, .int (nI j), .int (nI 4)]) (n := 7) (Nat.le_of_ble_eq_true rfl)
  rw [lg_entry_eq]
  generalize (lg_sl ([.ref hm, .int (nI j), .int (nI 4)]) ++ List.replicate (7 - (lg_sl ([.ref hm, .int (nI j), .int (nI 4)])).length) Slot.unset).toArray = ls at hl ⊢
  have hl : lv_has ls 7 [(0, .ref hm), (1, .int (nI j)), (2, .int (nI 4))] := hl
  refine lv_aload_n hx hb d_M_count_0 rfl (lv_at hl 0 rfl) ?_
  refine lv_aload_n hx hb d_M_count_1 rfl (lv_at hl 0 rfl) ?_
  refine lv_iload_n hx hb d_M_count_2 rfl (lv_at hl 1 rfl) ?_
  refine mx_callR (r := .int (nI (if (S j).1 = 0 then 2 else 0))) (c_M_wrg G hm a1 a2 a3 a4 a5 a6 a7 a8 a9 a10 a11 th S j ⟨ki, ka, kb, zs, pu, ce, pa, tr, so, pl, ot, hP, hpic⟩ hD0 hok hj) hW (iv_M_count_3 G hx hb hown hW (va_recv hK hP (ci := 4) (q0 := 0) rfl rfl) [.int (nI j)] [.ref hm] rfl) hml hl.1 (by rw [hb]; exact d_M_count_3) (cd_M_wrong G hW) ⟨Nat.le_of_ble_eq_true rfl, Nat.le_of_ble_eq_true rfl⟩ rfl rfl (Nat.le_of_ble_eq_true rfl) (Nat.le_of_ble_eq_true rfl) (Nat.le_of_ble_eq_true rfl) ?_
  refine tp_i (y := (nI 0)) (by rw [if_neg h0]) ?_
  refine lv_if_le (tgt := 17) hx hb d_M_count_6 (by decide) (fun c_6 => ?_) (fun c_6 => absurd (by decide) c_6)
  refine lv_iload_n hx hb d_M_count_17 rfl (lv_at hl 2 rfl) ?_
  refine lv_if_lt (tgt := 26) hx hb d_M_count_18 (by decide) (fun c_18 => absurd c_18 (by decide)) (fun c_18 => ?_)
  refine lv_iload_n hx hb d_M_count_21 rfl (lv_at hl 2 rfl) ?_
  refine lv_iconst (v := (nI 5)) hx hb d_M_count_22 (by decide) ?_
  refine lv_icmp_le (tgt := 30) hx hb d_M_count_23 (by decide) (fun c_23 => ?_) (fun c_23 => absurd (by decide) c_23)
  refine lv_iconst (v := (nI 0)) hx hb d_M_count_30 (by decide) ?_
  refine va_put (D := D) (ci := 4) (v := .int (nI 0)) (ty := .int) (C := R_M) (T := T_M) (N := 12) hx hb (us_M G hW) (fun _ h => h) t_M to_M nm_M hown hK hP hD hS 0 rfl rfl 0 (by decide) (fl_M_43 G hW) (fun _ h9 => h9) rfl (by decide +kernel) rfl rfl (Nat.le_of_ble_eq_true rfl) d_M_count_31 (fun H locs hP hD hS => ?_)
  have hP : va_P D vcl [(hm, .inr (4, [.int (nI 0), .ref a1, .ref a2, .ref a3, .ref a4, .ref a5, .ref a6, .ref a7, .ref a8, .ref a9, .ref a10, .ref a11])), (a1, aN cI 4 ki), (a2, aN cI 4 ka), (a3, aN cI 4 kb), (a4, aI cI 4 zs), (a5, aI cI 4 pu), (a6, aN cI 4096 ce), (a7, aN cI 1024 pa), (a8, aN cI 1024 tr), (a9, aI cI 256 so), (a10, aN cI 6 pl), (a11, aN cI 6 ot)] H := hP
  have hD : va_D (Aa [hm, a1, a2, a3, a4, a5, a6, a7, a8, a9, a10, a11] H0.size) [(hm, .inr (4, [.int (nI 0), .ref a1, .ref a2, .ref a3, .ref a4, .ref a5, .ref a6, .ref a7, .ref a8, .ref a9, .ref a10, .ref a11])), (a1, aN cI 4 ki), (a2, aN cI 4 ka), (a3, aN cI 4 kb), (a4, aI cI 4 zs), (a5, aI cI 4 pu), (a6, aN cI 4096 ce), (a7, aN cI 1024 pa), (a8, aN cI 1024 tr), (a9, aI cI 256 so), (a10, aN cI 6 pl), (a11, aN cI 6 ot)] := hD
  refine lv_aload_n hx hb d_M_count_34 rfl (lv_at hl 0 rfl) ?_
  refine va_get (D := D) (ci := 4) (v := .int (nI 0)) (C := R_M) (T := T_M) (N := 12) hx hb (us_M G hW) (fun _ h => h) hown hK hP 0 rfl rfl 0 (by decide) (fl_M_43 G hW) (fun _ h9 => h9) rfl d_M_count_35 ?_
  refine lv_if_le (tgt := 43) hx hb d_M_count_38 (by decide) (fun c_38 => ?_) (fun c_38 => absurd (by decide) c_38)
  refine lv_iload_n hx hb d_M_count_43 rfl (lv_at hl 2 rfl) ?_
  refine lv_iconst (v := (nI 4)) hx hb d_M_count_44 (by decide) ?_
  refine lv_icmp_ge (tgt := 96) hx hb d_M_count_45 (by decide) (fun c_45 => ?_) (fun c_45 => absurd (by decide) c_45)
  refine lv_aload_n hx hb d_M_count_96 rfl (lv_at hl 0 rfl) ?_
  refine va_get (D := D) (ci := 4) (v := .ref a1) (C := R_M) (T := T_M) (N := 12) hx hb (us_M G hW) (fun _ h => h) hown hK hP 0 rfl rfl 1 (by decide) (fl_M_7 G hW) (fun _ h9 => h9) rfl d_M_count_97 ?_
  refine lv_iload_n hx hb d_M_count_100 rfl (lv_at hl 1 rfl) ?_
  refine ia_ld hx hb hK hP 1 (j := j) rfl (hj) (by decide) d_M_count_101 ?_
  refine tp_i (y := (nI (ki j))) rfl ?_
  refine tp_i (y := (nI 1)) (by rw [p1]) ?_
  refine lv_iconst (v := (nI 3)) hx hb d_M_count_102 (by decide) ?_
  refine lv_icmp_ne (tgt := 126) hx hb d_M_count_103 (by decide) (fun c_103 => ?_) (fun c_103 => absurd c_103 (by decide))
  refine lv_iconst (v := (nI 0)) hx hb d_M_count_126 (by decide) ?_
  refine lv_istore_n (lv' := [(3, .int (nI 0)), (0, .ref hm), (1, .int (nI j)), (2, .int (nI 4))]) hx hb d_M_count_127 rfl hl (by decide) rfl (fun ls hl => ?_)
  refine lv_iconst (v := (nI 0)) hx hb d_M_count_128 (by decide) ?_
  refine lv_istore (lv' := [(4, .int (nI 0)), (3, .int (nI 0)), (0, .ref hm), (1, .int (nI j)), (2, .int (nI 4))]) hx hb d_M_count_129 hl (by decide) rfl (fun ls hl => ?_)
  refine lv_iconst (v := (nI 0)) hx hb d_M_count_131 (by decide) ?_
  refine lv_istore (lv' := [(5, .int (nI 0)), (4, .int (nI 0)), (3, .int (nI 0)), (0, .ref hm), (1, .int (nI j)), (2, .int (nI 4))]) hx hb d_M_count_132 hl (by decide) rfl (fun ls hl => ?_)
  have loop_134 : ∀ (k : Nat) (i : Nat) (t1 : Nat) (t2 : Nat), (i + k = 1024) → (t1 = posN (vw ce (1024 * j)) i) → (t2 = maxN (vw ce (1024 * j)) i) → (t2 < 65536) → ∀ (ls : Array Slot), lv_has ls 7 [(5, .int (nI i)), (4, .int (nI t2)), (3, .int (nI t1)), (0, .ref hm), (1, .int (nI j)), (2, .int (nI 4))] → W p l e { frames := 7, cells := 0, slots := 0, locals := 170 } s m ([.ref hm, .int (nI j), .int (nI 4)] : List Value).toArray below meth c H locs 0 0 (MQx below (Rw (.int (cntS (S j) 4)) (fun H1 => MP D cI hm a1 a2 a3 a4 a5 a6 a7 a8 a9 a10 a11 (nI 0) S H1)) s 0 0 (Aa [hm, a1, a2, a3, a4, a5, a6, a7, a8, a9, a10, a11] H0.size)) (F0 m 134 ls []) := by
    intro k
    induction k with
    | zero =>
      intro i t1 t2 hk ht1 ht2 ht3  ls hl
      refine lv_iload hx hb d_M_count_134 (lv_at hl 0 rfl) ?_
      refine lv_sipush (v := (nI 1024)) hx hb d_M_count_136 (by decide) ?_
      refine lv_icmp_ge (tgt := 192) hx hb d_M_count_139 (by decide) (fun c_139 => ?_) (fun c_139 => absurd (nI_le (by omega) (by omega)) c_139)
      refine lv_iload_n hx hb d_M_count_192 rfl (lv_at hl 5 rfl) ?_
      refine lv_iconst (v := (nI 4)) hx hb d_M_count_193 (by decide) ?_
      refine lv_icmp_ne (tgt := 201) hx hb d_M_count_194 (by decide) (fun c_194 => absurd (rfl) c_194) (fun c_194 => ?_)
      refine lv_iload_n hx hb d_M_count_197 rfl (lv_at hl 2 rfl) ?_
      refine lv_goto (tgt := 222) hx hb d_M_count_198 (by decide) ?_
      exact mx_iret hx hb hr hlk d_M_count_222 (Nat.le_of_ble_eq_true rfl) (Nat.le_of_ble_eq_true rfl) hS.2.2 (⟨by rw [hSj]; show _ = Outcome.returned (some (Value.int (nI (posN cs (2 ^ A))))); rw [ht1, show i = 1024 by omega, posN_agr p5, posN_tail (by omega) hq.2.2.2.2.2], ki, ka, kb, zs, pu, ce, pa, tr, so, pl, ot, hP, hpic⟩)
    | succ k ih_134 =>
      intro i t1 t2 hk ht1 ht2 ht3  ls hl
      refine lv_iload hx hb d_M_count_134 (lv_at hl 0 rfl) ?_
      refine lv_sipush (v := (nI 1024)) hx hb d_M_count_136 (by decide) ?_
      refine lv_icmp_ge (tgt := 192) hx hb d_M_count_139 (by decide) (fun c_139 => absurd c_139 (nI_ge (by omega) (by omega))) (fun c_139 => ?_)
      refine lv_aload_n hx hb d_M_count_142 rfl (lv_at hl 3 rfl) ?_
      refine va_get (D := D) (ci := 4) (v := .ref a6) (C := R_M) (T := T_M) (N := 12) hx hb (us_M G hW) (fun _ h => h) hown hK hP 0 rfl rfl 6 (by decide) (fl_M_25 G hW) (fun _ h9 => h9) rfl d_M_count_143 ?_
      refine lv_sipush (v := (nI 1024)) hx hb d_M_count_146 (by decide) ?_
      refine lv_iload_n hx hb d_M_count_149 rfl (lv_at hl 4 rfl) ?_
      refine lv_imul hx hb d_M_count_150 ?_
      refine tp_i (y := (nI (1024 * j))) (pk_mul _ _) ?_
      refine lv_iload hx hb d_M_count_151 (lv_at hl 0 rfl) ?_
      refine lv_iadd hx hb d_M_count_153 ?_
      refine tp_i (y := (nI ((1024 * j) + i))) (nI_add _ _) ?_
      refine ia_ld hx hb hK hP 6 (j := ((1024 * j) + i)) rfl (by omega) (by decide) d_M_count_154 ?_
      refine tp_i (y := (nI (ce ((1024 * j) + i)))) rfl ?_
      refine tp_i (y := (nI ((vw ce (1024 * j)) i))) (rfl) ?_
      refine lv_istore (lv' := [(6, .int (nI ((vw ce (1024 * j)) i))), (5, .int (nI i)), (4, .int (nI t2)), (3, .int (nI t1)), (0, .ref hm), (1, .int (nI j)), (2, .int (nI 4))]) hx hb d_M_count_155 hl (by decide) rfl (fun ls hl => ?_)
      refine lv_iload hx hb d_M_count_157 (lv_at hl 0 rfl) ?_
      refine lv_if_le (tgt := 168) hx hb d_M_count_159 (by decide) (fun c_159 => ?_) (fun c_159 => ?_)
      · refine lv_iload_n hx hb d_M_count_168 rfl (lv_at hl 3 rfl) ?_
        refine lv_istore_n (lv' := [(3, .int (nI t1)), (6, .int (nI ((vw ce (1024 * j)) i))), (5, .int (nI i)), (4, .int (nI t2)), (0, .ref hm), (1, .int (nI j)), (2, .int (nI 4))]) hx hb d_M_count_169 rfl hl (by decide) rfl (fun ls hl => ?_)
        refine lv_iload hx hb d_M_count_170 (lv_at hl 1 rfl) ?_
        refine lv_iload hx hb d_M_count_172 (lv_at hl 3 rfl) ?_
        refine lv_icmp_le (tgt := 182) hx hb d_M_count_174 (by decide) (fun c_174 => ?_) (fun c_174 => ?_)
        · refine lv_iload hx hb d_M_count_182 (lv_at hl 3 rfl) ?_
          refine lv_istore (lv' := [(4, .int (nI t2)), (3, .int (nI t1)), (6, .int (nI ((vw ce (1024 * j)) i))), (5, .int (nI i)), (0, .ref hm), (1, .int (nI j)), (2, .int (nI 4))]) hx hb d_M_count_184 hl (by decide) rfl (fun ls hl => ?_)
          refine lv_iinc (v := (nI (i + 1))) (lv' := [(5, .int (nI (i + 1))), (4, .int (nI t2)), (3, .int (nI t1)), (6, .int (nI ((vw ce (1024 * j)) i))), (0, .ref hm), (1, .int (nI j)), (2, .int (nI 4))]) hx hb d_M_count_186 hl (k := 3) rfl (nI_1 _) (by decide) rfl (fun ls hl => ?_)
          refine lv_goto (tgt := 134) hx hb d_M_count_189 (by decide) ?_
          exact ih_134 (i + 1) (t1) (t2) (by omega) (by rw [ht1, posN_f (fun h9 => absurd ((nI_leI (b := 0) (by have h9 := hcb i (by omega); omega) (by decide)).mp c_159) (by omega))]) (by show t2 = (if _ then _ else _); rw [if_neg (Nat.not_lt.mpr (by rw [← ht2]; exact (nI_leI (by have h9 := hcb i (by omega); omega) (by omega)).mp c_174)), ht2]) (ht3) ls (lv_sub hl [0, 1, 2, 4, 5, 6] rfl)
        · refine lv_iload hx hb d_M_count_177 (lv_at hl 1 rfl) ?_
          refine lv_goto (tgt := 184) hx hb d_M_count_179 (by decide) ?_
          refine lv_istore (lv' := [(4, .int (nI ((vw ce (1024 * j)) i))), (3, .int (nI t1)), (6, .int (nI ((vw ce (1024 * j)) i))), (5, .int (nI i)), (0, .ref hm), (1, .int (nI j)), (2, .int (nI 4))]) hx hb d_M_count_184 hl (by decide) rfl (fun ls hl => ?_)
          refine lv_iinc (v := (nI (i + 1))) (lv' := [(5, .int (nI (i + 1))), (4, .int (nI ((vw ce (1024 * j)) i))), (3, .int (nI t1)), (6, .int (nI ((vw ce (1024 * j)) i))), (0, .ref hm), (1, .int (nI j)), (2, .int (nI 4))]) hx hb d_M_count_186 hl (k := 3) rfl (nI_1 _) (by decide) rfl (fun ls hl => ?_)
          refine lv_goto (tgt := 134) hx hb d_M_count_189 (by decide) ?_
          exact ih_134 (i + 1) (t1) ((vw ce (1024 * j)) i) (by omega) (by rw [ht1, posN_f (fun h9 => absurd ((nI_leI (b := 0) (by have h9 := hcb i (by omega); omega) (by decide)).mp c_159) (by omega))]) (by show (vw ce (1024 * j)) i = (if _ then _ else _); rw [if_pos (Nat.not_le.mp (fun h9 => c_174 (nI_le (by rw [ht2]; exact h9) (by omega))))]) (hcb i (by omega)) ls (lv_sub hl [0, 1, 2, 4, 5, 6] rfl)
      · refine lv_iload_n hx hb d_M_count_162 rfl (lv_at hl 3 rfl) ?_
        refine lv_iconst (v := (nI 1)) hx hb d_M_count_163 (by decide) ?_
        refine lv_iadd hx hb d_M_count_164 ?_
        refine tp_i (y := (nI (t1 + 1))) (nI_add _ _) ?_
        refine lv_goto (tgt := 169) hx hb d_M_count_165 (by decide) ?_
        refine lv_istore_n (lv' := [(3, .int (nI (t1 + 1))), (6, .int (nI ((vw ce (1024 * j)) i))), (5, .int (nI i)), (4, .int (nI t2)), (0, .ref hm), (1, .int (nI j)), (2, .int (nI 4))]) hx hb d_M_count_169 rfl hl (by decide) rfl (fun ls hl => ?_)
        refine lv_iload hx hb d_M_count_170 (lv_at hl 1 rfl) ?_
        refine lv_iload hx hb d_M_count_172 (lv_at hl 3 rfl) ?_
        refine lv_icmp_le (tgt := 182) hx hb d_M_count_174 (by decide) (fun c_174 => ?_) (fun c_174 => ?_)
        · refine lv_iload hx hb d_M_count_182 (lv_at hl 3 rfl) ?_
          refine lv_istore (lv' := [(4, .int (nI t2)), (3, .int (nI (t1 + 1))), (6, .int (nI ((vw ce (1024 * j)) i))), (5, .int (nI i)), (0, .ref hm), (1, .int (nI j)), (2, .int (nI 4))]) hx hb d_M_count_184 hl (by decide) rfl (fun ls hl => ?_)
          refine lv_iinc (v := (nI (i + 1))) (lv' := [(5, .int (nI (i + 1))), (4, .int (nI t2)), (3, .int (nI (t1 + 1))), (6, .int (nI ((vw ce (1024 * j)) i))), (0, .ref hm), (1, .int (nI j)), (2, .int (nI 4))]) hx hb d_M_count_186 hl (k := 3) rfl (nI_1 _) (by decide) rfl (fun ls hl => ?_)
          refine lv_goto (tgt := 134) hx hb d_M_count_189 (by decide) ?_
          exact ih_134 (i + 1) (t1 + 1) (t2) (by omega) (by rw [ht1, posN_t (Nat.pos_of_ne_zero (fun h9 => c_159 (by rw [h9]; decide)))]) (by show t2 = (if _ then _ else _); rw [if_neg (Nat.not_lt.mpr (by rw [← ht2]; exact (nI_leI (by have h9 := hcb i (by omega); omega) (by omega)).mp c_174)), ht2]) (ht3) ls (lv_sub hl [0, 1, 2, 4, 5, 6] rfl)
        · refine lv_iload hx hb d_M_count_177 (lv_at hl 1 rfl) ?_
          refine lv_goto (tgt := 184) hx hb d_M_count_179 (by decide) ?_
          refine lv_istore (lv' := [(4, .int (nI ((vw ce (1024 * j)) i))), (3, .int (nI (t1 + 1))), (6, .int (nI ((vw ce (1024 * j)) i))), (5, .int (nI i)), (0, .ref hm), (1, .int (nI j)), (2, .int (nI 4))]) hx hb d_M_count_184 hl (by decide) rfl (fun ls hl => ?_)
          refine lv_iinc (v := (nI (i + 1))) (lv' := [(5, .int (nI (i + 1))), (4, .int (nI ((vw ce (1024 * j)) i))), (3, .int (nI (t1 + 1))), (6, .int (nI ((vw ce (1024 * j)) i))), (0, .ref hm), (1, .int (nI j)), (2, .int (nI 4))]) hx hb d_M_count_186 hl (k := 3) rfl (nI_1 _) (by decide) rfl (fun ls hl => ?_)
          refine lv_goto (tgt := 134) hx hb d_M_count_189 (by decide) ?_
          exact ih_134 (i + 1) (t1 + 1) ((vw ce (1024 * j)) i) (by omega) (by rw [ht1, posN_t (Nat.pos_of_ne_zero (fun h9 => c_159 (by rw [h9]; decide)))]) (by show (vw ce (1024 * j)) i = (if _ then _ else _); rw [if_pos (Nat.not_le.mp (fun h9 => c_174 (nI_le (by rw [ht2]; exact h9) (by omega))))]) (hcb i (by omega)) ls (lv_sub hl [0, 1, 2, 4, 5, 6] rfl)
  exact loop_134 (1024) (0) (0) (0) (by omega) (rfl) (rfl) (by decide) ls (lv_sub hl [0, 1, 2, 3, 4, 5] rfl)

set_option maxHeartbeats 4000000 in
set_option maxRecDepth 100000 in
theorem c_M_count_1_5 {l : Launch} {s0 : State} {D : va_G} {cI cF cJ : ClassId} (G : Gx l s0 D cI cF cJ) (hm a1 a2 a3 a4 a5 a6 a7 a8 a9 a10 a11 : Nat) (th : Int32) (S : Nat → FS) (j A B n : Nat) (hd pv : Int32) (cs f : Nat → Nat) {H0 : Heap} {A0 : Nat → Prop} (hM : MP D cI hm a1 a2 a3 a4 a5 a6 a7 a8 a9 a10 a11 th S H0) (hD : va_D A0 (adM hm a1 a2 a3 a4 a5 a6 a7 a8 a9 a10 a11)) (hok : ∀ i, i < 4 → okS (S i)) (hj : j < 4) (hSj : S j = (1, A, B, hd, pv, cs, n, f)) : Mx l s0 y_M_count (.code y_M_count b_M_count 7 (some .int)) { frames := 7, cells := 0, slots := 0, locals := 170 } [.ref hm, .int (nI j), .int (nI 5)] H0 (Aa [hm, a1, a2, a3, a4, a5, a6, a7, a8, a9, a10, a11] H0.size) (Rw (.int (cntS (S j) 5)) (fun H1 => MP D cI hm a1 a2 a3 a4 a5 a6 a7 a8 a9 a10 a11 (nI 0) S H1)) := by
  refine Mx.ofW (own := "FewBitsModel") rfl rfl ?_
  rintro p e s m below meth c ⟨hx, hb, hml, hr, hown, hW, hlk⟩ hnm het hH
  have hK := G.k hW
  have hD0 := hD
  obtain ⟨ki, ka, kb, zs, pu, ce, pa, tr, so, pl, ot, hP, hpic⟩ := hM
  have hD : va_D (Aa [hm, a1, a2, a3, a4, a5, a6, a7, a8, a9, a10, a11] H0.size) [(hm, .inr (4, [.int th, .ref a1, .ref a2, .ref a3, .ref a4, .ref a5, .ref a6, .ref a7, .ref a8, .ref a9, .ref a10, .ref a11])), (a1, aN cI 4 ki), (a2, aN cI 4 ka), (a3, aN cI 4 kb), (a4, aI cI 4 zs), (a5, aI cI 4 pu), (a6, aN cI 4096 ce), (a7, aN cI 1024 pa), (a8, aN cI 1024 tr), (a9, aI cI 256 so), (a10, aN cI 6 pl), (a11, aN cI 6 ot)] := va_D.same2 [hm, a1, a2, a3, a4, a5, a6, a7, a8, a9, a10, a11] (hD.aa (sz := H0.size)) rfl rfl
  have hS : va_S (Aa [hm, a1, a2, a3, a4, a5, a6, a7, a8, a9, a10, a11] H0.size) H0 H0 [] := va_S.rf
  have hpj := hpic j hj
  rw [hSj] at hpj
  obtain ⟨p1, p2, p3, p4, p5, p6⟩ := hpj.f1
  have hoj := hok j hj
  rw [hSj] at hoj
  have hq := okS_1.mp hoj
  have h0 : (S j).1 ≠ 0 := by rw [hSj]; exact (by decide : 1 ≠ 0)
  have hA : A ≤ 10 := hq.2.1
  have hB : B ≤ 6 := hq.2.2.2.1
  have h8 := p2_le hA
  have hcb : ∀ q, q < 1024 → (vw ce (1024 * j)) q < 65536 := fun q hq9 => Nat.lt_of_le_of_lt (hq.ce p5 q hq9) (by decide)
  have hl := lv_entry ([.ref hm, .int (nI j), .int (nI 5)]) (n := 7) (Nat.le_of_ble_eq_true rfl)
  rw [lg_entry_eq]
  generalize (lg_sl ([.ref hm, .int (nI j), .int (nI 5)]) ++ List.replicate (7 - (lg_sl ([.ref hm, .int (nI j), .int (nI 5)])).length) Slot.unset).toArray = ls at hl ⊢
  have hl : lv_has ls 7 [(0, .ref hm), (1, .int (nI j)), (2, .int (nI 5))] := hl
  refine lv_aload_n hx hb d_M_count_0 rfl (lv_at hl 0 rfl) ?_
  refine lv_aload_n hx hb d_M_count_1 rfl (lv_at hl 0 rfl) ?_
  refine lv_iload_n hx hb d_M_count_2 rfl (lv_at hl 1 rfl) ?_
  refine mx_callR (r := .int (nI (if (S j).1 = 0 then 2 else 0))) (c_M_wrg G hm a1 a2 a3 a4 a5 a6 a7 a8 a9 a10 a11 th S j ⟨ki, ka, kb, zs, pu, ce, pa, tr, so, pl, ot, hP, hpic⟩ hD0 hok hj) hW (iv_M_count_3 G hx hb hown hW (va_recv hK hP (ci := 4) (q0 := 0) rfl rfl) [.int (nI j)] [.ref hm] rfl) hml hl.1 (by rw [hb]; exact d_M_count_3) (cd_M_wrong G hW) ⟨Nat.le_of_ble_eq_true rfl, Nat.le_of_ble_eq_true rfl⟩ rfl rfl (Nat.le_of_ble_eq_true rfl) (Nat.le_of_ble_eq_true rfl) (Nat.le_of_ble_eq_true rfl) ?_
  refine tp_i (y := (nI 0)) (by rw [if_neg h0]) ?_
  refine lv_if_le (tgt := 17) hx hb d_M_count_6 (by decide) (fun c_6 => ?_) (fun c_6 => absurd (by decide) c_6)
  refine lv_iload_n hx hb d_M_count_17 rfl (lv_at hl 2 rfl) ?_
  refine lv_if_lt (tgt := 26) hx hb d_M_count_18 (by decide) (fun c_18 => absurd c_18 (by decide)) (fun c_18 => ?_)
  refine lv_iload_n hx hb d_M_count_21 rfl (lv_at hl 2 rfl) ?_
  refine lv_iconst (v := (nI 5)) hx hb d_M_count_22 (by decide) ?_
  refine lv_icmp_le (tgt := 30) hx hb d_M_count_23 (by decide) (fun c_23 => ?_) (fun c_23 => absurd (by decide) c_23)
  refine lv_iconst (v := (nI 0)) hx hb d_M_count_30 (by decide) ?_
  refine va_put (D := D) (ci := 4) (v := .int (nI 0)) (ty := .int) (C := R_M) (T := T_M) (N := 12) hx hb (us_M G hW) (fun _ h => h) t_M to_M nm_M hown hK hP hD hS 0 rfl rfl 0 (by decide) (fl_M_43 G hW) (fun _ h9 => h9) rfl (by decide +kernel) rfl rfl (Nat.le_of_ble_eq_true rfl) d_M_count_31 (fun H locs hP hD hS => ?_)
  have hP : va_P D vcl [(hm, .inr (4, [.int (nI 0), .ref a1, .ref a2, .ref a3, .ref a4, .ref a5, .ref a6, .ref a7, .ref a8, .ref a9, .ref a10, .ref a11])), (a1, aN cI 4 ki), (a2, aN cI 4 ka), (a3, aN cI 4 kb), (a4, aI cI 4 zs), (a5, aI cI 4 pu), (a6, aN cI 4096 ce), (a7, aN cI 1024 pa), (a8, aN cI 1024 tr), (a9, aI cI 256 so), (a10, aN cI 6 pl), (a11, aN cI 6 ot)] H := hP
  have hD : va_D (Aa [hm, a1, a2, a3, a4, a5, a6, a7, a8, a9, a10, a11] H0.size) [(hm, .inr (4, [.int (nI 0), .ref a1, .ref a2, .ref a3, .ref a4, .ref a5, .ref a6, .ref a7, .ref a8, .ref a9, .ref a10, .ref a11])), (a1, aN cI 4 ki), (a2, aN cI 4 ka), (a3, aN cI 4 kb), (a4, aI cI 4 zs), (a5, aI cI 4 pu), (a6, aN cI 4096 ce), (a7, aN cI 1024 pa), (a8, aN cI 1024 tr), (a9, aI cI 256 so), (a10, aN cI 6 pl), (a11, aN cI 6 ot)] := hD
  refine lv_aload_n hx hb d_M_count_34 rfl (lv_at hl 0 rfl) ?_
  refine va_get (D := D) (ci := 4) (v := .int (nI 0)) (C := R_M) (T := T_M) (N := 12) hx hb (us_M G hW) (fun _ h => h) hown hK hP 0 rfl rfl 0 (by decide) (fl_M_43 G hW) (fun _ h9 => h9) rfl d_M_count_35 ?_
  refine lv_if_le (tgt := 43) hx hb d_M_count_38 (by decide) (fun c_38 => ?_) (fun c_38 => absurd (by decide) c_38)
  refine lv_iload_n hx hb d_M_count_43 rfl (lv_at hl 2 rfl) ?_
  refine lv_iconst (v := (nI 4)) hx hb d_M_count_44 (by decide) ?_
  refine lv_icmp_ge (tgt := 96) hx hb d_M_count_45 (by decide) (fun c_45 => ?_) (fun c_45 => absurd (by decide) c_45)
  refine lv_aload_n hx hb d_M_count_96 rfl (lv_at hl 0 rfl) ?_
  refine va_get (D := D) (ci := 4) (v := .ref a1) (C := R_M) (T := T_M) (N := 12) hx hb (us_M G hW) (fun _ h => h) hown hK hP 0 rfl rfl 1 (by decide) (fl_M_7 G hW) (fun _ h9 => h9) rfl d_M_count_97 ?_
  refine lv_iload_n hx hb d_M_count_100 rfl (lv_at hl 1 rfl) ?_
  refine ia_ld hx hb hK hP 1 (j := j) rfl (hj) (by decide) d_M_count_101 ?_
  refine tp_i (y := (nI (ki j))) rfl ?_
  refine tp_i (y := (nI 1)) (by rw [p1]) ?_
  refine lv_iconst (v := (nI 3)) hx hb d_M_count_102 (by decide) ?_
  refine lv_icmp_ne (tgt := 126) hx hb d_M_count_103 (by decide) (fun c_103 => ?_) (fun c_103 => absurd c_103 (by decide))
  refine lv_iconst (v := (nI 0)) hx hb d_M_count_126 (by decide) ?_
  refine lv_istore_n (lv' := [(3, .int (nI 0)), (0, .ref hm), (1, .int (nI j)), (2, .int (nI 5))]) hx hb d_M_count_127 rfl hl (by decide) rfl (fun ls hl => ?_)
  refine lv_iconst (v := (nI 0)) hx hb d_M_count_128 (by decide) ?_
  refine lv_istore (lv' := [(4, .int (nI 0)), (3, .int (nI 0)), (0, .ref hm), (1, .int (nI j)), (2, .int (nI 5))]) hx hb d_M_count_129 hl (by decide) rfl (fun ls hl => ?_)
  refine lv_iconst (v := (nI 0)) hx hb d_M_count_131 (by decide) ?_
  refine lv_istore (lv' := [(5, .int (nI 0)), (4, .int (nI 0)), (3, .int (nI 0)), (0, .ref hm), (1, .int (nI j)), (2, .int (nI 5))]) hx hb d_M_count_132 hl (by decide) rfl (fun ls hl => ?_)
  have loop_134 : ∀ (k : Nat) (i : Nat) (t1 : Nat) (t2 : Nat), (i + k = 1024) → (t1 = posN (vw ce (1024 * j)) i) → (t2 = maxN (vw ce (1024 * j)) i) → (t2 < 65536) → ∀ (ls : Array Slot), lv_has ls 7 [(5, .int (nI i)), (4, .int (nI t2)), (3, .int (nI t1)), (0, .ref hm), (1, .int (nI j)), (2, .int (nI 5))] → W p l e { frames := 7, cells := 0, slots := 0, locals := 170 } s m ([.ref hm, .int (nI j), .int (nI 5)] : List Value).toArray below meth c H locs 0 0 (MQx below (Rw (.int (cntS (S j) 5)) (fun H1 => MP D cI hm a1 a2 a3 a4 a5 a6 a7 a8 a9 a10 a11 (nI 0) S H1)) s 0 0 (Aa [hm, a1, a2, a3, a4, a5, a6, a7, a8, a9, a10, a11] H0.size)) (F0 m 134 ls []) := by
    intro k
    induction k with
    | zero =>
      intro i t1 t2 hk ht1 ht2 ht3  ls hl
      refine lv_iload hx hb d_M_count_134 (lv_at hl 0 rfl) ?_
      refine lv_sipush (v := (nI 1024)) hx hb d_M_count_136 (by decide) ?_
      refine lv_icmp_ge (tgt := 192) hx hb d_M_count_139 (by decide) (fun c_139 => ?_) (fun c_139 => absurd (nI_le (by omega) (by omega)) c_139)
      refine lv_iload_n hx hb d_M_count_192 rfl (lv_at hl 5 rfl) ?_
      refine lv_iconst (v := (nI 4)) hx hb d_M_count_193 (by decide) ?_
      refine lv_icmp_ne (tgt := 201) hx hb d_M_count_194 (by decide) (fun c_194 => ?_) (fun c_194 => absurd c_194 (by decide))
      refine lv_aload_n hx hb d_M_count_201 rfl (lv_at hl 3 rfl) ?_
      refine va_get (D := D) (ci := 4) (v := .ref a1) (C := R_M) (T := T_M) (N := 12) hx hb (us_M G hW) (fun _ h => h) hown hK hP 0 rfl rfl 1 (by decide) (fl_M_7 G hW) (fun _ h9 => h9) rfl d_M_count_202 ?_
      refine lv_iload_n hx hb d_M_count_205 rfl (lv_at hl 4 rfl) ?_
      refine ia_ld hx hb hK hP 1 (j := j) rfl (hj) (by decide) d_M_count_206 ?_
      refine tp_i (y := (nI (ki j))) rfl ?_
      refine tp_i (y := (nI 1)) (by rw [p1]) ?_
      refine lv_iconst (v := (nI 1)) hx hb d_M_count_207 (by decide) ?_
      refine lv_icmp_ne (tgt := 216) hx hb d_M_count_208 (by decide) (fun c_208 => absurd (rfl) c_208) (fun c_208 => ?_)
      refine lv_iload hx hb d_M_count_211 (lv_at hl 1 rfl) ?_
      refine lv_goto (tgt := 222) hx hb d_M_count_213 (by decide) ?_
      exact mx_iret hx hb hr hlk d_M_count_222 (Nat.le_of_ble_eq_true rfl) (Nat.le_of_ble_eq_true rfl) hS.2.2 (⟨by rw [hSj]; show _ = Outcome.returned (some (Value.int (nI (maxN cs (2 ^ A))))); rw [ht2, show i = 1024 by omega, maxN_agr p5, maxN_tail (by omega) hq.2.2.2.2.2], ki, ka, kb, zs, pu, ce, pa, tr, so, pl, ot, hP, hpic⟩)
    | succ k ih_134 =>
      intro i t1 t2 hk ht1 ht2 ht3  ls hl
      refine lv_iload hx hb d_M_count_134 (lv_at hl 0 rfl) ?_
      refine lv_sipush (v := (nI 1024)) hx hb d_M_count_136 (by decide) ?_
      refine lv_icmp_ge (tgt := 192) hx hb d_M_count_139 (by decide) (fun c_139 => absurd c_139 (nI_ge (by omega) (by omega))) (fun c_139 => ?_)
      refine lv_aload_n hx hb d_M_count_142 rfl (lv_at hl 3 rfl) ?_
      refine va_get (D := D) (ci := 4) (v := .ref a6) (C := R_M) (T := T_M) (N := 12) hx hb (us_M G hW) (fun _ h => h) hown hK hP 0 rfl rfl 6 (by decide) (fl_M_25 G hW) (fun _ h9 => h9) rfl d_M_count_143 ?_
      refine lv_sipush (v := (nI 1024)) hx hb d_M_count_146 (by decide) ?_
      refine lv_iload_n hx hb d_M_count_149 rfl (lv_at hl 4 rfl) ?_
      refine lv_imul hx hb d_M_count_150 ?_
      refine tp_i (y := (nI (1024 * j))) (pk_mul _ _) ?_
      refine lv_iload hx hb d_M_count_151 (lv_at hl 0 rfl) ?_
      refine lv_iadd hx hb d_M_count_153 ?_
      refine tp_i (y := (nI ((1024 * j) + i))) (nI_add _ _) ?_
      refine ia_ld hx hb hK hP 6 (j := ((1024 * j) + i)) rfl (by omega) (by decide) d_M_count_154 ?_
      refine tp_i (y := (nI (ce ((1024 * j) + i)))) rfl ?_
      refine tp_i (y := (nI ((vw ce (1024 * j)) i))) (rfl) ?_
      refine lv_istore (lv' := [(6, .int (nI ((vw ce (1024 * j)) i))), (5, .int (nI i)), (4, .int (nI t2)), (3, .int (nI t1)), (0, .ref hm), (1, .int (nI j)), (2, .int (nI 5))]) hx hb d_M_count_155 hl (by decide) rfl (fun ls hl => ?_)
      refine lv_iload hx hb d_M_count_157 (lv_at hl 0 rfl) ?_
      refine lv_if_le (tgt := 168) hx hb d_M_count_159 (by decide) (fun c_159 => ?_) (fun c_159 => ?_)
      · refine lv_iload_n hx hb d_M_count_168 rfl (lv_at hl 3 rfl) ?_
        refine lv_istore_n (lv' := [(3, .int (nI t1)), (6, .int (nI ((vw ce (1024 * j)) i))), (5, .int (nI i)), (4, .int (nI t2)), (0, .ref hm), (1, .int (nI j)), (2, .int (nI 5))]) hx hb d_M_count_169 rfl hl (by decide) rfl (fun ls hl => ?_)
        refine lv_iload hx hb d_M_count_170 (lv_at hl 1 rfl) ?_
        refine lv_iload hx hb d_M_count_172 (lv_at hl 3 rfl) ?_
        refine lv_icmp_le (tgt := 182) hx hb d_M_count_174 (by decide) (fun c_174 => ?_) (fun c_174 => ?_)
        · refine lv_iload hx hb d_M_count_182 (lv_at hl 3 rfl) ?_
          refine lv_istore (lv' := [(4, .int (nI t2)), (3, .int (nI t1)), (6, .int (nI ((vw ce (1024 * j)) i))), (5, .int (nI i)), (0, .ref hm), (1, .int (nI j)), (2, .int (nI 5))]) hx hb d_M_count_184 hl (by decide) rfl (fun ls hl => ?_)
          refine lv_iinc (v := (nI (i + 1))) (lv' := [(5, .int (nI (i + 1))), (4, .int (nI t2)), (3, .int (nI t1)), (6, .int (nI ((vw ce (1024 * j)) i))), (0, .ref hm), (1, .int (nI j)), (2, .int (nI 5))]) hx hb d_M_count_186 hl (k := 3) rfl (nI_1 _) (by decide) rfl (fun ls hl => ?_)
          refine lv_goto (tgt := 134) hx hb d_M_count_189 (by decide) ?_
          exact ih_134 (i + 1) (t1) (t2) (by omega) (by rw [ht1, posN_f (fun h9 => absurd ((nI_leI (b := 0) (by have h9 := hcb i (by omega); omega) (by decide)).mp c_159) (by omega))]) (by show t2 = (if _ then _ else _); rw [if_neg (Nat.not_lt.mpr (by rw [← ht2]; exact (nI_leI (by have h9 := hcb i (by omega); omega) (by omega)).mp c_174)), ht2]) (ht3) ls (lv_sub hl [0, 1, 2, 4, 5, 6] rfl)
        · refine lv_iload hx hb d_M_count_177 (lv_at hl 1 rfl) ?_
          refine lv_goto (tgt := 184) hx hb d_M_count_179 (by decide) ?_
          refine lv_istore (lv' := [(4, .int (nI ((vw ce (1024 * j)) i))), (3, .int (nI t1)), (6, .int (nI ((vw ce (1024 * j)) i))), (5, .int (nI i)), (0, .ref hm), (1, .int (nI j)), (2, .int (nI 5))]) hx hb d_M_count_184 hl (by decide) rfl (fun ls hl => ?_)
          refine lv_iinc (v := (nI (i + 1))) (lv' := [(5, .int (nI (i + 1))), (4, .int (nI ((vw ce (1024 * j)) i))), (3, .int (nI t1)), (6, .int (nI ((vw ce (1024 * j)) i))), (0, .ref hm), (1, .int (nI j)), (2, .int (nI 5))]) hx hb d_M_count_186 hl (k := 3) rfl (nI_1 _) (by decide) rfl (fun ls hl => ?_)
          refine lv_goto (tgt := 134) hx hb d_M_count_189 (by decide) ?_
          exact ih_134 (i + 1) (t1) ((vw ce (1024 * j)) i) (by omega) (by rw [ht1, posN_f (fun h9 => absurd ((nI_leI (b := 0) (by have h9 := hcb i (by omega); omega) (by decide)).mp c_159) (by omega))]) (by show (vw ce (1024 * j)) i = (if _ then _ else _); rw [if_pos (Nat.not_le.mp (fun h9 => c_174 (nI_le (by rw [ht2]; exact h9) (by omega))))]) (hcb i (by omega)) ls (lv_sub hl [0, 1, 2, 4, 5, 6] rfl)
      · refine lv_iload_n hx hb d_M_count_162 rfl (lv_at hl 3 rfl) ?_
        refine lv_iconst (v := (nI 1)) hx hb d_M_count_163 (by decide) ?_
        refine lv_iadd hx hb d_M_count_164 ?_
        refine tp_i (y := (nI (t1 + 1))) (nI_add _ _) ?_
        refine lv_goto (tgt := 169) hx hb d_M_count_165 (by decide) ?_
        refine lv_istore_n (lv' := [(3, .int (nI (t1 + 1))), (6, .int (nI ((vw ce (1024 * j)) i))), (5, .int (nI i)), (4, .int (nI t2)), (0, .ref hm), (1, .int (nI j)), (2, .int (nI 5))]) hx hb d_M_count_169 rfl hl (by decide) rfl (fun ls hl => ?_)
        refine lv_iload hx hb d_M_count_170 (lv_at hl 1 rfl) ?_
        refine lv_iload hx hb d_M_count_172 (lv_at hl 3 rfl) ?_
        refine lv_icmp_le (tgt := 182) hx hb d_M_count_174 (by decide) (fun c_174 => ?_) (fun c_174 => ?_)
        · refine lv_iload hx hb d_M_count_182 (lv_at hl 3 rfl) ?_
          refine lv_istore (lv' := [(4, .int (nI t2)), (3, .int (nI (t1 + 1))), (6, .int (nI ((vw ce (1024 * j)) i))), (5, .int (nI i)), (0, .ref hm), (1, .int (nI j)), (2, .int (nI 5))]) hx hb d_M_count_184 hl (by decide) rfl (fun ls hl => ?_)
          refine lv_iinc (v := (nI (i + 1))) (lv' := [(5, .int (nI (i + 1))), (4, .int (nI t2)), (3, .int (nI (t1 + 1))), (6, .int (nI ((vw ce (1024 * j)) i))), (0, .ref hm), (1, .int (nI j)), (2, .int (nI 5))]) hx hb d_M_count_186 hl (k := 3) rfl (nI_1 _) (by decide) rfl (fun ls hl => ?_)
          refine lv_goto (tgt := 134) hx hb d_M_count_189 (by decide) ?_
          exact ih_134 (i + 1) (t1 + 1) (t2) (by omega) (by rw [ht1, posN_t (Nat.pos_of_ne_zero (fun h9 => c_159 (by rw [h9]; decide)))]) (by show t2 = (if _ then _ else _); rw [if_neg (Nat.not_lt.mpr (by rw [← ht2]; exact (nI_leI (by have h9 := hcb i (by omega); omega) (by omega)).mp c_174)), ht2]) (ht3) ls (lv_sub hl [0, 1, 2, 4, 5, 6] rfl)
        · refine lv_iload hx hb d_M_count_177 (lv_at hl 1 rfl) ?_
          refine lv_goto (tgt := 184) hx hb d_M_count_179 (by decide) ?_
          refine lv_istore (lv' := [(4, .int (nI ((vw ce (1024 * j)) i))), (3, .int (nI (t1 + 1))), (6, .int (nI ((vw ce (1024 * j)) i))), (5, .int (nI i)), (0, .ref hm), (1, .int (nI j)), (2, .int (nI 5))]) hx hb d_M_count_184 hl (by decide) rfl (fun ls hl => ?_)
          refine lv_iinc (v := (nI (i + 1))) (lv' := [(5, .int (nI (i + 1))), (4, .int (nI ((vw ce (1024 * j)) i))), (3, .int (nI (t1 + 1))), (6, .int (nI ((vw ce (1024 * j)) i))), (0, .ref hm), (1, .int (nI j)), (2, .int (nI 5))]) hx hb d_M_count_186 hl (k := 3) rfl (nI_1 _) (by decide) rfl (fun ls hl => ?_)
          refine lv_goto (tgt := 134) hx hb d_M_count_189 (by decide) ?_
          exact ih_134 (i + 1) (t1 + 1) ((vw ce (1024 * j)) i) (by omega) (by rw [ht1, posN_t (Nat.pos_of_ne_zero (fun h9 => c_159 (by rw [h9]; decide)))]) (by show (vw ce (1024 * j)) i = (if _ then _ else _); rw [if_pos (Nat.not_le.mp (fun h9 => c_174 (nI_le (by rw [ht2]; exact h9) (by omega))))]) (hcb i (by omega)) ls (lv_sub hl [0, 1, 2, 4, 5, 6] rfl)
  exact loop_134 (1024) (0) (0) (0) (by omega) (rfl) (rfl) (by decide) ls (lv_sub hl [0, 1, 2, 3, 4, 5] rfl)

set_option maxHeartbeats 4000000 in
set_option maxRecDepth 100000 in
theorem c_M_count_2_0 {l : Launch} {s0 : State} {D : va_G} {cI cF cJ : ClassId} (G : Gx l s0 D cI cF cJ) (hm a1 a2 a3 a4 a5 a6 a7 a8 a9 a10 a11 : Nat) (th : Int32) (S : Nat → FS) (j A B n : Nat) (hd pv : Int32) (cs f : Nat → Nat) {H0 : Heap} {A0 : Nat → Prop} (hM : MP D cI hm a1 a2 a3 a4 a5 a6 a7 a8 a9 a10 a11 th S H0) (hD : va_D A0 (adM hm a1 a2 a3 a4 a5 a6 a7 a8 a9 a10 a11)) (hok : ∀ i, i < 4 → okS (S i)) (hj : j < 4) (hSj : S j = (2, A, B, hd, pv, cs, n, f)) : Mx l s0 y_M_count (.code y_M_count b_M_count 7 (some .int)) { frames := 7, cells := 0, slots := 0, locals := 170 } [.ref hm, .int (nI j), .int (nI 0)] H0 (Aa [hm, a1, a2, a3, a4, a5, a6, a7, a8, a9, a10, a11] H0.size) (Rw (.int (cntS (S j) 0)) (fun H1 => MP D cI hm a1 a2 a3 a4 a5 a6 a7 a8 a9 a10 a11 (nI 0) S H1)) := by
  refine Mx.ofW (own := "FewBitsModel") rfl rfl ?_
  rintro p e s m below meth c ⟨hx, hb, hml, hr, hown, hW, hlk⟩ hnm het hH
  have hK := G.k hW
  have hD0 := hD
  obtain ⟨ki, ka, kb, zs, pu, ce, pa, tr, so, pl, ot, hP, hpic⟩ := hM
  have hD : va_D (Aa [hm, a1, a2, a3, a4, a5, a6, a7, a8, a9, a10, a11] H0.size) [(hm, .inr (4, [.int th, .ref a1, .ref a2, .ref a3, .ref a4, .ref a5, .ref a6, .ref a7, .ref a8, .ref a9, .ref a10, .ref a11])), (a1, aN cI 4 ki), (a2, aN cI 4 ka), (a3, aN cI 4 kb), (a4, aI cI 4 zs), (a5, aI cI 4 pu), (a6, aN cI 4096 ce), (a7, aN cI 1024 pa), (a8, aN cI 1024 tr), (a9, aI cI 256 so), (a10, aN cI 6 pl), (a11, aN cI 6 ot)] := va_D.same2 [hm, a1, a2, a3, a4, a5, a6, a7, a8, a9, a10, a11] (hD.aa (sz := H0.size)) rfl rfl
  have hS : va_S (Aa [hm, a1, a2, a3, a4, a5, a6, a7, a8, a9, a10, a11] H0.size) H0 H0 [] := va_S.rf
  have hpj := hpic j hj
  rw [hSj] at hpj
  obtain ⟨p1, p2, p3, p4, p5, p7, p6⟩ := hpj.f2
  have hoj := hok j hj
  rw [hSj] at hoj
  have hq := okS_2.mp hoj
  have h0 : (S j).1 ≠ 0 := by rw [hSj]; exact (by decide : 2 ≠ 0)
  have hA : A ≤ 8 := hq.2.1
  have hB4 : 4 ≤ B := hq.2.2.1
  have hB : B ≤ 16 := hq.2.2.2.1
  have hs := hq.ce p5
  have h8 := p2_le hA
  have hl := lv_entry ([.ref hm, .int (nI j), .int (nI 0)]) (n := 7) (Nat.le_of_ble_eq_true rfl)
  rw [lg_entry_eq]
  generalize (lg_sl ([.ref hm, .int (nI j), .int (nI 0)]) ++ List.replicate (7 - (lg_sl ([.ref hm, .int (nI j), .int (nI 0)])).length) Slot.unset).toArray = ls at hl ⊢
  have hl : lv_has ls 7 [(0, .ref hm), (1, .int (nI j)), (2, .int (nI 0))] := hl
  refine lv_aload_n hx hb d_M_count_0 rfl (lv_at hl 0 rfl) ?_
  refine lv_aload_n hx hb d_M_count_1 rfl (lv_at hl 0 rfl) ?_
  refine lv_iload_n hx hb d_M_count_2 rfl (lv_at hl 1 rfl) ?_
  refine mx_callR (r := .int (nI (if (S j).1 = 0 then 2 else 0))) (c_M_wrg G hm a1 a2 a3 a4 a5 a6 a7 a8 a9 a10 a11 th S j ⟨ki, ka, kb, zs, pu, ce, pa, tr, so, pl, ot, hP, hpic⟩ hD0 hok hj) hW (iv_M_count_3 G hx hb hown hW (va_recv hK hP (ci := 4) (q0 := 0) rfl rfl) [.int (nI j)] [.ref hm] rfl) hml hl.1 (by rw [hb]; exact d_M_count_3) (cd_M_wrong G hW) ⟨Nat.le_of_ble_eq_true rfl, Nat.le_of_ble_eq_true rfl⟩ rfl rfl (Nat.le_of_ble_eq_true rfl) (Nat.le_of_ble_eq_true rfl) (Nat.le_of_ble_eq_true rfl) ?_
  refine tp_i (y := (nI 0)) (by rw [if_neg h0]) ?_
  refine lv_if_le (tgt := 17) hx hb d_M_count_6 (by decide) (fun c_6 => ?_) (fun c_6 => absurd (by decide) c_6)
  refine lv_iload_n hx hb d_M_count_17 rfl (lv_at hl 2 rfl) ?_
  refine lv_if_lt (tgt := 26) hx hb d_M_count_18 (by decide) (fun c_18 => absurd c_18 (by decide)) (fun c_18 => ?_)
  refine lv_iload_n hx hb d_M_count_21 rfl (lv_at hl 2 rfl) ?_
  refine lv_iconst (v := (nI 5)) hx hb d_M_count_22 (by decide) ?_
  refine lv_icmp_le (tgt := 30) hx hb d_M_count_23 (by decide) (fun c_23 => ?_) (fun c_23 => absurd (by decide) c_23)
  refine lv_iconst (v := (nI 0)) hx hb d_M_count_30 (by decide) ?_
  refine va_put (D := D) (ci := 4) (v := .int (nI 0)) (ty := .int) (C := R_M) (T := T_M) (N := 12) hx hb (us_M G hW) (fun _ h => h) t_M to_M nm_M hown hK hP hD hS 0 rfl rfl 0 (by decide) (fl_M_43 G hW) (fun _ h9 => h9) rfl (by decide +kernel) rfl rfl (Nat.le_of_ble_eq_true rfl) d_M_count_31 (fun H locs hP hD hS => ?_)
  have hP : va_P D vcl [(hm, .inr (4, [.int (nI 0), .ref a1, .ref a2, .ref a3, .ref a4, .ref a5, .ref a6, .ref a7, .ref a8, .ref a9, .ref a10, .ref a11])), (a1, aN cI 4 ki), (a2, aN cI 4 ka), (a3, aN cI 4 kb), (a4, aI cI 4 zs), (a5, aI cI 4 pu), (a6, aN cI 4096 ce), (a7, aN cI 1024 pa), (a8, aN cI 1024 tr), (a9, aI cI 256 so), (a10, aN cI 6 pl), (a11, aN cI 6 ot)] H := hP
  have hD : va_D (Aa [hm, a1, a2, a3, a4, a5, a6, a7, a8, a9, a10, a11] H0.size) [(hm, .inr (4, [.int (nI 0), .ref a1, .ref a2, .ref a3, .ref a4, .ref a5, .ref a6, .ref a7, .ref a8, .ref a9, .ref a10, .ref a11])), (a1, aN cI 4 ki), (a2, aN cI 4 ka), (a3, aN cI 4 kb), (a4, aI cI 4 zs), (a5, aI cI 4 pu), (a6, aN cI 4096 ce), (a7, aN cI 1024 pa), (a8, aN cI 1024 tr), (a9, aI cI 256 so), (a10, aN cI 6 pl), (a11, aN cI 6 ot)] := hD
  refine lv_aload_n hx hb d_M_count_34 rfl (lv_at hl 0 rfl) ?_
  refine va_get (D := D) (ci := 4) (v := .int (nI 0)) (C := R_M) (T := T_M) (N := 12) hx hb (us_M G hW) (fun _ h => h) hown hK hP 0 rfl rfl 0 (by decide) (fl_M_43 G hW) (fun _ h9 => h9) rfl d_M_count_35 ?_
  refine lv_if_le (tgt := 43) hx hb d_M_count_38 (by decide) (fun c_38 => ?_) (fun c_38 => absurd (by decide) c_38)
  refine lv_iload_n hx hb d_M_count_43 rfl (lv_at hl 2 rfl) ?_
  refine lv_iconst (v := (nI 4)) hx hb d_M_count_44 (by decide) ?_
  refine lv_icmp_ge (tgt := 96) hx hb d_M_count_45 (by decide) (fun c_45 => absurd c_45 (by decide)) (fun c_45 => ?_)
  refine lv_iload_n hx hb d_M_count_48 rfl (lv_at hl 2 rfl) ?_
  refine lv_if_ne (tgt := 61) hx hb d_M_count_49 (by decide) (fun c_49 => absurd (rfl) c_49) (fun c_49 => ?_)
  refine lv_aload_n hx hb d_M_count_52 rfl (lv_at hl 0 rfl) ?_
  refine va_get (D := D) (ci := 4) (v := .ref a1) (C := R_M) (T := T_M) (N := 12) hx hb (us_M G hW) (fun _ h => h) hown hK hP 0 rfl rfl 1 (by decide) (fl_M_7 G hW) (fun _ h9 => h9) rfl d_M_count_53 ?_
  refine lv_iload_n hx hb d_M_count_56 rfl (lv_at hl 1 rfl) ?_
  refine ia_ld hx hb hK hP 1 (j := j) rfl (hj) (by decide) d_M_count_57 ?_
  refine tp_i (y := (nI (ki j))) rfl ?_
  refine tp_i (y := (cntS (S j) 0)) (by rw [p1, hSj]; rfl) ?_
  refine lv_goto (tgt := 95) hx hb d_M_count_58 (by decide) ?_
  exact mx_iret hx hb hr hlk d_M_count_95 (Nat.le_of_ble_eq_true rfl) (Nat.le_of_ble_eq_true rfl) hS.2.2 (⟨rfl, ki, ka, kb, zs, pu, ce, pa, tr, so, pl, ot, hP, hpic⟩)

set_option maxHeartbeats 4000000 in
set_option maxRecDepth 100000 in
theorem c_M_count_2_1 {l : Launch} {s0 : State} {D : va_G} {cI cF cJ : ClassId} (G : Gx l s0 D cI cF cJ) (hm a1 a2 a3 a4 a5 a6 a7 a8 a9 a10 a11 : Nat) (th : Int32) (S : Nat → FS) (j A B n : Nat) (hd pv : Int32) (cs f : Nat → Nat) {H0 : Heap} {A0 : Nat → Prop} (hM : MP D cI hm a1 a2 a3 a4 a5 a6 a7 a8 a9 a10 a11 th S H0) (hD : va_D A0 (adM hm a1 a2 a3 a4 a5 a6 a7 a8 a9 a10 a11)) (hok : ∀ i, i < 4 → okS (S i)) (hj : j < 4) (hSj : S j = (2, A, B, hd, pv, cs, n, f)) : Mx l s0 y_M_count (.code y_M_count b_M_count 7 (some .int)) { frames := 7, cells := 0, slots := 0, locals := 170 } [.ref hm, .int (nI j), .int (nI 1)] H0 (Aa [hm, a1, a2, a3, a4, a5, a6, a7, a8, a9, a10, a11] H0.size) (Rw (.int (cntS (S j) 1)) (fun H1 => MP D cI hm a1 a2 a3 a4 a5 a6 a7 a8 a9 a10 a11 (nI 0) S H1)) := by
  refine Mx.ofW (own := "FewBitsModel") rfl rfl ?_
  rintro p e s m below meth c ⟨hx, hb, hml, hr, hown, hW, hlk⟩ hnm het hH
  have hK := G.k hW
  have hD0 := hD
  obtain ⟨ki, ka, kb, zs, pu, ce, pa, tr, so, pl, ot, hP, hpic⟩ := hM
  have hD : va_D (Aa [hm, a1, a2, a3, a4, a5, a6, a7, a8, a9, a10, a11] H0.size) [(hm, .inr (4, [.int th, .ref a1, .ref a2, .ref a3, .ref a4, .ref a5, .ref a6, .ref a7, .ref a8, .ref a9, .ref a10, .ref a11])), (a1, aN cI 4 ki), (a2, aN cI 4 ka), (a3, aN cI 4 kb), (a4, aI cI 4 zs), (a5, aI cI 4 pu), (a6, aN cI 4096 ce), (a7, aN cI 1024 pa), (a8, aN cI 1024 tr), (a9, aI cI 256 so), (a10, aN cI 6 pl), (a11, aN cI 6 ot)] := va_D.same2 [hm, a1, a2, a3, a4, a5, a6, a7, a8, a9, a10, a11] (hD.aa (sz := H0.size)) rfl rfl
  have hS : va_S (Aa [hm, a1, a2, a3, a4, a5, a6, a7, a8, a9, a10, a11] H0.size) H0 H0 [] := va_S.rf
  have hpj := hpic j hj
  rw [hSj] at hpj
  obtain ⟨p1, p2, p3, p4, p5, p7, p6⟩ := hpj.f2
  have hoj := hok j hj
  rw [hSj] at hoj
  have hq := okS_2.mp hoj
  have h0 : (S j).1 ≠ 0 := by rw [hSj]; exact (by decide : 2 ≠ 0)
  have hA : A ≤ 8 := hq.2.1
  have hB4 : 4 ≤ B := hq.2.2.1
  have hB : B ≤ 16 := hq.2.2.2.1
  have hs := hq.ce p5
  have h8 := p2_le hA
  have hl := lv_entry ([.ref hm, .int (nI j), .int (nI 1)]) (n := 7) (Nat.le_of_ble_eq_true rfl)
  rw [lg_entry_eq]
  generalize (lg_sl ([.ref hm, .int (nI j), .int (nI 1)]) ++ List.replicate (7 - (lg_sl ([.ref hm, .int (nI j), .int (nI 1)])).length) Slot.unset).toArray = ls at hl ⊢
  have hl : lv_has ls 7 [(0, .ref hm), (1, .int (nI j)), (2, .int (nI 1))] := hl
  refine lv_aload_n hx hb d_M_count_0 rfl (lv_at hl 0 rfl) ?_
  refine lv_aload_n hx hb d_M_count_1 rfl (lv_at hl 0 rfl) ?_
  refine lv_iload_n hx hb d_M_count_2 rfl (lv_at hl 1 rfl) ?_
  refine mx_callR (r := .int (nI (if (S j).1 = 0 then 2 else 0))) (c_M_wrg G hm a1 a2 a3 a4 a5 a6 a7 a8 a9 a10 a11 th S j ⟨ki, ka, kb, zs, pu, ce, pa, tr, so, pl, ot, hP, hpic⟩ hD0 hok hj) hW (iv_M_count_3 G hx hb hown hW (va_recv hK hP (ci := 4) (q0 := 0) rfl rfl) [.int (nI j)] [.ref hm] rfl) hml hl.1 (by rw [hb]; exact d_M_count_3) (cd_M_wrong G hW) ⟨Nat.le_of_ble_eq_true rfl, Nat.le_of_ble_eq_true rfl⟩ rfl rfl (Nat.le_of_ble_eq_true rfl) (Nat.le_of_ble_eq_true rfl) (Nat.le_of_ble_eq_true rfl) ?_
  refine tp_i (y := (nI 0)) (by rw [if_neg h0]) ?_
  refine lv_if_le (tgt := 17) hx hb d_M_count_6 (by decide) (fun c_6 => ?_) (fun c_6 => absurd (by decide) c_6)
  refine lv_iload_n hx hb d_M_count_17 rfl (lv_at hl 2 rfl) ?_
  refine lv_if_lt (tgt := 26) hx hb d_M_count_18 (by decide) (fun c_18 => absurd c_18 (by decide)) (fun c_18 => ?_)
  refine lv_iload_n hx hb d_M_count_21 rfl (lv_at hl 2 rfl) ?_
  refine lv_iconst (v := (nI 5)) hx hb d_M_count_22 (by decide) ?_
  refine lv_icmp_le (tgt := 30) hx hb d_M_count_23 (by decide) (fun c_23 => ?_) (fun c_23 => absurd (by decide) c_23)
  refine lv_iconst (v := (nI 0)) hx hb d_M_count_30 (by decide) ?_
  refine va_put (D := D) (ci := 4) (v := .int (nI 0)) (ty := .int) (C := R_M) (T := T_M) (N := 12) hx hb (us_M G hW) (fun _ h => h) t_M to_M nm_M hown hK hP hD hS 0 rfl rfl 0 (by decide) (fl_M_43 G hW) (fun _ h9 => h9) rfl (by decide +kernel) rfl rfl (Nat.le_of_ble_eq_true rfl) d_M_count_31 (fun H locs hP hD hS => ?_)
  have hP : va_P D vcl [(hm, .inr (4, [.int (nI 0), .ref a1, .ref a2, .ref a3, .ref a4, .ref a5, .ref a6, .ref a7, .ref a8, .ref a9, .ref a10, .ref a11])), (a1, aN cI 4 ki), (a2, aN cI 4 ka), (a3, aN cI 4 kb), (a4, aI cI 4 zs), (a5, aI cI 4 pu), (a6, aN cI 4096 ce), (a7, aN cI 1024 pa), (a8, aN cI 1024 tr), (a9, aI cI 256 so), (a10, aN cI 6 pl), (a11, aN cI 6 ot)] H := hP
  have hD : va_D (Aa [hm, a1, a2, a3, a4, a5, a6, a7, a8, a9, a10, a11] H0.size) [(hm, .inr (4, [.int (nI 0), .ref a1, .ref a2, .ref a3, .ref a4, .ref a5, .ref a6, .ref a7, .ref a8, .ref a9, .ref a10, .ref a11])), (a1, aN cI 4 ki), (a2, aN cI 4 ka), (a3, aN cI 4 kb), (a4, aI cI 4 zs), (a5, aI cI 4 pu), (a6, aN cI 4096 ce), (a7, aN cI 1024 pa), (a8, aN cI 1024 tr), (a9, aI cI 256 so), (a10, aN cI 6 pl), (a11, aN cI 6 ot)] := hD
  refine lv_aload_n hx hb d_M_count_34 rfl (lv_at hl 0 rfl) ?_
  refine va_get (D := D) (ci := 4) (v := .int (nI 0)) (C := R_M) (T := T_M) (N := 12) hx hb (us_M G hW) (fun _ h => h) hown hK hP 0 rfl rfl 0 (by decide) (fl_M_43 G hW) (fun _ h9 => h9) rfl d_M_count_35 ?_
  refine lv_if_le (tgt := 43) hx hb d_M_count_38 (by decide) (fun c_38 => ?_) (fun c_38 => absurd (by decide) c_38)
  refine lv_iload_n hx hb d_M_count_43 rfl (lv_at hl 2 rfl) ?_
  refine lv_iconst (v := (nI 4)) hx hb d_M_count_44 (by decide) ?_
  refine lv_icmp_ge (tgt := 96) hx hb d_M_count_45 (by decide) (fun c_45 => absurd c_45 (by decide)) (fun c_45 => ?_)
  refine lv_iload_n hx hb d_M_count_48 rfl (lv_at hl 2 rfl) ?_
  refine lv_if_ne (tgt := 61) hx hb d_M_count_49 (by decide) (fun c_49 => ?_) (fun c_49 => absurd c_49 (by decide))
  refine lv_iload_n hx hb d_M_count_61 rfl (lv_at hl 2 rfl) ?_
  refine lv_iconst (v := (nI 1)) hx hb d_M_count_62 (by decide) ?_
  refine lv_icmp_ne (tgt := 75) hx hb d_M_count_63 (by decide) (fun c_63 => absurd (rfl) c_63) (fun c_63 => ?_)
  refine lv_aload_n hx hb d_M_count_66 rfl (lv_at hl 0 rfl) ?_
  refine va_get (D := D) (ci := 4) (v := .ref a2) (C := R_M) (T := T_M) (N := 12) hx hb (us_M G hW) (fun _ h => h) hown hK hP 0 rfl rfl 2 (by decide) (fl_M_13 G hW) (fun _ h9 => h9) rfl d_M_count_67 ?_
  refine lv_iload_n hx hb d_M_count_70 rfl (lv_at hl 1 rfl) ?_
  refine ia_ld hx hb hK hP 2 (j := j) rfl (hj) (by decide) d_M_count_71 ?_
  refine tp_i (y := (nI (ka j))) rfl ?_
  refine tp_i (y := (cntS (S j) 1)) (by rw [p2, hSj]; rfl) ?_
  refine lv_goto (tgt := 95) hx hb d_M_count_72 (by decide) ?_
  exact mx_iret hx hb hr hlk d_M_count_95 (Nat.le_of_ble_eq_true rfl) (Nat.le_of_ble_eq_true rfl) hS.2.2 (⟨rfl, ki, ka, kb, zs, pu, ce, pa, tr, so, pl, ot, hP, hpic⟩)

set_option maxHeartbeats 4000000 in
set_option maxRecDepth 100000 in
theorem c_M_count_2_2 {l : Launch} {s0 : State} {D : va_G} {cI cF cJ : ClassId} (G : Gx l s0 D cI cF cJ) (hm a1 a2 a3 a4 a5 a6 a7 a8 a9 a10 a11 : Nat) (th : Int32) (S : Nat → FS) (j A B n : Nat) (hd pv : Int32) (cs f : Nat → Nat) {H0 : Heap} {A0 : Nat → Prop} (hM : MP D cI hm a1 a2 a3 a4 a5 a6 a7 a8 a9 a10 a11 th S H0) (hD : va_D A0 (adM hm a1 a2 a3 a4 a5 a6 a7 a8 a9 a10 a11)) (hok : ∀ i, i < 4 → okS (S i)) (hj : j < 4) (hSj : S j = (2, A, B, hd, pv, cs, n, f)) : Mx l s0 y_M_count (.code y_M_count b_M_count 7 (some .int)) { frames := 7, cells := 0, slots := 0, locals := 170 } [.ref hm, .int (nI j), .int (nI 2)] H0 (Aa [hm, a1, a2, a3, a4, a5, a6, a7, a8, a9, a10, a11] H0.size) (Rw (.int (cntS (S j) 2)) (fun H1 => MP D cI hm a1 a2 a3 a4 a5 a6 a7 a8 a9 a10 a11 (nI 0) S H1)) := by
  refine Mx.ofW (own := "FewBitsModel") rfl rfl ?_
  rintro p e s m below meth c ⟨hx, hb, hml, hr, hown, hW, hlk⟩ hnm het hH
  have hK := G.k hW
  have hD0 := hD
  obtain ⟨ki, ka, kb, zs, pu, ce, pa, tr, so, pl, ot, hP, hpic⟩ := hM
  have hD : va_D (Aa [hm, a1, a2, a3, a4, a5, a6, a7, a8, a9, a10, a11] H0.size) [(hm, .inr (4, [.int th, .ref a1, .ref a2, .ref a3, .ref a4, .ref a5, .ref a6, .ref a7, .ref a8, .ref a9, .ref a10, .ref a11])), (a1, aN cI 4 ki), (a2, aN cI 4 ka), (a3, aN cI 4 kb), (a4, aI cI 4 zs), (a5, aI cI 4 pu), (a6, aN cI 4096 ce), (a7, aN cI 1024 pa), (a8, aN cI 1024 tr), (a9, aI cI 256 so), (a10, aN cI 6 pl), (a11, aN cI 6 ot)] := va_D.same2 [hm, a1, a2, a3, a4, a5, a6, a7, a8, a9, a10, a11] (hD.aa (sz := H0.size)) rfl rfl
  have hS : va_S (Aa [hm, a1, a2, a3, a4, a5, a6, a7, a8, a9, a10, a11] H0.size) H0 H0 [] := va_S.rf
  have hpj := hpic j hj
  rw [hSj] at hpj
  obtain ⟨p1, p2, p3, p4, p5, p7, p6⟩ := hpj.f2
  have hoj := hok j hj
  rw [hSj] at hoj
  have hq := okS_2.mp hoj
  have h0 : (S j).1 ≠ 0 := by rw [hSj]; exact (by decide : 2 ≠ 0)
  have hA : A ≤ 8 := hq.2.1
  have hB4 : 4 ≤ B := hq.2.2.1
  have hB : B ≤ 16 := hq.2.2.2.1
  have hs := hq.ce p5
  have h8 := p2_le hA
  have hl := lv_entry ([.ref hm, .int (nI j), .int (nI 2)]) (n := 7) (Nat.le_of_ble_eq_true rfl)
  rw [lg_entry_eq]
  generalize (lg_sl ([.ref hm, .int (nI j), .int (nI 2)]) ++ List.replicate (7 - (lg_sl ([.ref hm, .int (nI j), .int (nI 2)])).length) Slot.unset).toArray = ls at hl ⊢
  have hl : lv_has ls 7 [(0, .ref hm), (1, .int (nI j)), (2, .int (nI 2))] := hl
  refine lv_aload_n hx hb d_M_count_0 rfl (lv_at hl 0 rfl) ?_
  refine lv_aload_n hx hb d_M_count_1 rfl (lv_at hl 0 rfl) ?_
  refine lv_iload_n hx hb d_M_count_2 rfl (lv_at hl 1 rfl) ?_
  refine mx_callR (r := .int (nI (if (S j).1 = 0 then 2 else 0))) (c_M_wrg G hm a1 a2 a3 a4 a5 a6 a7 a8 a9 a10 a11 th S j ⟨ki, ka, kb, zs, pu, ce, pa, tr, so, pl, ot, hP, hpic⟩ hD0 hok hj) hW (iv_M_count_3 G hx hb hown hW (va_recv hK hP (ci := 4) (q0 := 0) rfl rfl) [.int (nI j)] [.ref hm] rfl) hml hl.1 (by rw [hb]; exact d_M_count_3) (cd_M_wrong G hW) ⟨Nat.le_of_ble_eq_true rfl, Nat.le_of_ble_eq_true rfl⟩ rfl rfl (Nat.le_of_ble_eq_true rfl) (Nat.le_of_ble_eq_true rfl) (Nat.le_of_ble_eq_true rfl) ?_
  refine tp_i (y := (nI 0)) (by rw [if_neg h0]) ?_
  refine lv_if_le (tgt := 17) hx hb d_M_count_6 (by decide) (fun c_6 => ?_) (fun c_6 => absurd (by decide) c_6)
  refine lv_iload_n hx hb d_M_count_17 rfl (lv_at hl 2 rfl) ?_
  refine lv_if_lt (tgt := 26) hx hb d_M_count_18 (by decide) (fun c_18 => absurd c_18 (by decide)) (fun c_18 => ?_)
  refine lv_iload_n hx hb d_M_count_21 rfl (lv_at hl 2 rfl) ?_
  refine lv_iconst (v := (nI 5)) hx hb d_M_count_22 (by decide) ?_
  refine lv_icmp_le (tgt := 30) hx hb d_M_count_23 (by decide) (fun c_23 => ?_) (fun c_23 => absurd (by decide) c_23)
  refine lv_iconst (v := (nI 0)) hx hb d_M_count_30 (by decide) ?_
  refine va_put (D := D) (ci := 4) (v := .int (nI 0)) (ty := .int) (C := R_M) (T := T_M) (N := 12) hx hb (us_M G hW) (fun _ h => h) t_M to_M nm_M hown hK hP hD hS 0 rfl rfl 0 (by decide) (fl_M_43 G hW) (fun _ h9 => h9) rfl (by decide +kernel) rfl rfl (Nat.le_of_ble_eq_true rfl) d_M_count_31 (fun H locs hP hD hS => ?_)
  have hP : va_P D vcl [(hm, .inr (4, [.int (nI 0), .ref a1, .ref a2, .ref a3, .ref a4, .ref a5, .ref a6, .ref a7, .ref a8, .ref a9, .ref a10, .ref a11])), (a1, aN cI 4 ki), (a2, aN cI 4 ka), (a3, aN cI 4 kb), (a4, aI cI 4 zs), (a5, aI cI 4 pu), (a6, aN cI 4096 ce), (a7, aN cI 1024 pa), (a8, aN cI 1024 tr), (a9, aI cI 256 so), (a10, aN cI 6 pl), (a11, aN cI 6 ot)] H := hP
  have hD : va_D (Aa [hm, a1, a2, a3, a4, a5, a6, a7, a8, a9, a10, a11] H0.size) [(hm, .inr (4, [.int (nI 0), .ref a1, .ref a2, .ref a3, .ref a4, .ref a5, .ref a6, .ref a7, .ref a8, .ref a9, .ref a10, .ref a11])), (a1, aN cI 4 ki), (a2, aN cI 4 ka), (a3, aN cI 4 kb), (a4, aI cI 4 zs), (a5, aI cI 4 pu), (a6, aN cI 4096 ce), (a7, aN cI 1024 pa), (a8, aN cI 1024 tr), (a9, aI cI 256 so), (a10, aN cI 6 pl), (a11, aN cI 6 ot)] := hD
  refine lv_aload_n hx hb d_M_count_34 rfl (lv_at hl 0 rfl) ?_
  refine va_get (D := D) (ci := 4) (v := .int (nI 0)) (C := R_M) (T := T_M) (N := 12) hx hb (us_M G hW) (fun _ h => h) hown hK hP 0 rfl rfl 0 (by decide) (fl_M_43 G hW) (fun _ h9 => h9) rfl d_M_count_35 ?_
  refine lv_if_le (tgt := 43) hx hb d_M_count_38 (by decide) (fun c_38 => ?_) (fun c_38 => absurd (by decide) c_38)
  refine lv_iload_n hx hb d_M_count_43 rfl (lv_at hl 2 rfl) ?_
  refine lv_iconst (v := (nI 4)) hx hb d_M_count_44 (by decide) ?_
  refine lv_icmp_ge (tgt := 96) hx hb d_M_count_45 (by decide) (fun c_45 => absurd c_45 (by decide)) (fun c_45 => ?_)
  refine lv_iload_n hx hb d_M_count_48 rfl (lv_at hl 2 rfl) ?_
  refine lv_if_ne (tgt := 61) hx hb d_M_count_49 (by decide) (fun c_49 => ?_) (fun c_49 => absurd c_49 (by decide))
  refine lv_iload_n hx hb d_M_count_61 rfl (lv_at hl 2 rfl) ?_
  refine lv_iconst (v := (nI 1)) hx hb d_M_count_62 (by decide) ?_
  refine lv_icmp_ne (tgt := 75) hx hb d_M_count_63 (by decide) (fun c_63 => ?_) (fun c_63 => absurd c_63 (by decide))
  refine lv_iload_n hx hb d_M_count_75 rfl (lv_at hl 2 rfl) ?_
  refine lv_iconst (v := (nI 2)) hx hb d_M_count_76 (by decide) ?_
  refine lv_icmp_ne (tgt := 89) hx hb d_M_count_77 (by decide) (fun c_77 => absurd (rfl) c_77) (fun c_77 => ?_)
  refine lv_aload_n hx hb d_M_count_80 rfl (lv_at hl 0 rfl) ?_
  refine va_get (D := D) (ci := 4) (v := .ref a3) (C := R_M) (T := T_M) (N := 12) hx hb (us_M G hW) (fun _ h => h) hown hK hP 0 rfl rfl 3 (by decide) (fl_M_16 G hW) (fun _ h9 => h9) rfl d_M_count_81 ?_
  refine lv_iload_n hx hb d_M_count_84 rfl (lv_at hl 1 rfl) ?_
  refine ia_ld hx hb hK hP 3 (j := j) rfl (hj) (by decide) d_M_count_85 ?_
  refine tp_i (y := (nI (kb j))) rfl ?_
  refine tp_i (y := (cntS (S j) 2)) (by rw [p3, hSj]; rfl) ?_
  refine lv_goto (tgt := 95) hx hb d_M_count_86 (by decide) ?_
  exact mx_iret hx hb hr hlk d_M_count_95 (Nat.le_of_ble_eq_true rfl) (Nat.le_of_ble_eq_true rfl) hS.2.2 (⟨rfl, ki, ka, kb, zs, pu, ce, pa, tr, so, pl, ot, hP, hpic⟩)

set_option maxHeartbeats 4000000 in
set_option maxRecDepth 100000 in
theorem c_M_count_2_3 {l : Launch} {s0 : State} {D : va_G} {cI cF cJ : ClassId} (G : Gx l s0 D cI cF cJ) (hm a1 a2 a3 a4 a5 a6 a7 a8 a9 a10 a11 : Nat) (th : Int32) (S : Nat → FS) (j A B n : Nat) (hd pv : Int32) (cs f : Nat → Nat) {H0 : Heap} {A0 : Nat → Prop} (hM : MP D cI hm a1 a2 a3 a4 a5 a6 a7 a8 a9 a10 a11 th S H0) (hD : va_D A0 (adM hm a1 a2 a3 a4 a5 a6 a7 a8 a9 a10 a11)) (hok : ∀ i, i < 4 → okS (S i)) (hj : j < 4) (hSj : S j = (2, A, B, hd, pv, cs, n, f)) : Mx l s0 y_M_count (.code y_M_count b_M_count 7 (some .int)) { frames := 7, cells := 0, slots := 0, locals := 170 } [.ref hm, .int (nI j), .int (nI 3)] H0 (Aa [hm, a1, a2, a3, a4, a5, a6, a7, a8, a9, a10, a11] H0.size) (Rw (.int (cntS (S j) 3)) (fun H1 => MP D cI hm a1 a2 a3 a4 a5 a6 a7 a8 a9 a10 a11 (nI 0) S H1)) := by
  refine Mx.ofW (own := "FewBitsModel") rfl rfl ?_
  rintro p e s m below meth c ⟨hx, hb, hml, hr, hown, hW, hlk⟩ hnm het hH
  have hK := G.k hW
  have hD0 := hD
  obtain ⟨ki, ka, kb, zs, pu, ce, pa, tr, so, pl, ot, hP, hpic⟩ := hM
  have hD : va_D (Aa [hm, a1, a2, a3, a4, a5, a6, a7, a8, a9, a10, a11] H0.size) [(hm, .inr (4, [.int th, .ref a1, .ref a2, .ref a3, .ref a4, .ref a5, .ref a6, .ref a7, .ref a8, .ref a9, .ref a10, .ref a11])), (a1, aN cI 4 ki), (a2, aN cI 4 ka), (a3, aN cI 4 kb), (a4, aI cI 4 zs), (a5, aI cI 4 pu), (a6, aN cI 4096 ce), (a7, aN cI 1024 pa), (a8, aN cI 1024 tr), (a9, aI cI 256 so), (a10, aN cI 6 pl), (a11, aN cI 6 ot)] := va_D.same2 [hm, a1, a2, a3, a4, a5, a6, a7, a8, a9, a10, a11] (hD.aa (sz := H0.size)) rfl rfl
  have hS : va_S (Aa [hm, a1, a2, a3, a4, a5, a6, a7, a8, a9, a10, a11] H0.size) H0 H0 [] := va_S.rf
  have hpj := hpic j hj
  rw [hSj] at hpj
  obtain ⟨p1, p2, p3, p4, p5, p7, p6⟩ := hpj.f2
  have hoj := hok j hj
  rw [hSj] at hoj
  have hq := okS_2.mp hoj
  have h0 : (S j).1 ≠ 0 := by rw [hSj]; exact (by decide : 2 ≠ 0)
  have hA : A ≤ 8 := hq.2.1
  have hB4 : 4 ≤ B := hq.2.2.1
  have hB : B ≤ 16 := hq.2.2.2.1
  have hs := hq.ce p5
  have h8 := p2_le hA
  have hl := lv_entry ([.ref hm, .int (nI j), .int (nI 3)]) (n := 7) (Nat.le_of_ble_eq_true rfl)
  rw [lg_entry_eq]
  generalize (lg_sl ([.ref hm, .int (nI j), .int (nI 3)]) ++ List.replicate (7 - (lg_sl ([.ref hm, .int (nI j), .int (nI 3)])).length) Slot.unset).toArray = ls at hl ⊢
  have hl : lv_has ls 7 [(0, .ref hm), (1, .int (nI j)), (2, .int (nI 3))] := hl
  refine lv_aload_n hx hb d_M_count_0 rfl (lv_at hl 0 rfl) ?_
  refine lv_aload_n hx hb d_M_count_1 rfl (lv_at hl 0 rfl) ?_
  refine lv_iload_n hx hb d_M_count_2 rfl (lv_at hl 1 rfl) ?_
  refine mx_callR (r := .int (nI (if (S j).1 = 0 then 2 else 0))) (c_M_wrg G hm a1 a2 a3 a4 a5 a6 a7 a8 a9 a10 a11 th S j ⟨ki, ka, kb, zs, pu, ce, pa, tr, so, pl, ot, hP, hpic⟩ hD0 hok hj) hW (iv_M_count_3 G hx hb hown hW (va_recv hK hP (ci := 4) (q0 := 0) rfl rfl) [.int (nI j)] [.ref hm] rfl) hml hl.1 (by rw [hb]; exact d_M_count_3) (cd_M_wrong G hW) ⟨Nat.le_of_ble_eq_true rfl, Nat.le_of_ble_eq_true rfl⟩ rfl rfl (Nat.le_of_ble_eq_true rfl) (Nat.le_of_ble_eq_true rfl) (Nat.le_of_ble_eq_true rfl) ?_
  refine tp_i (y := (nI 0)) (by rw [if_neg h0]) ?_
  refine lv_if_le (tgt := 17) hx hb d_M_count_6 (by decide) (fun c_6 => ?_) (fun c_6 => absurd (by decide) c_6)
  refine lv_iload_n hx hb d_M_count_17 rfl (lv_at hl 2 rfl) ?_
  refine lv_if_lt (tgt := 26) hx hb d_M_count_18 (by decide) (fun c_18 => absurd c_18 (by decide)) (fun c_18 => ?_)
  refine lv_iload_n hx hb d_M_count_21 rfl (lv_at hl 2 rfl) ?_
  refine lv_iconst (v := (nI 5)) hx hb d_M_count_22 (by decide) ?_
  refine lv_icmp_le (tgt := 30) hx hb d_M_count_23 (by decide) (fun c_23 => ?_) (fun c_23 => absurd (by decide) c_23)
  refine lv_iconst (v := (nI 0)) hx hb d_M_count_30 (by decide) ?_
  refine va_put (D := D) (ci := 4) (v := .int (nI 0)) (ty := .int) (C := R_M) (T := T_M) (N := 12) hx hb (us_M G hW) (fun _ h => h) t_M to_M nm_M hown hK hP hD hS 0 rfl rfl 0 (by decide) (fl_M_43 G hW) (fun _ h9 => h9) rfl (by decide +kernel) rfl rfl (Nat.le_of_ble_eq_true rfl) d_M_count_31 (fun H locs hP hD hS => ?_)
  have hP : va_P D vcl [(hm, .inr (4, [.int (nI 0), .ref a1, .ref a2, .ref a3, .ref a4, .ref a5, .ref a6, .ref a7, .ref a8, .ref a9, .ref a10, .ref a11])), (a1, aN cI 4 ki), (a2, aN cI 4 ka), (a3, aN cI 4 kb), (a4, aI cI 4 zs), (a5, aI cI 4 pu), (a6, aN cI 4096 ce), (a7, aN cI 1024 pa), (a8, aN cI 1024 tr), (a9, aI cI 256 so), (a10, aN cI 6 pl), (a11, aN cI 6 ot)] H := hP
  have hD : va_D (Aa [hm, a1, a2, a3, a4, a5, a6, a7, a8, a9, a10, a11] H0.size) [(hm, .inr (4, [.int (nI 0), .ref a1, .ref a2, .ref a3, .ref a4, .ref a5, .ref a6, .ref a7, .ref a8, .ref a9, .ref a10, .ref a11])), (a1, aN cI 4 ki), (a2, aN cI 4 ka), (a3, aN cI 4 kb), (a4, aI cI 4 zs), (a5, aI cI 4 pu), (a6, aN cI 4096 ce), (a7, aN cI 1024 pa), (a8, aN cI 1024 tr), (a9, aI cI 256 so), (a10, aN cI 6 pl), (a11, aN cI 6 ot)] := hD
  refine lv_aload_n hx hb d_M_count_34 rfl (lv_at hl 0 rfl) ?_
  refine va_get (D := D) (ci := 4) (v := .int (nI 0)) (C := R_M) (T := T_M) (N := 12) hx hb (us_M G hW) (fun _ h => h) hown hK hP 0 rfl rfl 0 (by decide) (fl_M_43 G hW) (fun _ h9 => h9) rfl d_M_count_35 ?_
  refine lv_if_le (tgt := 43) hx hb d_M_count_38 (by decide) (fun c_38 => ?_) (fun c_38 => absurd (by decide) c_38)
  refine lv_iload_n hx hb d_M_count_43 rfl (lv_at hl 2 rfl) ?_
  refine lv_iconst (v := (nI 4)) hx hb d_M_count_44 (by decide) ?_
  refine lv_icmp_ge (tgt := 96) hx hb d_M_count_45 (by decide) (fun c_45 => absurd c_45 (by decide)) (fun c_45 => ?_)
  refine lv_iload_n hx hb d_M_count_48 rfl (lv_at hl 2 rfl) ?_
  refine lv_if_ne (tgt := 61) hx hb d_M_count_49 (by decide) (fun c_49 => ?_) (fun c_49 => absurd c_49 (by decide))
  refine lv_iload_n hx hb d_M_count_61 rfl (lv_at hl 2 rfl) ?_
  refine lv_iconst (v := (nI 1)) hx hb d_M_count_62 (by decide) ?_
  refine lv_icmp_ne (tgt := 75) hx hb d_M_count_63 (by decide) (fun c_63 => ?_) (fun c_63 => absurd c_63 (by decide))
  refine lv_iload_n hx hb d_M_count_75 rfl (lv_at hl 2 rfl) ?_
  refine lv_iconst (v := (nI 2)) hx hb d_M_count_76 (by decide) ?_
  refine lv_icmp_ne (tgt := 89) hx hb d_M_count_77 (by decide) (fun c_77 => ?_) (fun c_77 => absurd c_77 (by decide))
  refine lv_aload_n hx hb d_M_count_89 rfl (lv_at hl 0 rfl) ?_
  refine va_get (D := D) (ci := 4) (v := .ref a4) (C := R_M) (T := T_M) (N := 12) hx hb (us_M G hW) (fun _ h => h) hown hK hP 0 rfl rfl 4 (by decide) (fl_M_19 G hW) (fun _ h9 => h9) rfl d_M_count_90 ?_
  refine lv_iload_n hx hb d_M_count_93 rfl (lv_at hl 1 rfl) ?_
  refine ia_ld hx hb hK hP 4 (j := j) rfl (hj) (by decide) d_M_count_94 ?_
  refine tp_i (y := (cntS (S j) 3)) (by rw [p4, hSj]; rfl) ?_
  exact mx_iret hx hb hr hlk d_M_count_95 (Nat.le_of_ble_eq_true rfl) (Nat.le_of_ble_eq_true rfl) hS.2.2 (⟨rfl, ki, ka, kb, zs, pu, ce, pa, tr, so, pl, ot, hP, hpic⟩)

set_option maxHeartbeats 4000000 in
set_option maxRecDepth 100000 in
theorem c_M_count_2_4 {l : Launch} {s0 : State} {D : va_G} {cI cF cJ : ClassId} (G : Gx l s0 D cI cF cJ) (hm a1 a2 a3 a4 a5 a6 a7 a8 a9 a10 a11 : Nat) (th : Int32) (S : Nat → FS) (j A B n : Nat) (hd pv : Int32) (cs f : Nat → Nat) {H0 : Heap} {A0 : Nat → Prop} (hM : MP D cI hm a1 a2 a3 a4 a5 a6 a7 a8 a9 a10 a11 th S H0) (hD : va_D A0 (adM hm a1 a2 a3 a4 a5 a6 a7 a8 a9 a10 a11)) (hok : ∀ i, i < 4 → okS (S i)) (hj : j < 4) (hSj : S j = (2, A, B, hd, pv, cs, n, f)) : Mx l s0 y_M_count (.code y_M_count b_M_count 7 (some .int)) { frames := 7, cells := 0, slots := 0, locals := 170 } [.ref hm, .int (nI j), .int (nI 4)] H0 (Aa [hm, a1, a2, a3, a4, a5, a6, a7, a8, a9, a10, a11] H0.size) (Rw (.int (cntS (S j) 4)) (fun H1 => MP D cI hm a1 a2 a3 a4 a5 a6 a7 a8 a9 a10 a11 (nI 0) S H1)) := by
  refine Mx.ofW (own := "FewBitsModel") rfl rfl ?_
  rintro p e s m below meth c ⟨hx, hb, hml, hr, hown, hW, hlk⟩ hnm het hH
  have hK := G.k hW
  have hD0 := hD
  obtain ⟨ki, ka, kb, zs, pu, ce, pa, tr, so, pl, ot, hP, hpic⟩ := hM
  have hD : va_D (Aa [hm, a1, a2, a3, a4, a5, a6, a7, a8, a9, a10, a11] H0.size) [(hm, .inr (4, [.int th, .ref a1, .ref a2, .ref a3, .ref a4, .ref a5, .ref a6, .ref a7, .ref a8, .ref a9, .ref a10, .ref a11])), (a1, aN cI 4 ki), (a2, aN cI 4 ka), (a3, aN cI 4 kb), (a4, aI cI 4 zs), (a5, aI cI 4 pu), (a6, aN cI 4096 ce), (a7, aN cI 1024 pa), (a8, aN cI 1024 tr), (a9, aI cI 256 so), (a10, aN cI 6 pl), (a11, aN cI 6 ot)] := va_D.same2 [hm, a1, a2, a3, a4, a5, a6, a7, a8, a9, a10, a11] (hD.aa (sz := H0.size)) rfl rfl
  have hS : va_S (Aa [hm, a1, a2, a3, a4, a5, a6, a7, a8, a9, a10, a11] H0.size) H0 H0 [] := va_S.rf
  have hpj := hpic j hj
  rw [hSj] at hpj
  obtain ⟨p1, p2, p3, p4, p5, p7, p6⟩ := hpj.f2
  have hoj := hok j hj
  rw [hSj] at hoj
  have hq := okS_2.mp hoj
  have h0 : (S j).1 ≠ 0 := by rw [hSj]; exact (by decide : 2 ≠ 0)
  have hA : A ≤ 8 := hq.2.1
  have hB4 : 4 ≤ B := hq.2.2.1
  have hB : B ≤ 16 := hq.2.2.2.1
  have hs := hq.ce p5
  have h8 := p2_le hA
  have hcb := hs
  have hl := lv_entry ([.ref hm, .int (nI j), .int (nI 4)]) (n := 7) (Nat.le_of_ble_eq_true rfl)
  rw [lg_entry_eq]
  generalize (lg_sl ([.ref hm, .int (nI j), .int (nI 4)]) ++ List.replicate (7 - (lg_sl ([.ref hm, .int (nI j), .int (nI 4)])).length) Slot.unset).toArray = ls at hl ⊢
  have hl : lv_has ls 7 [(0, .ref hm), (1, .int (nI j)), (2, .int (nI 4))] := hl
  refine lv_aload_n hx hb d_M_count_0 rfl (lv_at hl 0 rfl) ?_
  refine lv_aload_n hx hb d_M_count_1 rfl (lv_at hl 0 rfl) ?_
  refine lv_iload_n hx hb d_M_count_2 rfl (lv_at hl 1 rfl) ?_
  refine mx_callR (r := .int (nI (if (S j).1 = 0 then 2 else 0))) (c_M_wrg G hm a1 a2 a3 a4 a5 a6 a7 a8 a9 a10 a11 th S j ⟨ki, ka, kb, zs, pu, ce, pa, tr, so, pl, ot, hP, hpic⟩ hD0 hok hj) hW (iv_M_count_3 G hx hb hown hW (va_recv hK hP (ci := 4) (q0 := 0) rfl rfl) [.int (nI j)] [.ref hm] rfl) hml hl.1 (by rw [hb]; exact d_M_count_3) (cd_M_wrong G hW) ⟨Nat.le_of_ble_eq_true rfl, Nat.le_of_ble_eq_true rfl⟩ rfl rfl (Nat.le_of_ble_eq_true rfl) (Nat.le_of_ble_eq_true rfl) (Nat.le_of_ble_eq_true rfl) ?_
  refine tp_i (y := (nI 0)) (by rw [if_neg h0]) ?_
  refine lv_if_le (tgt := 17) hx hb d_M_count_6 (by decide) (fun c_6 => ?_) (fun c_6 => absurd (by decide) c_6)
  refine lv_iload_n hx hb d_M_count_17 rfl (lv_at hl 2 rfl) ?_
  refine lv_if_lt (tgt := 26) hx hb d_M_count_18 (by decide) (fun c_18 => absurd c_18 (by decide)) (fun c_18 => ?_)
  refine lv_iload_n hx hb d_M_count_21 rfl (lv_at hl 2 rfl) ?_
  refine lv_iconst (v := (nI 5)) hx hb d_M_count_22 (by decide) ?_
  refine lv_icmp_le (tgt := 30) hx hb d_M_count_23 (by decide) (fun c_23 => ?_) (fun c_23 => absurd (by decide) c_23)
  refine lv_iconst (v := (nI 0)) hx hb d_M_count_30 (by decide) ?_
  refine va_put (D := D) (ci := 4) (v := .int (nI 0)) (ty := .int) (C := R_M) (T := T_M) (N := 12) hx hb (us_M G hW) (fun _ h => h) t_M to_M nm_M hown hK hP hD hS 0 rfl rfl 0 (by decide) (fl_M_43 G hW) (fun _ h9 => h9) rfl (by decide +kernel) rfl rfl (Nat.le_of_ble_eq_true rfl) d_M_count_31 (fun H locs hP hD hS => ?_)
  have hP : va_P D vcl [(hm, .inr (4, [.int (nI 0), .ref a1, .ref a2, .ref a3, .ref a4, .ref a5, .ref a6, .ref a7, .ref a8, .ref a9, .ref a10, .ref a11])), (a1, aN cI 4 ki), (a2, aN cI 4 ka), (a3, aN cI 4 kb), (a4, aI cI 4 zs), (a5, aI cI 4 pu), (a6, aN cI 4096 ce), (a7, aN cI 1024 pa), (a8, aN cI 1024 tr), (a9, aI cI 256 so), (a10, aN cI 6 pl), (a11, aN cI 6 ot)] H := hP
  have hD : va_D (Aa [hm, a1, a2, a3, a4, a5, a6, a7, a8, a9, a10, a11] H0.size) [(hm, .inr (4, [.int (nI 0), .ref a1, .ref a2, .ref a3, .ref a4, .ref a5, .ref a6, .ref a7, .ref a8, .ref a9, .ref a10, .ref a11])), (a1, aN cI 4 ki), (a2, aN cI 4 ka), (a3, aN cI 4 kb), (a4, aI cI 4 zs), (a5, aI cI 4 pu), (a6, aN cI 4096 ce), (a7, aN cI 1024 pa), (a8, aN cI 1024 tr), (a9, aI cI 256 so), (a10, aN cI 6 pl), (a11, aN cI 6 ot)] := hD
  refine lv_aload_n hx hb d_M_count_34 rfl (lv_at hl 0 rfl) ?_
  refine va_get (D := D) (ci := 4) (v := .int (nI 0)) (C := R_M) (T := T_M) (N := 12) hx hb (us_M G hW) (fun _ h => h) hown hK hP 0 rfl rfl 0 (by decide) (fl_M_43 G hW) (fun _ h9 => h9) rfl d_M_count_35 ?_
  refine lv_if_le (tgt := 43) hx hb d_M_count_38 (by decide) (fun c_38 => ?_) (fun c_38 => absurd (by decide) c_38)
  refine lv_iload_n hx hb d_M_count_43 rfl (lv_at hl 2 rfl) ?_
  refine lv_iconst (v := (nI 4)) hx hb d_M_count_44 (by decide) ?_
  refine lv_icmp_ge (tgt := 96) hx hb d_M_count_45 (by decide) (fun c_45 => ?_) (fun c_45 => absurd (by decide) c_45)
  refine lv_aload_n hx hb d_M_count_96 rfl (lv_at hl 0 rfl) ?_
  refine va_get (D := D) (ci := 4) (v := .ref a1) (C := R_M) (T := T_M) (N := 12) hx hb (us_M G hW) (fun _ h => h) hown hK hP 0 rfl rfl 1 (by decide) (fl_M_7 G hW) (fun _ h9 => h9) rfl d_M_count_97 ?_
  refine lv_iload_n hx hb d_M_count_100 rfl (lv_at hl 1 rfl) ?_
  refine ia_ld hx hb hK hP 1 (j := j) rfl (hj) (by decide) d_M_count_101 ?_
  refine tp_i (y := (nI (ki j))) rfl ?_
  refine tp_i (y := (nI 2)) (by rw [p1]) ?_
  refine lv_iconst (v := (nI 3)) hx hb d_M_count_102 (by decide) ?_
  refine lv_icmp_ne (tgt := 126) hx hb d_M_count_103 (by decide) (fun c_103 => ?_) (fun c_103 => absurd c_103 (by decide))
  refine lv_iconst (v := (nI 0)) hx hb d_M_count_126 (by decide) ?_
  refine lv_istore_n (lv' := [(3, .int (nI 0)), (0, .ref hm), (1, .int (nI j)), (2, .int (nI 4))]) hx hb d_M_count_127 rfl hl (by decide) rfl (fun ls hl => ?_)
  refine lv_iconst (v := (nI 0)) hx hb d_M_count_128 (by decide) ?_
  refine lv_istore (lv' := [(4, .int (nI 0)), (3, .int (nI 0)), (0, .ref hm), (1, .int (nI j)), (2, .int (nI 4))]) hx hb d_M_count_129 hl (by decide) rfl (fun ls hl => ?_)
  refine lv_iconst (v := (nI 0)) hx hb d_M_count_131 (by decide) ?_
  refine lv_istore (lv' := [(5, .int (nI 0)), (4, .int (nI 0)), (3, .int (nI 0)), (0, .ref hm), (1, .int (nI j)), (2, .int (nI 4))]) hx hb d_M_count_132 hl (by decide) rfl (fun ls hl => ?_)
  have loop_134 : ∀ (k : Nat) (i : Nat) (t1 : Nat) (t2 : Nat), (i + k = 1024) → (t1 = posN (vw ce (1024 * j)) i) → (t2 = maxN (vw ce (1024 * j)) i) → (t2 < 65536) → ∀ (ls : Array Slot), lv_has ls 7 [(5, .int (nI i)), (4, .int (nI t2)), (3, .int (nI t1)), (0, .ref hm), (1, .int (nI j)), (2, .int (nI 4))] → W p l e { frames := 7, cells := 0, slots := 0, locals := 170 } s m ([.ref hm, .int (nI j), .int (nI 4)] : List Value).toArray below meth c H locs 0 0 (MQx below (Rw (.int (cntS (S j) 4)) (fun H1 => MP D cI hm a1 a2 a3 a4 a5 a6 a7 a8 a9 a10 a11 (nI 0) S H1)) s 0 0 (Aa [hm, a1, a2, a3, a4, a5, a6, a7, a8, a9, a10, a11] H0.size)) (F0 m 134 ls []) := by
    intro k
    induction k with
    | zero =>
      intro i t1 t2 hk ht1 ht2 ht3  ls hl
      refine lv_iload hx hb d_M_count_134 (lv_at hl 0 rfl) ?_
      refine lv_sipush (v := (nI 1024)) hx hb d_M_count_136 (by decide) ?_
      refine lv_icmp_ge (tgt := 192) hx hb d_M_count_139 (by decide) (fun c_139 => ?_) (fun c_139 => absurd (nI_le (by omega) (by omega)) c_139)
      refine lv_iload_n hx hb d_M_count_192 rfl (lv_at hl 5 rfl) ?_
      refine lv_iconst (v := (nI 4)) hx hb d_M_count_193 (by decide) ?_
      refine lv_icmp_ne (tgt := 201) hx hb d_M_count_194 (by decide) (fun c_194 => absurd (rfl) c_194) (fun c_194 => ?_)
      refine lv_iload_n hx hb d_M_count_197 rfl (lv_at hl 2 rfl) ?_
      refine lv_goto (tgt := 222) hx hb d_M_count_198 (by decide) ?_
      exact mx_iret hx hb hr hlk d_M_count_222 (Nat.le_of_ble_eq_true rfl) (Nat.le_of_ble_eq_true rfl) hS.2.2 (⟨by rw [hSj]; show _ = Outcome.returned (some (Value.int hd)); rw [ht1, show i = 1024 by omega, posN_agr p5, ← hq.2.2.2.2.2], ki, ka, kb, zs, pu, ce, pa, tr, so, pl, ot, hP, hpic⟩)
    | succ k ih_134 =>
      intro i t1 t2 hk ht1 ht2 ht3  ls hl
      refine lv_iload hx hb d_M_count_134 (lv_at hl 0 rfl) ?_
      refine lv_sipush (v := (nI 1024)) hx hb d_M_count_136 (by decide) ?_
      refine lv_icmp_ge (tgt := 192) hx hb d_M_count_139 (by decide) (fun c_139 => absurd c_139 (nI_ge (by omega) (by omega))) (fun c_139 => ?_)
      refine lv_aload_n hx hb d_M_count_142 rfl (lv_at hl 3 rfl) ?_
      refine va_get (D := D) (ci := 4) (v := .ref a6) (C := R_M) (T := T_M) (N := 12) hx hb (us_M G hW) (fun _ h => h) hown hK hP 0 rfl rfl 6 (by decide) (fl_M_25 G hW) (fun _ h9 => h9) rfl d_M_count_143 ?_
      refine lv_sipush (v := (nI 1024)) hx hb d_M_count_146 (by decide) ?_
      refine lv_iload_n hx hb d_M_count_149 rfl (lv_at hl 4 rfl) ?_
      refine lv_imul hx hb d_M_count_150 ?_
      refine tp_i (y := (nI (1024 * j))) (pk_mul _ _) ?_
      refine lv_iload hx hb d_M_count_151 (lv_at hl 0 rfl) ?_
      refine lv_iadd hx hb d_M_count_153 ?_
      refine tp_i (y := (nI ((1024 * j) + i))) (nI_add _ _) ?_
      refine ia_ld hx hb hK hP 6 (j := ((1024 * j) + i)) rfl (by omega) (by decide) d_M_count_154 ?_
      refine tp_i (y := (nI (ce ((1024 * j) + i)))) rfl ?_
      refine tp_i (y := (nI ((vw ce (1024 * j)) i))) (rfl) ?_
      refine lv_istore (lv' := [(6, .int (nI ((vw ce (1024 * j)) i))), (5, .int (nI i)), (4, .int (nI t2)), (3, .int (nI t1)), (0, .ref hm), (1, .int (nI j)), (2, .int (nI 4))]) hx hb d_M_count_155 hl (by decide) rfl (fun ls hl => ?_)
      refine lv_iload hx hb d_M_count_157 (lv_at hl 0 rfl) ?_
      refine lv_if_le (tgt := 168) hx hb d_M_count_159 (by decide) (fun c_159 => ?_) (fun c_159 => ?_)
      · refine lv_iload_n hx hb d_M_count_168 rfl (lv_at hl 3 rfl) ?_
        refine lv_istore_n (lv' := [(3, .int (nI t1)), (6, .int (nI ((vw ce (1024 * j)) i))), (5, .int (nI i)), (4, .int (nI t2)), (0, .ref hm), (1, .int (nI j)), (2, .int (nI 4))]) hx hb d_M_count_169 rfl hl (by decide) rfl (fun ls hl => ?_)
        refine lv_iload hx hb d_M_count_170 (lv_at hl 1 rfl) ?_
        refine lv_iload hx hb d_M_count_172 (lv_at hl 3 rfl) ?_
        refine lv_icmp_le (tgt := 182) hx hb d_M_count_174 (by decide) (fun c_174 => ?_) (fun c_174 => ?_)
        · refine lv_iload hx hb d_M_count_182 (lv_at hl 3 rfl) ?_
          refine lv_istore (lv' := [(4, .int (nI t2)), (3, .int (nI t1)), (6, .int (nI ((vw ce (1024 * j)) i))), (5, .int (nI i)), (0, .ref hm), (1, .int (nI j)), (2, .int (nI 4))]) hx hb d_M_count_184 hl (by decide) rfl (fun ls hl => ?_)
          refine lv_iinc (v := (nI (i + 1))) (lv' := [(5, .int (nI (i + 1))), (4, .int (nI t2)), (3, .int (nI t1)), (6, .int (nI ((vw ce (1024 * j)) i))), (0, .ref hm), (1, .int (nI j)), (2, .int (nI 4))]) hx hb d_M_count_186 hl (k := 3) rfl (nI_1 _) (by decide) rfl (fun ls hl => ?_)
          refine lv_goto (tgt := 134) hx hb d_M_count_189 (by decide) ?_
          exact ih_134 (i + 1) (t1) (t2) (by omega) (by rw [ht1, posN_f (fun h9 => absurd ((nI_leI (b := 0) (by have h9 := hcb i (by omega); omega) (by decide)).mp c_159) (by omega))]) (by show t2 = (if _ then _ else _); rw [if_neg (Nat.not_lt.mpr (by rw [← ht2]; exact (nI_leI (by have h9 := hcb i (by omega); omega) (by omega)).mp c_174)), ht2]) (ht3) ls (lv_sub hl [0, 1, 2, 4, 5, 6] rfl)
        · refine lv_iload hx hb d_M_count_177 (lv_at hl 1 rfl) ?_
          refine lv_goto (tgt := 184) hx hb d_M_count_179 (by decide) ?_
          refine lv_istore (lv' := [(4, .int (nI ((vw ce (1024 * j)) i))), (3, .int (nI t1)), (6, .int (nI ((vw ce (1024 * j)) i))), (5, .int (nI i)), (0, .ref hm), (1, .int (nI j)), (2, .int (nI 4))]) hx hb d_M_count_184 hl (by decide) rfl (fun ls hl => ?_)
          refine lv_iinc (v := (nI (i + 1))) (lv' := [(5, .int (nI (i + 1))), (4, .int (nI ((vw ce (1024 * j)) i))), (3, .int (nI t1)), (6, .int (nI ((vw ce (1024 * j)) i))), (0, .ref hm), (1, .int (nI j)), (2, .int (nI 4))]) hx hb d_M_count_186 hl (k := 3) rfl (nI_1 _) (by decide) rfl (fun ls hl => ?_)
          refine lv_goto (tgt := 134) hx hb d_M_count_189 (by decide) ?_
          exact ih_134 (i + 1) (t1) ((vw ce (1024 * j)) i) (by omega) (by rw [ht1, posN_f (fun h9 => absurd ((nI_leI (b := 0) (by have h9 := hcb i (by omega); omega) (by decide)).mp c_159) (by omega))]) (by show (vw ce (1024 * j)) i = (if _ then _ else _); rw [if_pos (Nat.not_le.mp (fun h9 => c_174 (nI_le (by rw [ht2]; exact h9) (by omega))))]) (hcb i (by omega)) ls (lv_sub hl [0, 1, 2, 4, 5, 6] rfl)
      · refine lv_iload_n hx hb d_M_count_162 rfl (lv_at hl 3 rfl) ?_
        refine lv_iconst (v := (nI 1)) hx hb d_M_count_163 (by decide) ?_
        refine lv_iadd hx hb d_M_count_164 ?_
        refine tp_i (y := (nI (t1 + 1))) (nI_add _ _) ?_
        refine lv_goto (tgt := 169) hx hb d_M_count_165 (by decide) ?_
        refine lv_istore_n (lv' := [(3, .int (nI (t1 + 1))), (6, .int (nI ((vw ce (1024 * j)) i))), (5, .int (nI i)), (4, .int (nI t2)), (0, .ref hm), (1, .int (nI j)), (2, .int (nI 4))]) hx hb d_M_count_169 rfl hl (by decide) rfl (fun ls hl => ?_)
        refine lv_iload hx hb d_M_count_170 (lv_at hl 1 rfl) ?_
        refine lv_iload hx hb d_M_count_172 (lv_at hl 3 rfl) ?_
        refine lv_icmp_le (tgt := 182) hx hb d_M_count_174 (by decide) (fun c_174 => ?_) (fun c_174 => ?_)
        · refine lv_iload hx hb d_M_count_182 (lv_at hl 3 rfl) ?_
          refine lv_istore (lv' := [(4, .int (nI t2)), (3, .int (nI (t1 + 1))), (6, .int (nI ((vw ce (1024 * j)) i))), (5, .int (nI i)), (0, .ref hm), (1, .int (nI j)), (2, .int (nI 4))]) hx hb d_M_count_184 hl (by decide) rfl (fun ls hl => ?_)
          refine lv_iinc (v := (nI (i + 1))) (lv' := [(5, .int (nI (i + 1))), (4, .int (nI t2)), (3, .int (nI (t1 + 1))), (6, .int (nI ((vw ce (1024 * j)) i))), (0, .ref hm), (1, .int (nI j)), (2, .int (nI 4))]) hx hb d_M_count_186 hl (k := 3) rfl (nI_1 _) (by decide) rfl (fun ls hl => ?_)
          refine lv_goto (tgt := 134) hx hb d_M_count_189 (by decide) ?_
          exact ih_134 (i + 1) (t1 + 1) (t2) (by omega) (by rw [ht1, posN_t (Nat.pos_of_ne_zero (fun h9 => c_159 (by rw [h9]; decide)))]) (by show t2 = (if _ then _ else _); rw [if_neg (Nat.not_lt.mpr (by rw [← ht2]; exact (nI_leI (by have h9 := hcb i (by omega); omega) (by omega)).mp c_174)), ht2]) (ht3) ls (lv_sub hl [0, 1, 2, 4, 5, 6] rfl)
        · refine lv_iload hx hb d_M_count_177 (lv_at hl 1 rfl) ?_
          refine lv_goto (tgt := 184) hx hb d_M_count_179 (by decide) ?_
          refine lv_istore (lv' := [(4, .int (nI ((vw ce (1024 * j)) i))), (3, .int (nI (t1 + 1))), (6, .int (nI ((vw ce (1024 * j)) i))), (5, .int (nI i)), (0, .ref hm), (1, .int (nI j)), (2, .int (nI 4))]) hx hb d_M_count_184 hl (by decide) rfl (fun ls hl => ?_)
          refine lv_iinc (v := (nI (i + 1))) (lv' := [(5, .int (nI (i + 1))), (4, .int (nI ((vw ce (1024 * j)) i))), (3, .int (nI (t1 + 1))), (6, .int (nI ((vw ce (1024 * j)) i))), (0, .ref hm), (1, .int (nI j)), (2, .int (nI 4))]) hx hb d_M_count_186 hl (k := 3) rfl (nI_1 _) (by decide) rfl (fun ls hl => ?_)
          refine lv_goto (tgt := 134) hx hb d_M_count_189 (by decide) ?_
          exact ih_134 (i + 1) (t1 + 1) ((vw ce (1024 * j)) i) (by omega) (by rw [ht1, posN_t (Nat.pos_of_ne_zero (fun h9 => c_159 (by rw [h9]; decide)))]) (by show (vw ce (1024 * j)) i = (if _ then _ else _); rw [if_pos (Nat.not_le.mp (fun h9 => c_174 (nI_le (by rw [ht2]; exact h9) (by omega))))]) (hcb i (by omega)) ls (lv_sub hl [0, 1, 2, 4, 5, 6] rfl)
  exact loop_134 (1024) (0) (0) (0) (by omega) (rfl) (rfl) (by decide) ls (lv_sub hl [0, 1, 2, 3, 4, 5] rfl)

set_option maxHeartbeats 4000000 in
set_option maxRecDepth 100000 in
theorem c_M_count_2_5 {l : Launch} {s0 : State} {D : va_G} {cI cF cJ : ClassId} (G : Gx l s0 D cI cF cJ) (hm a1 a2 a3 a4 a5 a6 a7 a8 a9 a10 a11 : Nat) (th : Int32) (S : Nat → FS) (j A B n : Nat) (hd pv : Int32) (cs f : Nat → Nat) {H0 : Heap} {A0 : Nat → Prop} (hM : MP D cI hm a1 a2 a3 a4 a5 a6 a7 a8 a9 a10 a11 th S H0) (hD : va_D A0 (adM hm a1 a2 a3 a4 a5 a6 a7 a8 a9 a10 a11)) (hok : ∀ i, i < 4 → okS (S i)) (hj : j < 4) (hSj : S j = (2, A, B, hd, pv, cs, n, f)) : Mx l s0 y_M_count (.code y_M_count b_M_count 7 (some .int)) { frames := 7, cells := 0, slots := 0, locals := 170 } [.ref hm, .int (nI j), .int (nI 5)] H0 (Aa [hm, a1, a2, a3, a4, a5, a6, a7, a8, a9, a10, a11] H0.size) (Rw (.int (cntS (S j) 5)) (fun H1 => MP D cI hm a1 a2 a3 a4 a5 a6 a7 a8 a9 a10 a11 (nI 0) S H1)) := by
  refine Mx.ofW (own := "FewBitsModel") rfl rfl ?_
  rintro p e s m below meth c ⟨hx, hb, hml, hr, hown, hW, hlk⟩ hnm het hH
  have hK := G.k hW
  have hD0 := hD
  obtain ⟨ki, ka, kb, zs, pu, ce, pa, tr, so, pl, ot, hP, hpic⟩ := hM
  have hD : va_D (Aa [hm, a1, a2, a3, a4, a5, a6, a7, a8, a9, a10, a11] H0.size) [(hm, .inr (4, [.int th, .ref a1, .ref a2, .ref a3, .ref a4, .ref a5, .ref a6, .ref a7, .ref a8, .ref a9, .ref a10, .ref a11])), (a1, aN cI 4 ki), (a2, aN cI 4 ka), (a3, aN cI 4 kb), (a4, aI cI 4 zs), (a5, aI cI 4 pu), (a6, aN cI 4096 ce), (a7, aN cI 1024 pa), (a8, aN cI 1024 tr), (a9, aI cI 256 so), (a10, aN cI 6 pl), (a11, aN cI 6 ot)] := va_D.same2 [hm, a1, a2, a3, a4, a5, a6, a7, a8, a9, a10, a11] (hD.aa (sz := H0.size)) rfl rfl
  have hS : va_S (Aa [hm, a1, a2, a3, a4, a5, a6, a7, a8, a9, a10, a11] H0.size) H0 H0 [] := va_S.rf
  have hpj := hpic j hj
  rw [hSj] at hpj
  obtain ⟨p1, p2, p3, p4, p5, p7, p6⟩ := hpj.f2
  have hoj := hok j hj
  rw [hSj] at hoj
  have hq := okS_2.mp hoj
  have h0 : (S j).1 ≠ 0 := by rw [hSj]; exact (by decide : 2 ≠ 0)
  have hA : A ≤ 8 := hq.2.1
  have hB4 : 4 ≤ B := hq.2.2.1
  have hB : B ≤ 16 := hq.2.2.2.1
  have hs := hq.ce p5
  have h8 := p2_le hA
  have hcb := hs
  have hl := lv_entry ([.ref hm, .int (nI j), .int (nI 5)]) (n := 7) (Nat.le_of_ble_eq_true rfl)
  rw [lg_entry_eq]
  generalize (lg_sl ([.ref hm, .int (nI j), .int (nI 5)]) ++ List.replicate (7 - (lg_sl ([.ref hm, .int (nI j), .int (nI 5)])).length) Slot.unset).toArray = ls at hl ⊢
  have hl : lv_has ls 7 [(0, .ref hm), (1, .int (nI j)), (2, .int (nI 5))] := hl
  refine lv_aload_n hx hb d_M_count_0 rfl (lv_at hl 0 rfl) ?_
  refine lv_aload_n hx hb d_M_count_1 rfl (lv_at hl 0 rfl) ?_
  refine lv_iload_n hx hb d_M_count_2 rfl (lv_at hl 1 rfl) ?_
  refine mx_callR (r := .int (nI (if (S j).1 = 0 then 2 else 0))) (c_M_wrg G hm a1 a2 a3 a4 a5 a6 a7 a8 a9 a10 a11 th S j ⟨ki, ka, kb, zs, pu, ce, pa, tr, so, pl, ot, hP, hpic⟩ hD0 hok hj) hW (iv_M_count_3 G hx hb hown hW (va_recv hK hP (ci := 4) (q0 := 0) rfl rfl) [.int (nI j)] [.ref hm] rfl) hml hl.1 (by rw [hb]; exact d_M_count_3) (cd_M_wrong G hW) ⟨Nat.le_of_ble_eq_true rfl, Nat.le_of_ble_eq_true rfl⟩ rfl rfl (Nat.le_of_ble_eq_true rfl) (Nat.le_of_ble_eq_true rfl) (Nat.le_of_ble_eq_true rfl) ?_
  refine tp_i (y := (nI 0)) (by rw [if_neg h0]) ?_
  refine lv_if_le (tgt := 17) hx hb d_M_count_6 (by decide) (fun c_6 => ?_) (fun c_6 => absurd (by decide) c_6)
  refine lv_iload_n hx hb d_M_count_17 rfl (lv_at hl 2 rfl) ?_
  refine lv_if_lt (tgt := 26) hx hb d_M_count_18 (by decide) (fun c_18 => absurd c_18 (by decide)) (fun c_18 => ?_)
  refine lv_iload_n hx hb d_M_count_21 rfl (lv_at hl 2 rfl) ?_
  refine lv_iconst (v := (nI 5)) hx hb d_M_count_22 (by decide) ?_
  refine lv_icmp_le (tgt := 30) hx hb d_M_count_23 (by decide) (fun c_23 => ?_) (fun c_23 => absurd (by decide) c_23)
  refine lv_iconst (v := (nI 0)) hx hb d_M_count_30 (by decide) ?_
  refine va_put (D := D) (ci := 4) (v := .int (nI 0)) (ty := .int) (C := R_M) (T := T_M) (N := 12) hx hb (us_M G hW) (fun _ h => h) t_M to_M nm_M hown hK hP hD hS 0 rfl rfl 0 (by decide) (fl_M_43 G hW) (fun _ h9 => h9) rfl (by decide +kernel) rfl rfl (Nat.le_of_ble_eq_true rfl) d_M_count_31 (fun H locs hP hD hS => ?_)
  have hP : va_P D vcl [(hm, .inr (4, [.int (nI 0), .ref a1, .ref a2, .ref a3, .ref a4, .ref a5, .ref a6, .ref a7, .ref a8, .ref a9, .ref a10, .ref a11])), (a1, aN cI 4 ki), (a2, aN cI 4 ka), (a3, aN cI 4 kb), (a4, aI cI 4 zs), (a5, aI cI 4 pu), (a6, aN cI 4096 ce), (a7, aN cI 1024 pa), (a8, aN cI 1024 tr), (a9, aI cI 256 so), (a10, aN cI 6 pl), (a11, aN cI 6 ot)] H := hP
  have hD : va_D (Aa [hm, a1, a2, a3, a4, a5, a6, a7, a8, a9, a10, a11] H0.size) [(hm, .inr (4, [.int (nI 0), .ref a1, .ref a2, .ref a3, .ref a4, .ref a5, .ref a6, .ref a7, .ref a8, .ref a9, .ref a10, .ref a11])), (a1, aN cI 4 ki), (a2, aN cI 4 ka), (a3, aN cI 4 kb), (a4, aI cI 4 zs), (a5, aI cI 4 pu), (a6, aN cI 4096 ce), (a7, aN cI 1024 pa), (a8, aN cI 1024 tr), (a9, aI cI 256 so), (a10, aN cI 6 pl), (a11, aN cI 6 ot)] := hD
  refine lv_aload_n hx hb d_M_count_34 rfl (lv_at hl 0 rfl) ?_
  refine va_get (D := D) (ci := 4) (v := .int (nI 0)) (C := R_M) (T := T_M) (N := 12) hx hb (us_M G hW) (fun _ h => h) hown hK hP 0 rfl rfl 0 (by decide) (fl_M_43 G hW) (fun _ h9 => h9) rfl d_M_count_35 ?_
  refine lv_if_le (tgt := 43) hx hb d_M_count_38 (by decide) (fun c_38 => ?_) (fun c_38 => absurd (by decide) c_38)
  refine lv_iload_n hx hb d_M_count_43 rfl (lv_at hl 2 rfl) ?_
  refine lv_iconst (v := (nI 4)) hx hb d_M_count_44 (by decide) ?_
  refine lv_icmp_ge (tgt := 96) hx hb d_M_count_45 (by decide) (fun c_45 => ?_) (fun c_45 => absurd (by decide) c_45)
  refine lv_aload_n hx hb d_M_count_96 rfl (lv_at hl 0 rfl) ?_
  refine va_get (D := D) (ci := 4) (v := .ref a1) (C := R_M) (T := T_M) (N := 12) hx hb (us_M G hW) (fun _ h => h) hown hK hP 0 rfl rfl 1 (by decide) (fl_M_7 G hW) (fun _ h9 => h9) rfl d_M_count_97 ?_
  refine lv_iload_n hx hb d_M_count_100 rfl (lv_at hl 1 rfl) ?_
  refine ia_ld hx hb hK hP 1 (j := j) rfl (hj) (by decide) d_M_count_101 ?_
  refine tp_i (y := (nI (ki j))) rfl ?_
  refine tp_i (y := (nI 2)) (by rw [p1]) ?_
  refine lv_iconst (v := (nI 3)) hx hb d_M_count_102 (by decide) ?_
  refine lv_icmp_ne (tgt := 126) hx hb d_M_count_103 (by decide) (fun c_103 => ?_) (fun c_103 => absurd c_103 (by decide))
  refine lv_iconst (v := (nI 0)) hx hb d_M_count_126 (by decide) ?_
  refine lv_istore_n (lv' := [(3, .int (nI 0)), (0, .ref hm), (1, .int (nI j)), (2, .int (nI 5))]) hx hb d_M_count_127 rfl hl (by decide) rfl (fun ls hl => ?_)
  refine lv_iconst (v := (nI 0)) hx hb d_M_count_128 (by decide) ?_
  refine lv_istore (lv' := [(4, .int (nI 0)), (3, .int (nI 0)), (0, .ref hm), (1, .int (nI j)), (2, .int (nI 5))]) hx hb d_M_count_129 hl (by decide) rfl (fun ls hl => ?_)
  refine lv_iconst (v := (nI 0)) hx hb d_M_count_131 (by decide) ?_
  refine lv_istore (lv' := [(5, .int (nI 0)), (4, .int (nI 0)), (3, .int (nI 0)), (0, .ref hm), (1, .int (nI j)), (2, .int (nI 5))]) hx hb d_M_count_132 hl (by decide) rfl (fun ls hl => ?_)
  have loop_134 : ∀ (k : Nat) (i : Nat) (t1 : Nat) (t2 : Nat), (i + k = 1024) → (t1 = posN (vw ce (1024 * j)) i) → (t2 = maxN (vw ce (1024 * j)) i) → (t2 < 65536) → ∀ (ls : Array Slot), lv_has ls 7 [(5, .int (nI i)), (4, .int (nI t2)), (3, .int (nI t1)), (0, .ref hm), (1, .int (nI j)), (2, .int (nI 5))] → W p l e { frames := 7, cells := 0, slots := 0, locals := 170 } s m ([.ref hm, .int (nI j), .int (nI 5)] : List Value).toArray below meth c H locs 0 0 (MQx below (Rw (.int (cntS (S j) 5)) (fun H1 => MP D cI hm a1 a2 a3 a4 a5 a6 a7 a8 a9 a10 a11 (nI 0) S H1)) s 0 0 (Aa [hm, a1, a2, a3, a4, a5, a6, a7, a8, a9, a10, a11] H0.size)) (F0 m 134 ls []) := by
    intro k
    induction k with
    | zero =>
      intro i t1 t2 hk ht1 ht2 ht3  ls hl
      refine lv_iload hx hb d_M_count_134 (lv_at hl 0 rfl) ?_
      refine lv_sipush (v := (nI 1024)) hx hb d_M_count_136 (by decide) ?_
      refine lv_icmp_ge (tgt := 192) hx hb d_M_count_139 (by decide) (fun c_139 => ?_) (fun c_139 => absurd (nI_le (by omega) (by omega)) c_139)
      refine lv_iload_n hx hb d_M_count_192 rfl (lv_at hl 5 rfl) ?_
      refine lv_iconst (v := (nI 4)) hx hb d_M_count_193 (by decide) ?_
      refine lv_icmp_ne (tgt := 201) hx hb d_M_count_194 (by decide) (fun c_194 => ?_) (fun c_194 => absurd c_194 (by decide))
      refine lv_aload_n hx hb d_M_count_201 rfl (lv_at hl 3 rfl) ?_
      refine va_get (D := D) (ci := 4) (v := .ref a1) (C := R_M) (T := T_M) (N := 12) hx hb (us_M G hW) (fun _ h => h) hown hK hP 0 rfl rfl 1 (by decide) (fl_M_7 G hW) (fun _ h9 => h9) rfl d_M_count_202 ?_
      refine lv_iload_n hx hb d_M_count_205 rfl (lv_at hl 4 rfl) ?_
      refine ia_ld hx hb hK hP 1 (j := j) rfl (hj) (by decide) d_M_count_206 ?_
      refine tp_i (y := (nI (ki j))) rfl ?_
      refine tp_i (y := (nI 2)) (by rw [p1]) ?_
      refine lv_iconst (v := (nI 1)) hx hb d_M_count_207 (by decide) ?_
      refine lv_icmp_ne (tgt := 216) hx hb d_M_count_208 (by decide) (fun c_208 => ?_) (fun c_208 => absurd c_208 (by decide))
      refine lv_aload_n hx hb d_M_count_216 rfl (lv_at hl 3 rfl) ?_
      refine va_get (D := D) (ci := 4) (v := .ref a5) (C := R_M) (T := T_M) (N := 12) hx hb (us_M G hW) (fun _ h => h) hown hK hP 0 rfl rfl 5 (by decide) (fl_M_22 G hW) (fun _ h9 => h9) rfl d_M_count_217 ?_
      refine lv_iload_n hx hb d_M_count_220 rfl (lv_at hl 4 rfl) ?_
      refine ia_ld hx hb hK hP 5 (j := j) rfl (hj) (by decide) d_M_count_221 ?_
      refine tp_i (y := (cntS (S j) 5)) (by rw [p7, hSj]; rfl) ?_
      exact mx_iret hx hb hr hlk d_M_count_222 (Nat.le_of_ble_eq_true rfl) (Nat.le_of_ble_eq_true rfl) hS.2.2 (⟨rfl, ki, ka, kb, zs, pu, ce, pa, tr, so, pl, ot, hP, hpic⟩)
    | succ k ih_134 =>
      intro i t1 t2 hk ht1 ht2 ht3  ls hl
      refine lv_iload hx hb d_M_count_134 (lv_at hl 0 rfl) ?_
      refine lv_sipush (v := (nI 1024)) hx hb d_M_count_136 (by decide) ?_
      refine lv_icmp_ge (tgt := 192) hx hb d_M_count_139 (by decide) (fun c_139 => absurd c_139 (nI_ge (by omega) (by omega))) (fun c_139 => ?_)
      refine lv_aload_n hx hb d_M_count_142 rfl (lv_at hl 3 rfl) ?_
      refine va_get (D := D) (ci := 4) (v := .ref a6) (C := R_M) (T := T_M) (N := 12) hx hb (us_M G hW) (fun _ h => h) hown hK hP 0 rfl rfl 6 (by decide) (fl_M_25 G hW) (fun _ h9 => h9) rfl d_M_count_143 ?_
      refine lv_sipush (v := (nI 1024)) hx hb d_M_count_146 (by decide) ?_
      refine lv_iload_n hx hb d_M_count_149 rfl (lv_at hl 4 rfl) ?_
      refine lv_imul hx hb d_M_count_150 ?_
      refine tp_i (y := (nI (1024 * j))) (pk_mul _ _) ?_
      refine lv_iload hx hb d_M_count_151 (lv_at hl 0 rfl) ?_
      refine lv_iadd hx hb d_M_count_153 ?_
      refine tp_i (y := (nI ((1024 * j) + i))) (nI_add _ _) ?_
      refine ia_ld hx hb hK hP 6 (j := ((1024 * j) + i)) rfl (by omega) (by decide) d_M_count_154 ?_
      refine tp_i (y := (nI (ce ((1024 * j) + i)))) rfl ?_
      refine tp_i (y := (nI ((vw ce (1024 * j)) i))) (rfl) ?_
      refine lv_istore (lv' := [(6, .int (nI ((vw ce (1024 * j)) i))), (5, .int (nI i)), (4, .int (nI t2)), (3, .int (nI t1)), (0, .ref hm), (1, .int (nI j)), (2, .int (nI 5))]) hx hb d_M_count_155 hl (by decide) rfl (fun ls hl => ?_)
      refine lv_iload hx hb d_M_count_157 (lv_at hl 0 rfl) ?_
      refine lv_if_le (tgt := 168) hx hb d_M_count_159 (by decide) (fun c_159 => ?_) (fun c_159 => ?_)
      · refine lv_iload_n hx hb d_M_count_168 rfl (lv_at hl 3 rfl) ?_
        refine lv_istore_n (lv' := [(3, .int (nI t1)), (6, .int (nI ((vw ce (1024 * j)) i))), (5, .int (nI i)), (4, .int (nI t2)), (0, .ref hm), (1, .int (nI j)), (2, .int (nI 5))]) hx hb d_M_count_169 rfl hl (by decide) rfl (fun ls hl => ?_)
        refine lv_iload hx hb d_M_count_170 (lv_at hl 1 rfl) ?_
        refine lv_iload hx hb d_M_count_172 (lv_at hl 3 rfl) ?_
        refine lv_icmp_le (tgt := 182) hx hb d_M_count_174 (by decide) (fun c_174 => ?_) (fun c_174 => ?_)
        · refine lv_iload hx hb d_M_count_182 (lv_at hl 3 rfl) ?_
          refine lv_istore (lv' := [(4, .int (nI t2)), (3, .int (nI t1)), (6, .int (nI ((vw ce (1024 * j)) i))), (5, .int (nI i)), (0, .ref hm), (1, .int (nI j)), (2, .int (nI 5))]) hx hb d_M_count_184 hl (by decide) rfl (fun ls hl => ?_)
          refine lv_iinc (v := (nI (i + 1))) (lv' := [(5, .int (nI (i + 1))), (4, .int (nI t2)), (3, .int (nI t1)), (6, .int (nI ((vw ce (1024 * j)) i))), (0, .ref hm), (1, .int (nI j)), (2, .int (nI 5))]) hx hb d_M_count_186 hl (k := 3) rfl (nI_1 _) (by decide) rfl (fun ls hl => ?_)
          refine lv_goto (tgt := 134) hx hb d_M_count_189 (by decide) ?_
          exact ih_134 (i + 1) (t1) (t2) (by omega) (by rw [ht1, posN_f (fun h9 => absurd ((nI_leI (b := 0) (by have h9 := hcb i (by omega); omega) (by decide)).mp c_159) (by omega))]) (by show t2 = (if _ then _ else _); rw [if_neg (Nat.not_lt.mpr (by rw [← ht2]; exact (nI_leI (by have h9 := hcb i (by omega); omega) (by omega)).mp c_174)), ht2]) (ht3) ls (lv_sub hl [0, 1, 2, 4, 5, 6] rfl)
        · refine lv_iload hx hb d_M_count_177 (lv_at hl 1 rfl) ?_
          refine lv_goto (tgt := 184) hx hb d_M_count_179 (by decide) ?_
          refine lv_istore (lv' := [(4, .int (nI ((vw ce (1024 * j)) i))), (3, .int (nI t1)), (6, .int (nI ((vw ce (1024 * j)) i))), (5, .int (nI i)), (0, .ref hm), (1, .int (nI j)), (2, .int (nI 5))]) hx hb d_M_count_184 hl (by decide) rfl (fun ls hl => ?_)
          refine lv_iinc (v := (nI (i + 1))) (lv' := [(5, .int (nI (i + 1))), (4, .int (nI ((vw ce (1024 * j)) i))), (3, .int (nI t1)), (6, .int (nI ((vw ce (1024 * j)) i))), (0, .ref hm), (1, .int (nI j)), (2, .int (nI 5))]) hx hb d_M_count_186 hl (k := 3) rfl (nI_1 _) (by decide) rfl (fun ls hl => ?_)
          refine lv_goto (tgt := 134) hx hb d_M_count_189 (by decide) ?_
          exact ih_134 (i + 1) (t1) ((vw ce (1024 * j)) i) (by omega) (by rw [ht1, posN_f (fun h9 => absurd ((nI_leI (b := 0) (by have h9 := hcb i (by omega); omega) (by decide)).mp c_159) (by omega))]) (by show (vw ce (1024 * j)) i = (if _ then _ else _); rw [if_pos (Nat.not_le.mp (fun h9 => c_174 (nI_le (by rw [ht2]; exact h9) (by omega))))]) (hcb i (by omega)) ls (lv_sub hl [0, 1, 2, 4, 5, 6] rfl)
      · refine lv_iload_n hx hb d_M_count_162 rfl (lv_at hl 3 rfl) ?_
        refine lv_iconst (v := (nI 1)) hx hb d_M_count_163 (by decide) ?_
        refine lv_iadd hx hb d_M_count_164 ?_
        refine tp_i (y := (nI (t1 + 1))) (nI_add _ _) ?_
        refine lv_goto (tgt := 169) hx hb d_M_count_165 (by decide) ?_
        refine lv_istore_n (lv' := [(3, .int (nI (t1 + 1))), (6, .int (nI ((vw ce (1024 * j)) i))), (5, .int (nI i)), (4, .int (nI t2)), (0, .ref hm), (1, .int (nI j)), (2, .int (nI 5))]) hx hb d_M_count_169 rfl hl (by decide) rfl (fun ls hl => ?_)
        refine lv_iload hx hb d_M_count_170 (lv_at hl 1 rfl) ?_
        refine lv_iload hx hb d_M_count_172 (lv_at hl 3 rfl) ?_
        refine lv_icmp_le (tgt := 182) hx hb d_M_count_174 (by decide) (fun c_174 => ?_) (fun c_174 => ?_)
        · refine lv_iload hx hb d_M_count_182 (lv_at hl 3 rfl) ?_
          refine lv_istore (lv' := [(4, .int (nI t2)), (3, .int (nI (t1 + 1))), (6, .int (nI ((vw ce (1024 * j)) i))), (5, .int (nI i)), (0, .ref hm), (1, .int (nI j)), (2, .int (nI 5))]) hx hb d_M_count_184 hl (by decide) rfl (fun ls hl => ?_)
          refine lv_iinc (v := (nI (i + 1))) (lv' := [(5, .int (nI (i + 1))), (4, .int (nI t2)), (3, .int (nI (t1 + 1))), (6, .int (nI ((vw ce (1024 * j)) i))), (0, .ref hm), (1, .int (nI j)), (2, .int (nI 5))]) hx hb d_M_count_186 hl (k := 3) rfl (nI_1 _) (by decide) rfl (fun ls hl => ?_)
          refine lv_goto (tgt := 134) hx hb d_M_count_189 (by decide) ?_
          exact ih_134 (i + 1) (t1 + 1) (t2) (by omega) (by rw [ht1, posN_t (Nat.pos_of_ne_zero (fun h9 => c_159 (by rw [h9]; decide)))]) (by show t2 = (if _ then _ else _); rw [if_neg (Nat.not_lt.mpr (by rw [← ht2]; exact (nI_leI (by have h9 := hcb i (by omega); omega) (by omega)).mp c_174)), ht2]) (ht3) ls (lv_sub hl [0, 1, 2, 4, 5, 6] rfl)
        · refine lv_iload hx hb d_M_count_177 (lv_at hl 1 rfl) ?_
          refine lv_goto (tgt := 184) hx hb d_M_count_179 (by decide) ?_
          refine lv_istore (lv' := [(4, .int (nI ((vw ce (1024 * j)) i))), (3, .int (nI (t1 + 1))), (6, .int (nI ((vw ce (1024 * j)) i))), (5, .int (nI i)), (0, .ref hm), (1, .int (nI j)), (2, .int (nI 5))]) hx hb d_M_count_184 hl (by decide) rfl (fun ls hl => ?_)
          refine lv_iinc (v := (nI (i + 1))) (lv' := [(5, .int (nI (i + 1))), (4, .int (nI ((vw ce (1024 * j)) i))), (3, .int (nI (t1 + 1))), (6, .int (nI ((vw ce (1024 * j)) i))), (0, .ref hm), (1, .int (nI j)), (2, .int (nI 5))]) hx hb d_M_count_186 hl (k := 3) rfl (nI_1 _) (by decide) rfl (fun ls hl => ?_)
          refine lv_goto (tgt := 134) hx hb d_M_count_189 (by decide) ?_
          exact ih_134 (i + 1) (t1 + 1) ((vw ce (1024 * j)) i) (by omega) (by rw [ht1, posN_t (Nat.pos_of_ne_zero (fun h9 => c_159 (by rw [h9]; decide)))]) (by show (vw ce (1024 * j)) i = (if _ then _ else _); rw [if_pos (Nat.not_le.mp (fun h9 => c_174 (nI_le (by rw [ht2]; exact h9) (by omega))))]) (hcb i (by omega)) ls (lv_sub hl [0, 1, 2, 4, 5, 6] rfl)
  exact loop_134 (1024) (0) (0) (0) (by omega) (rfl) (rfl) (by decide) ls (lv_sub hl [0, 1, 2, 3, 4, 5] rfl)

set_option maxHeartbeats 4000000 in
set_option maxRecDepth 100000 in
theorem c_M_count_3_0 {l : Launch} {s0 : State} {D : va_G} {cI cF cJ : ClassId} (G : Gx l s0 D cI cF cJ) (hm a1 a2 a3 a4 a5 a6 a7 a8 a9 a10 a11 : Nat) (th : Int32) (S : Nat → FS) (j A B n : Nat) (hd pv : Int32) (cs f : Nat → Nat) {H0 : Heap} {A0 : Nat → Prop} (hM : MP D cI hm a1 a2 a3 a4 a5 a6 a7 a8 a9 a10 a11 th S H0) (hD : va_D A0 (adM hm a1 a2 a3 a4 a5 a6 a7 a8 a9 a10 a11)) (hok : ∀ i, i < 4 → okS (S i)) (hj : j < 4) (hSj : S j = (3, A, B, hd, pv, cs, n, f)) : Mx l s0 y_M_count (.code y_M_count b_M_count 7 (some .int)) { frames := 7, cells := 0, slots := 0, locals := 170 } [.ref hm, .int (nI j), .int (nI 0)] H0 (Aa [hm, a1, a2, a3, a4, a5, a6, a7, a8, a9, a10, a11] H0.size) (Rw (.int (cntS (S j) 0)) (fun H1 => MP D cI hm a1 a2 a3 a4 a5 a6 a7 a8 a9 a10 a11 (nI 0) S H1)) := by
  refine Mx.ofW (own := "FewBitsModel") rfl rfl ?_
  rintro p e s m below meth c ⟨hx, hb, hml, hr, hown, hW, hlk⟩ hnm het hH
  have hK := G.k hW
  have hD0 := hD
  obtain ⟨ki, ka, kb, zs, pu, ce, pa, tr, so, pl, ot, hP, hpic⟩ := hM
  have hD : va_D (Aa [hm, a1, a2, a3, a4, a5, a6, a7, a8, a9, a10, a11] H0.size) [(hm, .inr (4, [.int th, .ref a1, .ref a2, .ref a3, .ref a4, .ref a5, .ref a6, .ref a7, .ref a8, .ref a9, .ref a10, .ref a11])), (a1, aN cI 4 ki), (a2, aN cI 4 ka), (a3, aN cI 4 kb), (a4, aI cI 4 zs), (a5, aI cI 4 pu), (a6, aN cI 4096 ce), (a7, aN cI 1024 pa), (a8, aN cI 1024 tr), (a9, aI cI 256 so), (a10, aN cI 6 pl), (a11, aN cI 6 ot)] := va_D.same2 [hm, a1, a2, a3, a4, a5, a6, a7, a8, a9, a10, a11] (hD.aa (sz := H0.size)) rfl rfl
  have hS : va_S (Aa [hm, a1, a2, a3, a4, a5, a6, a7, a8, a9, a10, a11] H0.size) H0 H0 [] := va_S.rf
  have hpj := hpic j hj
  rw [hSj] at hpj
  obtain ⟨p1, p2, p3, p4, p5, p6⟩ := hpj.f3
  have hoj := hok j hj
  rw [hSj] at hoj
  have hq := (okS_3.mp hoj).1
  have hhd := (okS_3.mp hoj).2
  have p4n : zs j = nI n := by rw [p4, hhd]
  have hqA : A ≤ 8 := hq.2.1
  have hqB : B ≤ 20 := hq.2.2.2.1
  have h0 : (S j).1 ≠ 0 := by rw [hSj]; exact (by decide : 3 ≠ 0)
  have h8 := p2_le hqA
  have hnn := hq.n
  have hsr := hq.2.2.2.2.2.1
  have hl := lv_entry ([.ref hm, .int (nI j), .int (nI 0)]) (n := 7) (Nat.le_of_ble_eq_true rfl)
  rw [lg_entry_eq]
  generalize (lg_sl ([.ref hm, .int (nI j), .int (nI 0)]) ++ List.replicate (7 - (lg_sl ([.ref hm, .int (nI j), .int (nI 0)])).length) Slot.unset).toArray = ls at hl ⊢
  have hl : lv_has ls 7 [(0, .ref hm), (1, .int (nI j)), (2, .int (nI 0))] := hl
  refine lv_aload_n hx hb d_M_count_0 rfl (lv_at hl 0 rfl) ?_
  refine lv_aload_n hx hb d_M_count_1 rfl (lv_at hl 0 rfl) ?_
  refine lv_iload_n hx hb d_M_count_2 rfl (lv_at hl 1 rfl) ?_
  refine mx_callR (r := .int (nI (if (S j).1 = 0 then 2 else 0))) (c_M_wrg G hm a1 a2 a3 a4 a5 a6 a7 a8 a9 a10 a11 th S j ⟨ki, ka, kb, zs, pu, ce, pa, tr, so, pl, ot, hP, hpic⟩ hD0 hok hj) hW (iv_M_count_3 G hx hb hown hW (va_recv hK hP (ci := 4) (q0 := 0) rfl rfl) [.int (nI j)] [.ref hm] rfl) hml hl.1 (by rw [hb]; exact d_M_count_3) (cd_M_wrong G hW) ⟨Nat.le_of_ble_eq_true rfl, Nat.le_of_ble_eq_true rfl⟩ rfl rfl (Nat.le_of_ble_eq_true rfl) (Nat.le_of_ble_eq_true rfl) (Nat.le_of_ble_eq_true rfl) ?_
  refine tp_i (y := (nI 0)) (by rw [if_neg h0]) ?_
  refine lv_if_le (tgt := 17) hx hb d_M_count_6 (by decide) (fun c_6 => ?_) (fun c_6 => absurd (by decide) c_6)
  refine lv_iload_n hx hb d_M_count_17 rfl (lv_at hl 2 rfl) ?_
  refine lv_if_lt (tgt := 26) hx hb d_M_count_18 (by decide) (fun c_18 => absurd c_18 (by decide)) (fun c_18 => ?_)
  refine lv_iload_n hx hb d_M_count_21 rfl (lv_at hl 2 rfl) ?_
  refine lv_iconst (v := (nI 5)) hx hb d_M_count_22 (by decide) ?_
  refine lv_icmp_le (tgt := 30) hx hb d_M_count_23 (by decide) (fun c_23 => ?_) (fun c_23 => absurd (by decide) c_23)
  refine lv_iconst (v := (nI 0)) hx hb d_M_count_30 (by decide) ?_
  refine va_put (D := D) (ci := 4) (v := .int (nI 0)) (ty := .int) (C := R_M) (T := T_M) (N := 12) hx hb (us_M G hW) (fun _ h => h) t_M to_M nm_M hown hK hP hD hS 0 rfl rfl 0 (by decide) (fl_M_43 G hW) (fun _ h9 => h9) rfl (by decide +kernel) rfl rfl (Nat.le_of_ble_eq_true rfl) d_M_count_31 (fun H locs hP hD hS => ?_)
  have hP : va_P D vcl [(hm, .inr (4, [.int (nI 0), .ref a1, .ref a2, .ref a3, .ref a4, .ref a5, .ref a6, .ref a7, .ref a8, .ref a9, .ref a10, .ref a11])), (a1, aN cI 4 ki), (a2, aN cI 4 ka), (a3, aN cI 4 kb), (a4, aI cI 4 zs), (a5, aI cI 4 pu), (a6, aN cI 4096 ce), (a7, aN cI 1024 pa), (a8, aN cI 1024 tr), (a9, aI cI 256 so), (a10, aN cI 6 pl), (a11, aN cI 6 ot)] H := hP
  have hD : va_D (Aa [hm, a1, a2, a3, a4, a5, a6, a7, a8, a9, a10, a11] H0.size) [(hm, .inr (4, [.int (nI 0), .ref a1, .ref a2, .ref a3, .ref a4, .ref a5, .ref a6, .ref a7, .ref a8, .ref a9, .ref a10, .ref a11])), (a1, aN cI 4 ki), (a2, aN cI 4 ka), (a3, aN cI 4 kb), (a4, aI cI 4 zs), (a5, aI cI 4 pu), (a6, aN cI 4096 ce), (a7, aN cI 1024 pa), (a8, aN cI 1024 tr), (a9, aI cI 256 so), (a10, aN cI 6 pl), (a11, aN cI 6 ot)] := hD
  refine lv_aload_n hx hb d_M_count_34 rfl (lv_at hl 0 rfl) ?_
  refine va_get (D := D) (ci := 4) (v := .int (nI 0)) (C := R_M) (T := T_M) (N := 12) hx hb (us_M G hW) (fun _ h => h) hown hK hP 0 rfl rfl 0 (by decide) (fl_M_43 G hW) (fun _ h9 => h9) rfl d_M_count_35 ?_
  refine lv_if_le (tgt := 43) hx hb d_M_count_38 (by decide) (fun c_38 => ?_) (fun c_38 => absurd (by decide) c_38)
  refine lv_iload_n hx hb d_M_count_43 rfl (lv_at hl 2 rfl) ?_
  refine lv_iconst (v := (nI 4)) hx hb d_M_count_44 (by decide) ?_
  refine lv_icmp_ge (tgt := 96) hx hb d_M_count_45 (by decide) (fun c_45 => absurd c_45 (by decide)) (fun c_45 => ?_)
  refine lv_iload_n hx hb d_M_count_48 rfl (lv_at hl 2 rfl) ?_
  refine lv_if_ne (tgt := 61) hx hb d_M_count_49 (by decide) (fun c_49 => absurd (rfl) c_49) (fun c_49 => ?_)
  refine lv_aload_n hx hb d_M_count_52 rfl (lv_at hl 0 rfl) ?_
  refine va_get (D := D) (ci := 4) (v := .ref a1) (C := R_M) (T := T_M) (N := 12) hx hb (us_M G hW) (fun _ h => h) hown hK hP 0 rfl rfl 1 (by decide) (fl_M_7 G hW) (fun _ h9 => h9) rfl d_M_count_53 ?_
  refine lv_iload_n hx hb d_M_count_56 rfl (lv_at hl 1 rfl) ?_
  refine ia_ld hx hb hK hP 1 (j := j) rfl (hj) (by decide) d_M_count_57 ?_
  refine tp_i (y := (nI (ki j))) rfl ?_
  refine tp_i (y := (cntS (S j) 0)) (by rw [p1, hSj]; rfl) ?_
  refine lv_goto (tgt := 95) hx hb d_M_count_58 (by decide) ?_
  exact mx_iret hx hb hr hlk d_M_count_95 (Nat.le_of_ble_eq_true rfl) (Nat.le_of_ble_eq_true rfl) hS.2.2 (⟨rfl, ki, ka, kb, zs, pu, ce, pa, tr, so, pl, ot, hP, hpic⟩)

set_option maxHeartbeats 4000000 in
set_option maxRecDepth 100000 in
theorem c_M_count_3_1 {l : Launch} {s0 : State} {D : va_G} {cI cF cJ : ClassId} (G : Gx l s0 D cI cF cJ) (hm a1 a2 a3 a4 a5 a6 a7 a8 a9 a10 a11 : Nat) (th : Int32) (S : Nat → FS) (j A B n : Nat) (hd pv : Int32) (cs f : Nat → Nat) {H0 : Heap} {A0 : Nat → Prop} (hM : MP D cI hm a1 a2 a3 a4 a5 a6 a7 a8 a9 a10 a11 th S H0) (hD : va_D A0 (adM hm a1 a2 a3 a4 a5 a6 a7 a8 a9 a10 a11)) (hok : ∀ i, i < 4 → okS (S i)) (hj : j < 4) (hSj : S j = (3, A, B, hd, pv, cs, n, f)) : Mx l s0 y_M_count (.code y_M_count b_M_count 7 (some .int)) { frames := 7, cells := 0, slots := 0, locals := 170 } [.ref hm, .int (nI j), .int (nI 1)] H0 (Aa [hm, a1, a2, a3, a4, a5, a6, a7, a8, a9, a10, a11] H0.size) (Rw (.int (cntS (S j) 1)) (fun H1 => MP D cI hm a1 a2 a3 a4 a5 a6 a7 a8 a9 a10 a11 (nI 0) S H1)) := by
  refine Mx.ofW (own := "FewBitsModel") rfl rfl ?_
  rintro p e s m below meth c ⟨hx, hb, hml, hr, hown, hW, hlk⟩ hnm het hH
  have hK := G.k hW
  have hD0 := hD
  obtain ⟨ki, ka, kb, zs, pu, ce, pa, tr, so, pl, ot, hP, hpic⟩ := hM
  have hD : va_D (Aa [hm, a1, a2, a3, a4, a5, a6, a7, a8, a9, a10, a11] H0.size) [(hm, .inr (4, [.int th, .ref a1, .ref a2, .ref a3, .ref a4, .ref a5, .ref a6, .ref a7, .ref a8, .ref a9, .ref a10, .ref a11])), (a1, aN cI 4 ki), (a2, aN cI 4 ka), (a3, aN cI 4 kb), (a4, aI cI 4 zs), (a5, aI cI 4 pu), (a6, aN cI 4096 ce), (a7, aN cI 1024 pa), (a8, aN cI 1024 tr), (a9, aI cI 256 so), (a10, aN cI 6 pl), (a11, aN cI 6 ot)] := va_D.same2 [hm, a1, a2, a3, a4, a5, a6, a7, a8, a9, a10, a11] (hD.aa (sz := H0.size)) rfl rfl
  have hS : va_S (Aa [hm, a1, a2, a3, a4, a5, a6, a7, a8, a9, a10, a11] H0.size) H0 H0 [] := va_S.rf
  have hpj := hpic j hj
  rw [hSj] at hpj
  obtain ⟨p1, p2, p3, p4, p5, p6⟩ := hpj.f3
  have hoj := hok j hj
  rw [hSj] at hoj
  have hq := (okS_3.mp hoj).1
  have hhd := (okS_3.mp hoj).2
  have p4n : zs j = nI n := by rw [p4, hhd]
  have hqA : A ≤ 8 := hq.2.1
  have hqB : B ≤ 20 := hq.2.2.2.1
  have h0 : (S j).1 ≠ 0 := by rw [hSj]; exact (by decide : 3 ≠ 0)
  have h8 := p2_le hqA
  have hnn := hq.n
  have hsr := hq.2.2.2.2.2.1
  have hl := lv_entry ([.ref hm, .int (nI j), .int (nI 1)]) (n := 7) (Nat.le_of_ble_eq_true rfl)
  rw [lg_entry_eq]
  generalize (lg_sl ([.ref hm, .int (nI j), .int (nI 1)]) ++ List.replicate (7 - (lg_sl ([.ref hm, .int (nI j), .int (nI 1)])).length) Slot.unset).toArray = ls at hl ⊢
  have hl : lv_has ls 7 [(0, .ref hm), (1, .int (nI j)), (2, .int (nI 1))] := hl
  refine lv_aload_n hx hb d_M_count_0 rfl (lv_at hl 0 rfl) ?_
  refine lv_aload_n hx hb d_M_count_1 rfl (lv_at hl 0 rfl) ?_
  refine lv_iload_n hx hb d_M_count_2 rfl (lv_at hl 1 rfl) ?_
  refine mx_callR (r := .int (nI (if (S j).1 = 0 then 2 else 0))) (c_M_wrg G hm a1 a2 a3 a4 a5 a6 a7 a8 a9 a10 a11 th S j ⟨ki, ka, kb, zs, pu, ce, pa, tr, so, pl, ot, hP, hpic⟩ hD0 hok hj) hW (iv_M_count_3 G hx hb hown hW (va_recv hK hP (ci := 4) (q0 := 0) rfl rfl) [.int (nI j)] [.ref hm] rfl) hml hl.1 (by rw [hb]; exact d_M_count_3) (cd_M_wrong G hW) ⟨Nat.le_of_ble_eq_true rfl, Nat.le_of_ble_eq_true rfl⟩ rfl rfl (Nat.le_of_ble_eq_true rfl) (Nat.le_of_ble_eq_true rfl) (Nat.le_of_ble_eq_true rfl) ?_
  refine tp_i (y := (nI 0)) (by rw [if_neg h0]) ?_
  refine lv_if_le (tgt := 17) hx hb d_M_count_6 (by decide) (fun c_6 => ?_) (fun c_6 => absurd (by decide) c_6)
  refine lv_iload_n hx hb d_M_count_17 rfl (lv_at hl 2 rfl) ?_
  refine lv_if_lt (tgt := 26) hx hb d_M_count_18 (by decide) (fun c_18 => absurd c_18 (by decide)) (fun c_18 => ?_)
  refine lv_iload_n hx hb d_M_count_21 rfl (lv_at hl 2 rfl) ?_
  refine lv_iconst (v := (nI 5)) hx hb d_M_count_22 (by decide) ?_
  refine lv_icmp_le (tgt := 30) hx hb d_M_count_23 (by decide) (fun c_23 => ?_) (fun c_23 => absurd (by decide) c_23)
  refine lv_iconst (v := (nI 0)) hx hb d_M_count_30 (by decide) ?_
  refine va_put (D := D) (ci := 4) (v := .int (nI 0)) (ty := .int) (C := R_M) (T := T_M) (N := 12) hx hb (us_M G hW) (fun _ h => h) t_M to_M nm_M hown hK hP hD hS 0 rfl rfl 0 (by decide) (fl_M_43 G hW) (fun _ h9 => h9) rfl (by decide +kernel) rfl rfl (Nat.le_of_ble_eq_true rfl) d_M_count_31 (fun H locs hP hD hS => ?_)
  have hP : va_P D vcl [(hm, .inr (4, [.int (nI 0), .ref a1, .ref a2, .ref a3, .ref a4, .ref a5, .ref a6, .ref a7, .ref a8, .ref a9, .ref a10, .ref a11])), (a1, aN cI 4 ki), (a2, aN cI 4 ka), (a3, aN cI 4 kb), (a4, aI cI 4 zs), (a5, aI cI 4 pu), (a6, aN cI 4096 ce), (a7, aN cI 1024 pa), (a8, aN cI 1024 tr), (a9, aI cI 256 so), (a10, aN cI 6 pl), (a11, aN cI 6 ot)] H := hP
  have hD : va_D (Aa [hm, a1, a2, a3, a4, a5, a6, a7, a8, a9, a10, a11] H0.size) [(hm, .inr (4, [.int (nI 0), .ref a1, .ref a2, .ref a3, .ref a4, .ref a5, .ref a6, .ref a7, .ref a8, .ref a9, .ref a10, .ref a11])), (a1, aN cI 4 ki), (a2, aN cI 4 ka), (a3, aN cI 4 kb), (a4, aI cI 4 zs), (a5, aI cI 4 pu), (a6, aN cI 4096 ce), (a7, aN cI 1024 pa), (a8, aN cI 1024 tr), (a9, aI cI 256 so), (a10, aN cI 6 pl), (a11, aN cI 6 ot)] := hD
  refine lv_aload_n hx hb d_M_count_34 rfl (lv_at hl 0 rfl) ?_
  refine va_get (D := D) (ci := 4) (v := .int (nI 0)) (C := R_M) (T := T_M) (N := 12) hx hb (us_M G hW) (fun _ h => h) hown hK hP 0 rfl rfl 0 (by decide) (fl_M_43 G hW) (fun _ h9 => h9) rfl d_M_count_35 ?_
  refine lv_if_le (tgt := 43) hx hb d_M_count_38 (by decide) (fun c_38 => ?_) (fun c_38 => absurd (by decide) c_38)
  refine lv_iload_n hx hb d_M_count_43 rfl (lv_at hl 2 rfl) ?_
  refine lv_iconst (v := (nI 4)) hx hb d_M_count_44 (by decide) ?_
  refine lv_icmp_ge (tgt := 96) hx hb d_M_count_45 (by decide) (fun c_45 => absurd c_45 (by decide)) (fun c_45 => ?_)
  refine lv_iload_n hx hb d_M_count_48 rfl (lv_at hl 2 rfl) ?_
  refine lv_if_ne (tgt := 61) hx hb d_M_count_49 (by decide) (fun c_49 => ?_) (fun c_49 => absurd c_49 (by decide))
  refine lv_iload_n hx hb d_M_count_61 rfl (lv_at hl 2 rfl) ?_
  refine lv_iconst (v := (nI 1)) hx hb d_M_count_62 (by decide) ?_
  refine lv_icmp_ne (tgt := 75) hx hb d_M_count_63 (by decide) (fun c_63 => absurd (rfl) c_63) (fun c_63 => ?_)
  refine lv_aload_n hx hb d_M_count_66 rfl (lv_at hl 0 rfl) ?_
  refine va_get (D := D) (ci := 4) (v := .ref a2) (C := R_M) (T := T_M) (N := 12) hx hb (us_M G hW) (fun _ h => h) hown hK hP 0 rfl rfl 2 (by decide) (fl_M_13 G hW) (fun _ h9 => h9) rfl d_M_count_67 ?_
  refine lv_iload_n hx hb d_M_count_70 rfl (lv_at hl 1 rfl) ?_
  refine ia_ld hx hb hK hP 2 (j := j) rfl (hj) (by decide) d_M_count_71 ?_
  refine tp_i (y := (nI (ka j))) rfl ?_
  refine tp_i (y := (cntS (S j) 1)) (by rw [p2, hSj]; rfl) ?_
  refine lv_goto (tgt := 95) hx hb d_M_count_72 (by decide) ?_
  exact mx_iret hx hb hr hlk d_M_count_95 (Nat.le_of_ble_eq_true rfl) (Nat.le_of_ble_eq_true rfl) hS.2.2 (⟨rfl, ki, ka, kb, zs, pu, ce, pa, tr, so, pl, ot, hP, hpic⟩)

set_option maxHeartbeats 4000000 in
set_option maxRecDepth 100000 in
theorem c_M_count_3_2 {l : Launch} {s0 : State} {D : va_G} {cI cF cJ : ClassId} (G : Gx l s0 D cI cF cJ) (hm a1 a2 a3 a4 a5 a6 a7 a8 a9 a10 a11 : Nat) (th : Int32) (S : Nat → FS) (j A B n : Nat) (hd pv : Int32) (cs f : Nat → Nat) {H0 : Heap} {A0 : Nat → Prop} (hM : MP D cI hm a1 a2 a3 a4 a5 a6 a7 a8 a9 a10 a11 th S H0) (hD : va_D A0 (adM hm a1 a2 a3 a4 a5 a6 a7 a8 a9 a10 a11)) (hok : ∀ i, i < 4 → okS (S i)) (hj : j < 4) (hSj : S j = (3, A, B, hd, pv, cs, n, f)) : Mx l s0 y_M_count (.code y_M_count b_M_count 7 (some .int)) { frames := 7, cells := 0, slots := 0, locals := 170 } [.ref hm, .int (nI j), .int (nI 2)] H0 (Aa [hm, a1, a2, a3, a4, a5, a6, a7, a8, a9, a10, a11] H0.size) (Rw (.int (cntS (S j) 2)) (fun H1 => MP D cI hm a1 a2 a3 a4 a5 a6 a7 a8 a9 a10 a11 (nI 0) S H1)) := by
  refine Mx.ofW (own := "FewBitsModel") rfl rfl ?_
  rintro p e s m below meth c ⟨hx, hb, hml, hr, hown, hW, hlk⟩ hnm het hH
  have hK := G.k hW
  have hD0 := hD
  obtain ⟨ki, ka, kb, zs, pu, ce, pa, tr, so, pl, ot, hP, hpic⟩ := hM
  have hD : va_D (Aa [hm, a1, a2, a3, a4, a5, a6, a7, a8, a9, a10, a11] H0.size) [(hm, .inr (4, [.int th, .ref a1, .ref a2, .ref a3, .ref a4, .ref a5, .ref a6, .ref a7, .ref a8, .ref a9, .ref a10, .ref a11])), (a1, aN cI 4 ki), (a2, aN cI 4 ka), (a3, aN cI 4 kb), (a4, aI cI 4 zs), (a5, aI cI 4 pu), (a6, aN cI 4096 ce), (a7, aN cI 1024 pa), (a8, aN cI 1024 tr), (a9, aI cI 256 so), (a10, aN cI 6 pl), (a11, aN cI 6 ot)] := va_D.same2 [hm, a1, a2, a3, a4, a5, a6, a7, a8, a9, a10, a11] (hD.aa (sz := H0.size)) rfl rfl
  have hS : va_S (Aa [hm, a1, a2, a3, a4, a5, a6, a7, a8, a9, a10, a11] H0.size) H0 H0 [] := va_S.rf
  have hpj := hpic j hj
  rw [hSj] at hpj
  obtain ⟨p1, p2, p3, p4, p5, p6⟩ := hpj.f3
  have hoj := hok j hj
  rw [hSj] at hoj
  have hq := (okS_3.mp hoj).1
  have hhd := (okS_3.mp hoj).2
  have p4n : zs j = nI n := by rw [p4, hhd]
  have hqA : A ≤ 8 := hq.2.1
  have hqB : B ≤ 20 := hq.2.2.2.1
  have h0 : (S j).1 ≠ 0 := by rw [hSj]; exact (by decide : 3 ≠ 0)
  have h8 := p2_le hqA
  have hnn := hq.n
  have hsr := hq.2.2.2.2.2.1
  have hl := lv_entry ([.ref hm, .int (nI j), .int (nI 2)]) (n := 7) (Nat.le_of_ble_eq_true rfl)
  rw [lg_entry_eq]
  generalize (lg_sl ([.ref hm, .int (nI j), .int (nI 2)]) ++ List.replicate (7 - (lg_sl ([.ref hm, .int (nI j), .int (nI 2)])).length) Slot.unset).toArray = ls at hl ⊢
  have hl : lv_has ls 7 [(0, .ref hm), (1, .int (nI j)), (2, .int (nI 2))] := hl
  refine lv_aload_n hx hb d_M_count_0 rfl (lv_at hl 0 rfl) ?_
  refine lv_aload_n hx hb d_M_count_1 rfl (lv_at hl 0 rfl) ?_
  refine lv_iload_n hx hb d_M_count_2 rfl (lv_at hl 1 rfl) ?_
  refine mx_callR (r := .int (nI (if (S j).1 = 0 then 2 else 0))) (c_M_wrg G hm a1 a2 a3 a4 a5 a6 a7 a8 a9 a10 a11 th S j ⟨ki, ka, kb, zs, pu, ce, pa, tr, so, pl, ot, hP, hpic⟩ hD0 hok hj) hW (iv_M_count_3 G hx hb hown hW (va_recv hK hP (ci := 4) (q0 := 0) rfl rfl) [.int (nI j)] [.ref hm] rfl) hml hl.1 (by rw [hb]; exact d_M_count_3) (cd_M_wrong G hW) ⟨Nat.le_of_ble_eq_true rfl, Nat.le_of_ble_eq_true rfl⟩ rfl rfl (Nat.le_of_ble_eq_true rfl) (Nat.le_of_ble_eq_true rfl) (Nat.le_of_ble_eq_true rfl) ?_
  refine tp_i (y := (nI 0)) (by rw [if_neg h0]) ?_
  refine lv_if_le (tgt := 17) hx hb d_M_count_6 (by decide) (fun c_6 => ?_) (fun c_6 => absurd (by decide) c_6)
  refine lv_iload_n hx hb d_M_count_17 rfl (lv_at hl 2 rfl) ?_
  refine lv_if_lt (tgt := 26) hx hb d_M_count_18 (by decide) (fun c_18 => absurd c_18 (by decide)) (fun c_18 => ?_)
  refine lv_iload_n hx hb d_M_count_21 rfl (lv_at hl 2 rfl) ?_
  refine lv_iconst (v := (nI 5)) hx hb d_M_count_22 (by decide) ?_
  refine lv_icmp_le (tgt := 30) hx hb d_M_count_23 (by decide) (fun c_23 => ?_) (fun c_23 => absurd (by decide) c_23)
  refine lv_iconst (v := (nI 0)) hx hb d_M_count_30 (by decide) ?_
  refine va_put (D := D) (ci := 4) (v := .int (nI 0)) (ty := .int) (C := R_M) (T := T_M) (N := 12) hx hb (us_M G hW) (fun _ h => h) t_M to_M nm_M hown hK hP hD hS 0 rfl rfl 0 (by decide) (fl_M_43 G hW) (fun _ h9 => h9) rfl (by decide +kernel) rfl rfl (Nat.le_of_ble_eq_true rfl) d_M_count_31 (fun H locs hP hD hS => ?_)
  have hP : va_P D vcl [(hm, .inr (4, [.int (nI 0), .ref a1, .ref a2, .ref a3, .ref a4, .ref a5, .ref a6, .ref a7, .ref a8, .ref a9, .ref a10, .ref a11])), (a1, aN cI 4 ki), (a2, aN cI 4 ka), (a3, aN cI 4 kb), (a4, aI cI 4 zs), (a5, aI cI 4 pu), (a6, aN cI 4096 ce), (a7, aN cI 1024 pa), (a8, aN cI 1024 tr), (a9, aI cI 256 so), (a10, aN cI 6 pl), (a11, aN cI 6 ot)] H := hP
  have hD : va_D (Aa [hm, a1, a2, a3, a4, a5, a6, a7, a8, a9, a10, a11] H0.size) [(hm, .inr (4, [.int (nI 0), .ref a1, .ref a2, .ref a3, .ref a4, .ref a5, .ref a6, .ref a7, .ref a8, .ref a9, .ref a10, .ref a11])), (a1, aN cI 4 ki), (a2, aN cI 4 ka), (a3, aN cI 4 kb), (a4, aI cI 4 zs), (a5, aI cI 4 pu), (a6, aN cI 4096 ce), (a7, aN cI 1024 pa), (a8, aN cI 1024 tr), (a9, aI cI 256 so), (a10, aN cI 6 pl), (a11, aN cI 6 ot)] := hD
  refine lv_aload_n hx hb d_M_count_34 rfl (lv_at hl 0 rfl) ?_
  refine va_get (D := D) (ci := 4) (v := .int (nI 0)) (C := R_M) (T := T_M) (N := 12) hx hb (us_M G hW) (fun _ h => h) hown hK hP 0 rfl rfl 0 (by decide) (fl_M_43 G hW) (fun _ h9 => h9) rfl d_M_count_35 ?_
  refine lv_if_le (tgt := 43) hx hb d_M_count_38 (by decide) (fun c_38 => ?_) (fun c_38 => absurd (by decide) c_38)
  refine lv_iload_n hx hb d_M_count_43 rfl (lv_at hl 2 rfl) ?_
  refine lv_iconst (v := (nI 4)) hx hb d_M_count_44 (by decide) ?_
  refine lv_icmp_ge (tgt := 96) hx hb d_M_count_45 (by decide) (fun c_45 => absurd c_45 (by decide)) (fun c_45 => ?_)
  refine lv_iload_n hx hb d_M_count_48 rfl (lv_at hl 2 rfl) ?_
  refine lv_if_ne (tgt := 61) hx hb d_M_count_49 (by decide) (fun c_49 => ?_) (fun c_49 => absurd c_49 (by decide))
  refine lv_iload_n hx hb d_M_count_61 rfl (lv_at hl 2 rfl) ?_
  refine lv_iconst (v := (nI 1)) hx hb d_M_count_62 (by decide) ?_
  refine lv_icmp_ne (tgt := 75) hx hb d_M_count_63 (by decide) (fun c_63 => ?_) (fun c_63 => absurd c_63 (by decide))
  refine lv_iload_n hx hb d_M_count_75 rfl (lv_at hl 2 rfl) ?_
  refine lv_iconst (v := (nI 2)) hx hb d_M_count_76 (by decide) ?_
  refine lv_icmp_ne (tgt := 89) hx hb d_M_count_77 (by decide) (fun c_77 => absurd (rfl) c_77) (fun c_77 => ?_)
  refine lv_aload_n hx hb d_M_count_80 rfl (lv_at hl 0 rfl) ?_
  refine va_get (D := D) (ci := 4) (v := .ref a3) (C := R_M) (T := T_M) (N := 12) hx hb (us_M G hW) (fun _ h => h) hown hK hP 0 rfl rfl 3 (by decide) (fl_M_16 G hW) (fun _ h9 => h9) rfl d_M_count_81 ?_
  refine lv_iload_n hx hb d_M_count_84 rfl (lv_at hl 1 rfl) ?_
  refine ia_ld hx hb hK hP 3 (j := j) rfl (hj) (by decide) d_M_count_85 ?_
  refine tp_i (y := (nI (kb j))) rfl ?_
  refine tp_i (y := (cntS (S j) 2)) (by rw [p3, hSj]; rfl) ?_
  refine lv_goto (tgt := 95) hx hb d_M_count_86 (by decide) ?_
  exact mx_iret hx hb hr hlk d_M_count_95 (Nat.le_of_ble_eq_true rfl) (Nat.le_of_ble_eq_true rfl) hS.2.2 (⟨rfl, ki, ka, kb, zs, pu, ce, pa, tr, so, pl, ot, hP, hpic⟩)

set_option maxHeartbeats 4000000 in
set_option maxRecDepth 100000 in
theorem c_M_count_3_3 {l : Launch} {s0 : State} {D : va_G} {cI cF cJ : ClassId} (G : Gx l s0 D cI cF cJ) (hm a1 a2 a3 a4 a5 a6 a7 a8 a9 a10 a11 : Nat) (th : Int32) (S : Nat → FS) (j A B n : Nat) (hd pv : Int32) (cs f : Nat → Nat) {H0 : Heap} {A0 : Nat → Prop} (hM : MP D cI hm a1 a2 a3 a4 a5 a6 a7 a8 a9 a10 a11 th S H0) (hD : va_D A0 (adM hm a1 a2 a3 a4 a5 a6 a7 a8 a9 a10 a11)) (hok : ∀ i, i < 4 → okS (S i)) (hj : j < 4) (hSj : S j = (3, A, B, hd, pv, cs, n, f)) : Mx l s0 y_M_count (.code y_M_count b_M_count 7 (some .int)) { frames := 7, cells := 0, slots := 0, locals := 170 } [.ref hm, .int (nI j), .int (nI 3)] H0 (Aa [hm, a1, a2, a3, a4, a5, a6, a7, a8, a9, a10, a11] H0.size) (Rw (.int (cntS (S j) 3)) (fun H1 => MP D cI hm a1 a2 a3 a4 a5 a6 a7 a8 a9 a10 a11 (nI 0) S H1)) := by
  refine Mx.ofW (own := "FewBitsModel") rfl rfl ?_
  rintro p e s m below meth c ⟨hx, hb, hml, hr, hown, hW, hlk⟩ hnm het hH
  have hK := G.k hW
  have hD0 := hD
  obtain ⟨ki, ka, kb, zs, pu, ce, pa, tr, so, pl, ot, hP, hpic⟩ := hM
  have hD : va_D (Aa [hm, a1, a2, a3, a4, a5, a6, a7, a8, a9, a10, a11] H0.size) [(hm, .inr (4, [.int th, .ref a1, .ref a2, .ref a3, .ref a4, .ref a5, .ref a6, .ref a7, .ref a8, .ref a9, .ref a10, .ref a11])), (a1, aN cI 4 ki), (a2, aN cI 4 ka), (a3, aN cI 4 kb), (a4, aI cI 4 zs), (a5, aI cI 4 pu), (a6, aN cI 4096 ce), (a7, aN cI 1024 pa), (a8, aN cI 1024 tr), (a9, aI cI 256 so), (a10, aN cI 6 pl), (a11, aN cI 6 ot)] := va_D.same2 [hm, a1, a2, a3, a4, a5, a6, a7, a8, a9, a10, a11] (hD.aa (sz := H0.size)) rfl rfl
  have hS : va_S (Aa [hm, a1, a2, a3, a4, a5, a6, a7, a8, a9, a10, a11] H0.size) H0 H0 [] := va_S.rf
  have hpj := hpic j hj
  rw [hSj] at hpj
  obtain ⟨p1, p2, p3, p4, p5, p6⟩ := hpj.f3
  have hoj := hok j hj
  rw [hSj] at hoj
  have hq := (okS_3.mp hoj).1
  have hhd := (okS_3.mp hoj).2
  have p4n : zs j = nI n := by rw [p4, hhd]
  have hqA : A ≤ 8 := hq.2.1
  have hqB : B ≤ 20 := hq.2.2.2.1
  have h0 : (S j).1 ≠ 0 := by rw [hSj]; exact (by decide : 3 ≠ 0)
  have h8 := p2_le hqA
  have hnn := hq.n
  have hsr := hq.2.2.2.2.2.1
  have hl := lv_entry ([.ref hm, .int (nI j), .int (nI 3)]) (n := 7) (Nat.le_of_ble_eq_true rfl)
  rw [lg_entry_eq]
  generalize (lg_sl ([.ref hm, .int (nI j), .int (nI 3)]) ++ List.replicate (7 - (lg_sl ([.ref hm, .int (nI j), .int (nI 3)])).length) Slot.unset).toArray = ls at hl ⊢
  have hl : lv_has ls 7 [(0, .ref hm), (1, .int (nI j)), (2, .int (nI 3))] := hl
  refine lv_aload_n hx hb d_M_count_0 rfl (lv_at hl 0 rfl) ?_
  refine lv_aload_n hx hb d_M_count_1 rfl (lv_at hl 0 rfl) ?_
  refine lv_iload_n hx hb d_M_count_2 rfl (lv_at hl 1 rfl) ?_
  refine mx_callR (r := .int (nI (if (S j).1 = 0 then 2 else 0))) (c_M_wrg G hm a1 a2 a3 a4 a5 a6 a7 a8 a9 a10 a11 th S j ⟨ki, ka, kb, zs, pu, ce, pa, tr, so, pl, ot, hP, hpic⟩ hD0 hok hj) hW (iv_M_count_3 G hx hb hown hW (va_recv hK hP (ci := 4) (q0 := 0) rfl rfl) [.int (nI j)] [.ref hm] rfl) hml hl.1 (by rw [hb]; exact d_M_count_3) (cd_M_wrong G hW) ⟨Nat.le_of_ble_eq_true rfl, Nat.le_of_ble_eq_true rfl⟩ rfl rfl (Nat.le_of_ble_eq_true rfl) (Nat.le_of_ble_eq_true rfl) (Nat.le_of_ble_eq_true rfl) ?_
  refine tp_i (y := (nI 0)) (by rw [if_neg h0]) ?_
  refine lv_if_le (tgt := 17) hx hb d_M_count_6 (by decide) (fun c_6 => ?_) (fun c_6 => absurd (by decide) c_6)
  refine lv_iload_n hx hb d_M_count_17 rfl (lv_at hl 2 rfl) ?_
  refine lv_if_lt (tgt := 26) hx hb d_M_count_18 (by decide) (fun c_18 => absurd c_18 (by decide)) (fun c_18 => ?_)
  refine lv_iload_n hx hb d_M_count_21 rfl (lv_at hl 2 rfl) ?_
  refine lv_iconst (v := (nI 5)) hx hb d_M_count_22 (by decide) ?_
  refine lv_icmp_le (tgt := 30) hx hb d_M_count_23 (by decide) (fun c_23 => ?_) (fun c_23 => absurd (by decide) c_23)
  refine lv_iconst (v := (nI 0)) hx hb d_M_count_30 (by decide) ?_
  refine va_put (D := D) (ci := 4) (v := .int (nI 0)) (ty := .int) (C := R_M) (T := T_M) (N := 12) hx hb (us_M G hW) (fun _ h => h) t_M to_M nm_M hown hK hP hD hS 0 rfl rfl 0 (by decide) (fl_M_43 G hW) (fun _ h9 => h9) rfl (by decide +kernel) rfl rfl (Nat.le_of_ble_eq_true rfl) d_M_count_31 (fun H locs hP hD hS => ?_)
  have hP : va_P D vcl [(hm, .inr (4, [.int (nI 0), .ref a1, .ref a2, .ref a3, .ref a4, .ref a5, .ref a6, .ref a7, .ref a8, .ref a9, .ref a10, .ref a11])), (a1, aN cI 4 ki), (a2, aN cI 4 ka), (a3, aN cI 4 kb), (a4, aI cI 4 zs), (a5, aI cI 4 pu), (a6, aN cI 4096 ce), (a7, aN cI 1024 pa), (a8, aN cI 1024 tr), (a9, aI cI 256 so), (a10, aN cI 6 pl), (a11, aN cI 6 ot)] H := hP
  have hD : va_D (Aa [hm, a1, a2, a3, a4, a5, a6, a7, a8, a9, a10, a11] H0.size) [(hm, .inr (4, [.int (nI 0), .ref a1, .ref a2, .ref a3, .ref a4, .ref a5, .ref a6, .ref a7, .ref a8, .ref a9, .ref a10, .ref a11])), (a1, aN cI 4 ki), (a2, aN cI 4 ka), (a3, aN cI 4 kb), (a4, aI cI 4 zs), (a5, aI cI 4 pu), (a6, aN cI 4096 ce), (a7, aN cI 1024 pa), (a8, aN cI 1024 tr), (a9, aI cI 256 so), (a10, aN cI 6 pl), (a11, aN cI 6 ot)] := hD
  refine lv_aload_n hx hb d_M_count_34 rfl (lv_at hl 0 rfl) ?_
  refine va_get (D := D) (ci := 4) (v := .int (nI 0)) (C := R_M) (T := T_M) (N := 12) hx hb (us_M G hW) (fun _ h => h) hown hK hP 0 rfl rfl 0 (by decide) (fl_M_43 G hW) (fun _ h9 => h9) rfl d_M_count_35 ?_
  refine lv_if_le (tgt := 43) hx hb d_M_count_38 (by decide) (fun c_38 => ?_) (fun c_38 => absurd (by decide) c_38)
  refine lv_iload_n hx hb d_M_count_43 rfl (lv_at hl 2 rfl) ?_
  refine lv_iconst (v := (nI 4)) hx hb d_M_count_44 (by decide) ?_
  refine lv_icmp_ge (tgt := 96) hx hb d_M_count_45 (by decide) (fun c_45 => absurd c_45 (by decide)) (fun c_45 => ?_)
  refine lv_iload_n hx hb d_M_count_48 rfl (lv_at hl 2 rfl) ?_
  refine lv_if_ne (tgt := 61) hx hb d_M_count_49 (by decide) (fun c_49 => ?_) (fun c_49 => absurd c_49 (by decide))
  refine lv_iload_n hx hb d_M_count_61 rfl (lv_at hl 2 rfl) ?_
  refine lv_iconst (v := (nI 1)) hx hb d_M_count_62 (by decide) ?_
  refine lv_icmp_ne (tgt := 75) hx hb d_M_count_63 (by decide) (fun c_63 => ?_) (fun c_63 => absurd c_63 (by decide))
  refine lv_iload_n hx hb d_M_count_75 rfl (lv_at hl 2 rfl) ?_
  refine lv_iconst (v := (nI 2)) hx hb d_M_count_76 (by decide) ?_
  refine lv_icmp_ne (tgt := 89) hx hb d_M_count_77 (by decide) (fun c_77 => ?_) (fun c_77 => absurd c_77 (by decide))
  refine lv_aload_n hx hb d_M_count_89 rfl (lv_at hl 0 rfl) ?_
  refine va_get (D := D) (ci := 4) (v := .ref a4) (C := R_M) (T := T_M) (N := 12) hx hb (us_M G hW) (fun _ h => h) hown hK hP 0 rfl rfl 4 (by decide) (fl_M_19 G hW) (fun _ h9 => h9) rfl d_M_count_90 ?_
  refine lv_iload_n hx hb d_M_count_93 rfl (lv_at hl 1 rfl) ?_
  refine ia_ld hx hb hK hP 4 (j := j) rfl (hj) (by decide) d_M_count_94 ?_
  refine tp_i (y := (cntS (S j) 3)) (by rw [p4, hSj]; rfl) ?_
  exact mx_iret hx hb hr hlk d_M_count_95 (Nat.le_of_ble_eq_true rfl) (Nat.le_of_ble_eq_true rfl) hS.2.2 (⟨rfl, ki, ka, kb, zs, pu, ce, pa, tr, so, pl, ot, hP, hpic⟩)

set_option maxHeartbeats 4000000 in
set_option maxRecDepth 100000 in
theorem c_M_count_3_4 {l : Launch} {s0 : State} {D : va_G} {cI cF cJ : ClassId} (G : Gx l s0 D cI cF cJ) (hm a1 a2 a3 a4 a5 a6 a7 a8 a9 a10 a11 : Nat) (th : Int32) (S : Nat → FS) (j A B n : Nat) (hd pv : Int32) (cs f : Nat → Nat) {H0 : Heap} {A0 : Nat → Prop} (hM : MP D cI hm a1 a2 a3 a4 a5 a6 a7 a8 a9 a10 a11 th S H0) (hD : va_D A0 (adM hm a1 a2 a3 a4 a5 a6 a7 a8 a9 a10 a11)) (hok : ∀ i, i < 4 → okS (S i)) (hj : j < 4) (hSj : S j = (3, A, B, hd, pv, cs, n, f)) : Mx l s0 y_M_count (.code y_M_count b_M_count 7 (some .int)) { frames := 7, cells := 0, slots := 0, locals := 170 } [.ref hm, .int (nI j), .int (nI 4)] H0 (Aa [hm, a1, a2, a3, a4, a5, a6, a7, a8, a9, a10, a11] H0.size) (Rw (.int (cntS (S j) 4)) (fun H1 => MP D cI hm a1 a2 a3 a4 a5 a6 a7 a8 a9 a10 a11 (nI 0) S H1)) := by
  refine Mx.ofW (own := "FewBitsModel") rfl rfl ?_
  rintro p e s m below meth c ⟨hx, hb, hml, hr, hown, hW, hlk⟩ hnm het hH
  have hK := G.k hW
  have hD0 := hD
  obtain ⟨ki, ka, kb, zs, pu, ce, pa, tr, so, pl, ot, hP, hpic⟩ := hM
  have hD : va_D (Aa [hm, a1, a2, a3, a4, a5, a6, a7, a8, a9, a10, a11] H0.size) [(hm, .inr (4, [.int th, .ref a1, .ref a2, .ref a3, .ref a4, .ref a5, .ref a6, .ref a7, .ref a8, .ref a9, .ref a10, .ref a11])), (a1, aN cI 4 ki), (a2, aN cI 4 ka), (a3, aN cI 4 kb), (a4, aI cI 4 zs), (a5, aI cI 4 pu), (a6, aN cI 4096 ce), (a7, aN cI 1024 pa), (a8, aN cI 1024 tr), (a9, aI cI 256 so), (a10, aN cI 6 pl), (a11, aN cI 6 ot)] := va_D.same2 [hm, a1, a2, a3, a4, a5, a6, a7, a8, a9, a10, a11] (hD.aa (sz := H0.size)) rfl rfl
  have hS : va_S (Aa [hm, a1, a2, a3, a4, a5, a6, a7, a8, a9, a10, a11] H0.size) H0 H0 [] := va_S.rf
  have hpj := hpic j hj
  rw [hSj] at hpj
  obtain ⟨p1, p2, p3, p4, p5, p6⟩ := hpj.f3
  have hoj := hok j hj
  rw [hSj] at hoj
  have hq := (okS_3.mp hoj).1
  have hhd := (okS_3.mp hoj).2
  have p4n : zs j = nI n := by rw [p4, hhd]
  have hqA : A ≤ 8 := hq.2.1
  have hqB : B ≤ 20 := hq.2.2.2.1
  have h0 : (S j).1 ≠ 0 := by rw [hSj]; exact (by decide : 3 ≠ 0)
  have h8 := p2_le hqA
  have hnn := hq.n
  have hsr := hq.2.2.2.2.2.1
  have hl := lv_entry ([.ref hm, .int (nI j), .int (nI 4)]) (n := 7) (Nat.le_of_ble_eq_true rfl)
  rw [lg_entry_eq]
  generalize (lg_sl ([.ref hm, .int (nI j), .int (nI 4)]) ++ List.replicate (7 - (lg_sl ([.ref hm, .int (nI j), .int (nI 4)])).length) Slot.unset).toArray = ls at hl ⊢
  have hl : lv_has ls 7 [(0, .ref hm), (1, .int (nI j)), (2, .int (nI 4))] := hl
  refine lv_aload_n hx hb d_M_count_0 rfl (lv_at hl 0 rfl) ?_
  refine lv_aload_n hx hb d_M_count_1 rfl (lv_at hl 0 rfl) ?_
  refine lv_iload_n hx hb d_M_count_2 rfl (lv_at hl 1 rfl) ?_
  refine mx_callR (r := .int (nI (if (S j).1 = 0 then 2 else 0))) (c_M_wrg G hm a1 a2 a3 a4 a5 a6 a7 a8 a9 a10 a11 th S j ⟨ki, ka, kb, zs, pu, ce, pa, tr, so, pl, ot, hP, hpic⟩ hD0 hok hj) hW (iv_M_count_3 G hx hb hown hW (va_recv hK hP (ci := 4) (q0 := 0) rfl rfl) [.int (nI j)] [.ref hm] rfl) hml hl.1 (by rw [hb]; exact d_M_count_3) (cd_M_wrong G hW) ⟨Nat.le_of_ble_eq_true rfl, Nat.le_of_ble_eq_true rfl⟩ rfl rfl (Nat.le_of_ble_eq_true rfl) (Nat.le_of_ble_eq_true rfl) (Nat.le_of_ble_eq_true rfl) ?_
  refine tp_i (y := (nI 0)) (by rw [if_neg h0]) ?_
  refine lv_if_le (tgt := 17) hx hb d_M_count_6 (by decide) (fun c_6 => ?_) (fun c_6 => absurd (by decide) c_6)
  refine lv_iload_n hx hb d_M_count_17 rfl (lv_at hl 2 rfl) ?_
  refine lv_if_lt (tgt := 26) hx hb d_M_count_18 (by decide) (fun c_18 => absurd c_18 (by decide)) (fun c_18 => ?_)
  refine lv_iload_n hx hb d_M_count_21 rfl (lv_at hl 2 rfl) ?_
  refine lv_iconst (v := (nI 5)) hx hb d_M_count_22 (by decide) ?_
  refine lv_icmp_le (tgt := 30) hx hb d_M_count_23 (by decide) (fun c_23 => ?_) (fun c_23 => absurd (by decide) c_23)
  refine lv_iconst (v := (nI 0)) hx hb d_M_count_30 (by decide) ?_
  refine va_put (D := D) (ci := 4) (v := .int (nI 0)) (ty := .int) (C := R_M) (T := T_M) (N := 12) hx hb (us_M G hW) (fun _ h => h) t_M to_M nm_M hown hK hP hD hS 0 rfl rfl 0 (by decide) (fl_M_43 G hW) (fun _ h9 => h9) rfl (by decide +kernel) rfl rfl (Nat.le_of_ble_eq_true rfl) d_M_count_31 (fun H locs hP hD hS => ?_)
  have hP : va_P D vcl [(hm, .inr (4, [.int (nI 0), .ref a1, .ref a2, .ref a3, .ref a4, .ref a5, .ref a6, .ref a7, .ref a8, .ref a9, .ref a10, .ref a11])), (a1, aN cI 4 ki), (a2, aN cI 4 ka), (a3, aN cI 4 kb), (a4, aI cI 4 zs), (a5, aI cI 4 pu), (a6, aN cI 4096 ce), (a7, aN cI 1024 pa), (a8, aN cI 1024 tr), (a9, aI cI 256 so), (a10, aN cI 6 pl), (a11, aN cI 6 ot)] H := hP
  have hD : va_D (Aa [hm, a1, a2, a3, a4, a5, a6, a7, a8, a9, a10, a11] H0.size) [(hm, .inr (4, [.int (nI 0), .ref a1, .ref a2, .ref a3, .ref a4, .ref a5, .ref a6, .ref a7, .ref a8, .ref a9, .ref a10, .ref a11])), (a1, aN cI 4 ki), (a2, aN cI 4 ka), (a3, aN cI 4 kb), (a4, aI cI 4 zs), (a5, aI cI 4 pu), (a6, aN cI 4096 ce), (a7, aN cI 1024 pa), (a8, aN cI 1024 tr), (a9, aI cI 256 so), (a10, aN cI 6 pl), (a11, aN cI 6 ot)] := hD
  refine lv_aload_n hx hb d_M_count_34 rfl (lv_at hl 0 rfl) ?_
  refine va_get (D := D) (ci := 4) (v := .int (nI 0)) (C := R_M) (T := T_M) (N := 12) hx hb (us_M G hW) (fun _ h => h) hown hK hP 0 rfl rfl 0 (by decide) (fl_M_43 G hW) (fun _ h9 => h9) rfl d_M_count_35 ?_
  refine lv_if_le (tgt := 43) hx hb d_M_count_38 (by decide) (fun c_38 => ?_) (fun c_38 => absurd (by decide) c_38)
  refine lv_iload_n hx hb d_M_count_43 rfl (lv_at hl 2 rfl) ?_
  refine lv_iconst (v := (nI 4)) hx hb d_M_count_44 (by decide) ?_
  refine lv_icmp_ge (tgt := 96) hx hb d_M_count_45 (by decide) (fun c_45 => ?_) (fun c_45 => absurd (by decide) c_45)
  refine lv_aload_n hx hb d_M_count_96 rfl (lv_at hl 0 rfl) ?_
  refine va_get (D := D) (ci := 4) (v := .ref a1) (C := R_M) (T := T_M) (N := 12) hx hb (us_M G hW) (fun _ h => h) hown hK hP 0 rfl rfl 1 (by decide) (fl_M_7 G hW) (fun _ h9 => h9) rfl d_M_count_97 ?_
  refine lv_iload_n hx hb d_M_count_100 rfl (lv_at hl 1 rfl) ?_
  refine ia_ld hx hb hK hP 1 (j := j) rfl (hj) (by decide) d_M_count_101 ?_
  refine tp_i (y := (nI (ki j))) rfl ?_
  refine tp_i (y := (nI 3)) (by rw [p1]) ?_
  refine lv_iconst (v := (nI 3)) hx hb d_M_count_102 (by decide) ?_
  refine lv_icmp_ne (tgt := 126) hx hb d_M_count_103 (by decide) (fun c_103 => absurd (rfl) c_103) (fun c_103 => ?_)
  refine lv_iload_n hx hb d_M_count_106 rfl (lv_at hl 2 rfl) ?_
  refine lv_iconst (v := (nI 4)) hx hb d_M_count_107 (by decide) ?_
  refine lv_icmp_ne (tgt := 120) hx hb d_M_count_108 (by decide) (fun c_108 => absurd (rfl) c_108) (fun c_108 => ?_)
  refine lv_aload_n hx hb d_M_count_111 rfl (lv_at hl 0 rfl) ?_
  refine va_get (D := D) (ci := 4) (v := .ref a4) (C := R_M) (T := T_M) (N := 12) hx hb (us_M G hW) (fun _ h => h) hown hK hP 0 rfl rfl 4 (by decide) (fl_M_19 G hW) (fun _ h9 => h9) rfl d_M_count_112 ?_
  refine lv_iload_n hx hb d_M_count_115 rfl (lv_at hl 1 rfl) ?_
  refine ia_ld hx hb hK hP 4 (j := j) rfl (hj) (by decide) d_M_count_116 ?_
  refine tp_i (y := (cntS (S j) 4)) (by rw [p4, hSj]; rfl) ?_
  refine lv_goto (tgt := 125) hx hb d_M_count_117 (by decide) ?_
  exact mx_iret hx hb hr hlk d_M_count_125 (Nat.le_of_ble_eq_true rfl) (Nat.le_of_ble_eq_true rfl) hS.2.2 (⟨rfl, ki, ka, kb, zs, pu, ce, pa, tr, _, pl, ot, hP, hpic⟩)

set_option maxHeartbeats 4000000 in
set_option maxRecDepth 100000 in
theorem c_M_count_3_5 {l : Launch} {s0 : State} {D : va_G} {cI cF cJ : ClassId} (G : Gx l s0 D cI cF cJ) (hm a1 a2 a3 a4 a5 a6 a7 a8 a9 a10 a11 : Nat) (th : Int32) (S : Nat → FS) (j A B n : Nat) (hd pv : Int32) (cs f : Nat → Nat) {H0 : Heap} {A0 : Nat → Prop} (hM : MP D cI hm a1 a2 a3 a4 a5 a6 a7 a8 a9 a10 a11 th S H0) (hD : va_D A0 (adM hm a1 a2 a3 a4 a5 a6 a7 a8 a9 a10 a11)) (hok : ∀ i, i < 4 → okS (S i)) (hj : j < 4) (hSj : S j = (3, A, B, hd, pv, cs, n, f)) : Mx l s0 y_M_count (.code y_M_count b_M_count 7 (some .int)) { frames := 7, cells := 0, slots := 0, locals := 170 } [.ref hm, .int (nI j), .int (nI 5)] H0 (Aa [hm, a1, a2, a3, a4, a5, a6, a7, a8, a9, a10, a11] H0.size) (Rw (.int (cntS (S j) 5)) (fun H1 => MP D cI hm a1 a2 a3 a4 a5 a6 a7 a8 a9 a10 a11 (nI 0) S H1)) := by
  refine Mx.ofW (own := "FewBitsModel") rfl rfl ?_
  rintro p e s m below meth c ⟨hx, hb, hml, hr, hown, hW, hlk⟩ hnm het hH
  have hK := G.k hW
  have hD0 := hD
  obtain ⟨ki, ka, kb, zs, pu, ce, pa, tr, so, pl, ot, hP, hpic⟩ := hM
  have hD : va_D (Aa [hm, a1, a2, a3, a4, a5, a6, a7, a8, a9, a10, a11] H0.size) [(hm, .inr (4, [.int th, .ref a1, .ref a2, .ref a3, .ref a4, .ref a5, .ref a6, .ref a7, .ref a8, .ref a9, .ref a10, .ref a11])), (a1, aN cI 4 ki), (a2, aN cI 4 ka), (a3, aN cI 4 kb), (a4, aI cI 4 zs), (a5, aI cI 4 pu), (a6, aN cI 4096 ce), (a7, aN cI 1024 pa), (a8, aN cI 1024 tr), (a9, aI cI 256 so), (a10, aN cI 6 pl), (a11, aN cI 6 ot)] := va_D.same2 [hm, a1, a2, a3, a4, a5, a6, a7, a8, a9, a10, a11] (hD.aa (sz := H0.size)) rfl rfl
  have hS : va_S (Aa [hm, a1, a2, a3, a4, a5, a6, a7, a8, a9, a10, a11] H0.size) H0 H0 [] := va_S.rf
  have hpj := hpic j hj
  rw [hSj] at hpj
  obtain ⟨p1, p2, p3, p4, p5, p6⟩ := hpj.f3
  have hoj := hok j hj
  rw [hSj] at hoj
  have hq := (okS_3.mp hoj).1
  have hhd := (okS_3.mp hoj).2
  have p4n : zs j = nI n := by rw [p4, hhd]
  have hqA : A ≤ 8 := hq.2.1
  have hqB : B ≤ 20 := hq.2.2.2.1
  have h0 : (S j).1 ≠ 0 := by rw [hSj]; exact (by decide : 3 ≠ 0)
  have h8 := p2_le hqA
  have hnn := hq.n
  have hsr := hq.2.2.2.2.2.1
  have hl := lv_entry ([.ref hm, .int (nI j), .int (nI 5)]) (n := 7) (Nat.le_of_ble_eq_true rfl)
  rw [lg_entry_eq]
  generalize (lg_sl ([.ref hm, .int (nI j), .int (nI 5)]) ++ List.replicate (7 - (lg_sl ([.ref hm, .int (nI j), .int (nI 5)])).length) Slot.unset).toArray = ls at hl ⊢
  have hl : lv_has ls 7 [(0, .ref hm), (1, .int (nI j)), (2, .int (nI 5))] := hl
  refine lv_aload_n hx hb d_M_count_0 rfl (lv_at hl 0 rfl) ?_
  refine lv_aload_n hx hb d_M_count_1 rfl (lv_at hl 0 rfl) ?_
  refine lv_iload_n hx hb d_M_count_2 rfl (lv_at hl 1 rfl) ?_
  refine mx_callR (r := .int (nI (if (S j).1 = 0 then 2 else 0))) (c_M_wrg G hm a1 a2 a3 a4 a5 a6 a7 a8 a9 a10 a11 th S j ⟨ki, ka, kb, zs, pu, ce, pa, tr, so, pl, ot, hP, hpic⟩ hD0 hok hj) hW (iv_M_count_3 G hx hb hown hW (va_recv hK hP (ci := 4) (q0 := 0) rfl rfl) [.int (nI j)] [.ref hm] rfl) hml hl.1 (by rw [hb]; exact d_M_count_3) (cd_M_wrong G hW) ⟨Nat.le_of_ble_eq_true rfl, Nat.le_of_ble_eq_true rfl⟩ rfl rfl (Nat.le_of_ble_eq_true rfl) (Nat.le_of_ble_eq_true rfl) (Nat.le_of_ble_eq_true rfl) ?_
  refine tp_i (y := (nI 0)) (by rw [if_neg h0]) ?_
  refine lv_if_le (tgt := 17) hx hb d_M_count_6 (by decide) (fun c_6 => ?_) (fun c_6 => absurd (by decide) c_6)
  refine lv_iload_n hx hb d_M_count_17 rfl (lv_at hl 2 rfl) ?_
  refine lv_if_lt (tgt := 26) hx hb d_M_count_18 (by decide) (fun c_18 => absurd c_18 (by decide)) (fun c_18 => ?_)
  refine lv_iload_n hx hb d_M_count_21 rfl (lv_at hl 2 rfl) ?_
  refine lv_iconst (v := (nI 5)) hx hb d_M_count_22 (by decide) ?_
  refine lv_icmp_le (tgt := 30) hx hb d_M_count_23 (by decide) (fun c_23 => ?_) (fun c_23 => absurd (by decide) c_23)
  refine lv_iconst (v := (nI 0)) hx hb d_M_count_30 (by decide) ?_
  refine va_put (D := D) (ci := 4) (v := .int (nI 0)) (ty := .int) (C := R_M) (T := T_M) (N := 12) hx hb (us_M G hW) (fun _ h => h) t_M to_M nm_M hown hK hP hD hS 0 rfl rfl 0 (by decide) (fl_M_43 G hW) (fun _ h9 => h9) rfl (by decide +kernel) rfl rfl (Nat.le_of_ble_eq_true rfl) d_M_count_31 (fun H locs hP hD hS => ?_)
  have hP : va_P D vcl [(hm, .inr (4, [.int (nI 0), .ref a1, .ref a2, .ref a3, .ref a4, .ref a5, .ref a6, .ref a7, .ref a8, .ref a9, .ref a10, .ref a11])), (a1, aN cI 4 ki), (a2, aN cI 4 ka), (a3, aN cI 4 kb), (a4, aI cI 4 zs), (a5, aI cI 4 pu), (a6, aN cI 4096 ce), (a7, aN cI 1024 pa), (a8, aN cI 1024 tr), (a9, aI cI 256 so), (a10, aN cI 6 pl), (a11, aN cI 6 ot)] H := hP
  have hD : va_D (Aa [hm, a1, a2, a3, a4, a5, a6, a7, a8, a9, a10, a11] H0.size) [(hm, .inr (4, [.int (nI 0), .ref a1, .ref a2, .ref a3, .ref a4, .ref a5, .ref a6, .ref a7, .ref a8, .ref a9, .ref a10, .ref a11])), (a1, aN cI 4 ki), (a2, aN cI 4 ka), (a3, aN cI 4 kb), (a4, aI cI 4 zs), (a5, aI cI 4 pu), (a6, aN cI 4096 ce), (a7, aN cI 1024 pa), (a8, aN cI 1024 tr), (a9, aI cI 256 so), (a10, aN cI 6 pl), (a11, aN cI 6 ot)] := hD
  refine lv_aload_n hx hb d_M_count_34 rfl (lv_at hl 0 rfl) ?_
  refine va_get (D := D) (ci := 4) (v := .int (nI 0)) (C := R_M) (T := T_M) (N := 12) hx hb (us_M G hW) (fun _ h => h) hown hK hP 0 rfl rfl 0 (by decide) (fl_M_43 G hW) (fun _ h9 => h9) rfl d_M_count_35 ?_
  refine lv_if_le (tgt := 43) hx hb d_M_count_38 (by decide) (fun c_38 => ?_) (fun c_38 => absurd (by decide) c_38)
  refine lv_iload_n hx hb d_M_count_43 rfl (lv_at hl 2 rfl) ?_
  refine lv_iconst (v := (nI 4)) hx hb d_M_count_44 (by decide) ?_
  refine lv_icmp_ge (tgt := 96) hx hb d_M_count_45 (by decide) (fun c_45 => ?_) (fun c_45 => absurd (by decide) c_45)
  refine lv_aload_n hx hb d_M_count_96 rfl (lv_at hl 0 rfl) ?_
  refine va_get (D := D) (ci := 4) (v := .ref a1) (C := R_M) (T := T_M) (N := 12) hx hb (us_M G hW) (fun _ h => h) hown hK hP 0 rfl rfl 1 (by decide) (fl_M_7 G hW) (fun _ h9 => h9) rfl d_M_count_97 ?_
  refine lv_iload_n hx hb d_M_count_100 rfl (lv_at hl 1 rfl) ?_
  refine ia_ld hx hb hK hP 1 (j := j) rfl (hj) (by decide) d_M_count_101 ?_
  refine tp_i (y := (nI (ki j))) rfl ?_
  refine tp_i (y := (nI 3)) (by rw [p1]) ?_
  refine lv_iconst (v := (nI 3)) hx hb d_M_count_102 (by decide) ?_
  refine lv_icmp_ne (tgt := 126) hx hb d_M_count_103 (by decide) (fun c_103 => absurd (rfl) c_103) (fun c_103 => ?_)
  refine lv_iload_n hx hb d_M_count_106 rfl (lv_at hl 2 rfl) ?_
  refine lv_iconst (v := (nI 4)) hx hb d_M_count_107 (by decide) ?_
  refine lv_icmp_ne (tgt := 120) hx hb d_M_count_108 (by decide) (fun c_108 => ?_) (fun c_108 => absurd c_108 (by decide))
  refine lv_aload_n hx hb d_M_count_120 rfl (lv_at hl 0 rfl) ?_
  refine lv_iload_n hx hb d_M_count_121 rfl (lv_at hl 1 rfl) ?_
  refine mx_callW (r := .int (nI (bstN (cirF f A B n) (2 ^ A) (2 ^ A)))) (c_M_longestRow G hm a1 a2 a3 a4 a5 a6 a7 a8 a9 a10 a11 (nI 0) ki ka kb zs pu ce pa tr so pl ot j A B n f hP hD hj p2 p3 hq.1 hqA hq.2.2.1 hqB p4n hnn p5 hq.2.2.2.2.2.2) hW (iv_M_count_122 G hx hb hown hW (va_recv hK hP (ci := 4) (q0 := 0) rfl rfl) [.int (nI j)] [] rfl) hml hl.1 (by rw [hb]; exact d_M_count_122) (cd_M_longestRow G hW) ⟨Nat.le_of_ble_eq_true rfl, Nat.le_of_ble_eq_true rfl⟩ (Nat.le_of_ble_eq_true rfl) (Nat.le_of_ble_eq_true rfl) (Nat.le_of_ble_eq_true rfl) hS (Aa.mono (fun _ h => h) hS.1) (fun H locs hP _ _ hS => ?_)
  obtain ⟨so1, hP, hsh⟩ := hP
  have hP : va_P D vcl [(hm, .inr (4, [.int (nI 0), .ref a1, .ref a2, .ref a3, .ref a4, .ref a5, .ref a6, .ref a7, .ref a8, .ref a9, .ref a10, .ref a11])), (a1, aN cI 4 ki), (a2, aN cI 4 ka), (a3, aN cI 4 kb), (a4, aI cI 4 zs), (a5, aI cI 4 pu), (a6, aN cI 4096 ce), (a7, aN cI 1024 pa), (a8, aN cI 1024 tr), (a9, aI cI 256 so1), (a10, aN cI 6 pl), (a11, aN cI 6 ot)] H := hP
  have hD : va_D (Aa [hm, a1, a2, a3, a4, a5, a6, a7, a8, a9, a10, a11] H0.size) [(hm, .inr (4, [.int (nI 0), .ref a1, .ref a2, .ref a3, .ref a4, .ref a5, .ref a6, .ref a7, .ref a8, .ref a9, .ref a10, .ref a11])), (a1, aN cI 4 ki), (a2, aN cI 4 ka), (a3, aN cI 4 kb), (a4, aI cI 4 zs), (a5, aI cI 4 pu), (a6, aN cI 4096 ce), (a7, aN cI 1024 pa), (a8, aN cI 1024 tr), (a9, aI cI 256 so1), (a10, aN cI 6 pl), (a11, aN cI 6 ot)] := va_D.same2 [hm, a1, a2, a3, a4, a5, a6, a7, a8, a9, a10, a11] hD rfl rfl
  refine tp_i (y := (cntS (S j) 5)) (by rw [hSj, bst_lng (Nat.two_pow_pos A)]; rfl) ?_
  exact mx_iret hx hb hr hlk d_M_count_125 (Nat.le_of_ble_eq_true rfl) (Nat.le_of_ble_eq_true rfl) hS.2.2 (⟨rfl, ki, ka, kb, zs, pu, ce, pa, tr, _, pl, ot, hP, hpic⟩)

set_option maxHeartbeats 4000000 in
set_option maxRecDepth 100000 in
theorem c_M_count_out {l : Launch} {s0 : State} {D : va_G} {cI cF cJ : ClassId} (G : Gx l s0 D cI cF cJ) (hm a1 a2 a3 a4 a5 a6 a7 a8 a9 a10 a11 : Nat) (th : Int32) (S : Nat → FS) (j : Nat) (wv : Int32) {H0 : Heap} {A0 : Nat → Prop} (hM : MP D cI hm a1 a2 a3 a4 a5 a6 a7 a8 a9 a10 a11 th S H0) (hD : va_D A0 (adM hm a1 a2 a3 a4 a5 a6 a7 a8 a9 a10 a11)) (hok : ∀ i, i < 4 → okS (S i)) (hj : j < 4) (h0 : (S j).1 ≠ 0) (hw : wv.toInt < 0 ∨ 5 < wv.toInt) : Mx l s0 y_M_count (.code y_M_count b_M_count 7 (some .int)) { frames := 7, cells := 0, slots := 0, locals := 170 } [.ref hm, .int (nI j), .int wv] H0 (Aa [hm, a1, a2, a3, a4, a5, a6, a7, a8, a9, a10, a11] H0.size) (Rw (.int (nI 0)) (fun H1 => MP D cI hm a1 a2 a3 a4 a5 a6 a7 a8 a9 a10 a11 (nI 3) S H1)) := by
  refine Mx.ofW (own := "FewBitsModel") rfl rfl ?_
  rintro p e s m below meth c ⟨hx, hb, hml, hr, hown, hW, hlk⟩ hnm het hH
  have hK := G.k hW
  have hD0 := hD
  obtain ⟨ki, ka, kb, zs, pu, ce, pa, tr, so, pl, ot, hP, hpic⟩ := hM
  have hD : va_D (Aa [hm, a1, a2, a3, a4, a5, a6, a7, a8, a9, a10, a11] H0.size) [(hm, .inr (4, [.int th, .ref a1, .ref a2, .ref a3, .ref a4, .ref a5, .ref a6, .ref a7, .ref a8, .ref a9, .ref a10, .ref a11])), (a1, aN cI 4 ki), (a2, aN cI 4 ka), (a3, aN cI 4 kb), (a4, aI cI 4 zs), (a5, aI cI 4 pu), (a6, aN cI 4096 ce), (a7, aN cI 1024 pa), (a8, aN cI 1024 tr), (a9, aI cI 256 so), (a10, aN cI 6 pl), (a11, aN cI 6 ot)] := va_D.same2 [hm, a1, a2, a3, a4, a5, a6, a7, a8, a9, a10, a11] (hD.aa (sz := H0.size)) rfl rfl
  have hS : va_S (Aa [hm, a1, a2, a3, a4, a5, a6, a7, a8, a9, a10, a11] H0.size) H0 H0 [] := va_S.rf
  have hl := lv_entry ([.ref hm, .int (nI j), .int wv]) (n := 7) (Nat.le_of_ble_eq_true rfl)
  rw [lg_entry_eq]
  generalize (lg_sl ([.ref hm, .int (nI j), .int wv]) ++ List.replicate (7 - (lg_sl ([.ref hm, .int (nI j), .int wv])).length) Slot.unset).toArray = ls at hl ⊢
  have hl : lv_has ls 7 [(0, .ref hm), (1, .int (nI j)), (2, .int wv)] := hl
  refine lv_aload_n hx hb d_M_count_0 rfl (lv_at hl 0 rfl) ?_
  refine lv_aload_n hx hb d_M_count_1 rfl (lv_at hl 0 rfl) ?_
  refine lv_iload_n hx hb d_M_count_2 rfl (lv_at hl 1 rfl) ?_
  refine mx_callR (r := .int (nI (if (S j).1 = 0 then 2 else 0))) (c_M_wrg G hm a1 a2 a3 a4 a5 a6 a7 a8 a9 a10 a11 th S j ⟨ki, ka, kb, zs, pu, ce, pa, tr, so, pl, ot, hP, hpic⟩ hD0 hok hj) hW (iv_M_count_3 G hx hb hown hW (va_recv hK hP (ci := 4) (q0 := 0) rfl rfl) [.int (nI j)] [.ref hm] rfl) hml hl.1 (by rw [hb]; exact d_M_count_3) (cd_M_wrong G hW) ⟨Nat.le_of_ble_eq_true rfl, Nat.le_of_ble_eq_true rfl⟩ rfl rfl (Nat.le_of_ble_eq_true rfl) (Nat.le_of_ble_eq_true rfl) (Nat.le_of_ble_eq_true rfl) ?_
  refine tp_i (y := (nI 0)) (by rw [if_neg h0]) ?_
  refine lv_if_le (tgt := 17) hx hb d_M_count_6 (by decide) (fun c_6 => ?_) (fun c_6 => absurd (by decide) c_6)
  refine lv_iload_n hx hb d_M_count_17 rfl (lv_at hl 2 rfl) ?_
  refine lv_if_lt (tgt := 26) hx hb d_M_count_18 (by decide) (fun c_18 => ?_) (fun c_18 => ?_)
  · refine lv_iconst (v := (nI 3)) hx hb d_M_count_26 (by decide) ?_
    refine lv_goto (tgt := 31) hx hb d_M_count_27 (by decide) ?_
    refine va_put (D := D) (ci := 4) (v := .int (nI 3)) (ty := .int) (C := R_M) (T := T_M) (N := 12) hx hb (us_M G hW) (fun _ h => h) t_M to_M nm_M hown hK hP hD hS 0 rfl rfl 0 (by decide) (fl_M_43 G hW) (fun _ h9 => h9) rfl (by decide +kernel) rfl rfl (Nat.le_of_ble_eq_true rfl) d_M_count_31 (fun H locs hP hD hS => ?_)
    have hP : va_P D vcl [(hm, .inr (4, [.int (nI 3), .ref a1, .ref a2, .ref a3, .ref a4, .ref a5, .ref a6, .ref a7, .ref a8, .ref a9, .ref a10, .ref a11])), (a1, aN cI 4 ki), (a2, aN cI 4 ka), (a3, aN cI 4 kb), (a4, aI cI 4 zs), (a5, aI cI 4 pu), (a6, aN cI 4096 ce), (a7, aN cI 1024 pa), (a8, aN cI 1024 tr), (a9, aI cI 256 so), (a10, aN cI 6 pl), (a11, aN cI 6 ot)] H := hP
    have hD : va_D (Aa [hm, a1, a2, a3, a4, a5, a6, a7, a8, a9, a10, a11] H0.size) [(hm, .inr (4, [.int (nI 3), .ref a1, .ref a2, .ref a3, .ref a4, .ref a5, .ref a6, .ref a7, .ref a8, .ref a9, .ref a10, .ref a11])), (a1, aN cI 4 ki), (a2, aN cI 4 ka), (a3, aN cI 4 kb), (a4, aI cI 4 zs), (a5, aI cI 4 pu), (a6, aN cI 4096 ce), (a7, aN cI 1024 pa), (a8, aN cI 1024 tr), (a9, aI cI 256 so), (a10, aN cI 6 pl), (a11, aN cI 6 ot)] := hD
    refine lv_aload_n hx hb d_M_count_34 rfl (lv_at hl 0 rfl) ?_
    refine va_get (D := D) (ci := 4) (v := .int (nI 3)) (C := R_M) (T := T_M) (N := 12) hx hb (us_M G hW) (fun _ h => h) hown hK hP 0 rfl rfl 0 (by decide) (fl_M_43 G hW) (fun _ h9 => h9) rfl d_M_count_35 ?_
    refine lv_if_le (tgt := 43) hx hb d_M_count_38 (by decide) (fun c_38 => absurd c_38 (by decide)) (fun c_38 => ?_)
    refine lv_iconst (v := (nI 0)) hx hb d_M_count_41 (by decide) ?_
    exact mx_iret hx hb hr hlk d_M_count_42 (Nat.le_of_ble_eq_true rfl) (Nat.le_of_ble_eq_true rfl) hS.2.2 (⟨rfl, ki, ka, kb, zs, pu, ce, pa, tr, so, pl, ot, hP, hpic⟩)
  · refine lv_iload_n hx hb d_M_count_21 rfl (lv_at hl 2 rfl) ?_
    refine lv_iconst (v := (nI 5)) hx hb d_M_count_22 (by decide) ?_
    refine lv_icmp_le (tgt := 30) hx hb d_M_count_23 (by decide) (fun c_23 => absurd c_23 (fun h9 => cnt_no hw c_18 h9)) (fun c_23 => ?_)
    refine lv_iconst (v := (nI 3)) hx hb d_M_count_26 (by decide) ?_
    refine lv_goto (tgt := 31) hx hb d_M_count_27 (by decide) ?_
    refine va_put (D := D) (ci := 4) (v := .int (nI 3)) (ty := .int) (C := R_M) (T := T_M) (N := 12) hx hb (us_M G hW) (fun _ h => h) t_M to_M nm_M hown hK hP hD hS 0 rfl rfl 0 (by decide) (fl_M_43 G hW) (fun _ h9 => h9) rfl (by decide +kernel) rfl rfl (Nat.le_of_ble_eq_true rfl) d_M_count_31 (fun H locs hP hD hS => ?_)
    have hP : va_P D vcl [(hm, .inr (4, [.int (nI 3), .ref a1, .ref a2, .ref a3, .ref a4, .ref a5, .ref a6, .ref a7, .ref a8, .ref a9, .ref a10, .ref a11])), (a1, aN cI 4 ki), (a2, aN cI 4 ka), (a3, aN cI 4 kb), (a4, aI cI 4 zs), (a5, aI cI 4 pu), (a6, aN cI 4096 ce), (a7, aN cI 1024 pa), (a8, aN cI 1024 tr), (a9, aI cI 256 so), (a10, aN cI 6 pl), (a11, aN cI 6 ot)] H := hP
    have hD : va_D (Aa [hm, a1, a2, a3, a4, a5, a6, a7, a8, a9, a10, a11] H0.size) [(hm, .inr (4, [.int (nI 3), .ref a1, .ref a2, .ref a3, .ref a4, .ref a5, .ref a6, .ref a7, .ref a8, .ref a9, .ref a10, .ref a11])), (a1, aN cI 4 ki), (a2, aN cI 4 ka), (a3, aN cI 4 kb), (a4, aI cI 4 zs), (a5, aI cI 4 pu), (a6, aN cI 4096 ce), (a7, aN cI 1024 pa), (a8, aN cI 1024 tr), (a9, aI cI 256 so), (a10, aN cI 6 pl), (a11, aN cI 6 ot)] := hD
    refine lv_aload_n hx hb d_M_count_34 rfl (lv_at hl 0 rfl) ?_
    refine va_get (D := D) (ci := 4) (v := .int (nI 3)) (C := R_M) (T := T_M) (N := 12) hx hb (us_M G hW) (fun _ h => h) hown hK hP 0 rfl rfl 0 (by decide) (fl_M_43 G hW) (fun _ h9 => h9) rfl d_M_count_35 ?_
    refine lv_if_le (tgt := 43) hx hb d_M_count_38 (by decide) (fun c_38 => absurd c_38 (by decide)) (fun c_38 => ?_)
    refine lv_iconst (v := (nI 0)) hx hb d_M_count_41 (by decide) ?_
    exact mx_iret hx hb hr hlk d_M_count_42 (Nat.le_of_ble_eq_true rfl) (Nat.le_of_ble_eq_true rfl) hS.2.2 (⟨rfl, ki, ka, kb, zs, pu, ce, pa, tr, so, pl, ot, hP, hpic⟩)

theorem c_M_count_0 {l : Launch} {s0 : State} {D : va_G} {cI cF cJ : ClassId} (G : Gx l s0 D cI cF cJ) (hm a1 a2 a3 a4 a5 a6 a7 a8 a9 a10 a11 : Nat) (th : Int32) (S : Nat → FS) (j : Nat) {H0 : Heap} {A0 : Nat → Prop} (hM : MP D cI hm a1 a2 a3 a4 a5 a6 a7 a8 a9 a10 a11 th S H0) (hD : va_D A0 (adM hm a1 a2 a3 a4 a5 a6 a7 a8 a9 a10 a11)) (hok : ∀ i, i < 4 → okS (S i)) (hj : j < 4) (h0 : (S j).1 ≠ 0) : Mx l s0 y_M_count (.code y_M_count b_M_count 7 (some .int)) { frames := 7, cells := 0, slots := 0, locals := 170 } [.ref hm, .int (nI j), .int (nI 0)] H0 (Aa [hm, a1, a2, a3, a4, a5, a6, a7, a8, a9, a10, a11] H0.size) (Rw (.int (cntS (S j) 0)) (fun H1 => MP D cI hm a1 a2 a3 a4 a5 a6 a7 a8 a9 a10 a11 (nI 0) S H1)) := by
  rcases hSj : S j with ⟨kd, A, B, hd, pv, cs, n, f⟩
  rw [← hSj]
  have hoj := hok j hj
  rw [hSj] at hoj h0
  rcases hoj with h9 | h9 | h9 | h9
  · exact absurd h9 h0
  · obtain ⟨rfl, -⟩ := h9; exact c_M_count_1_0 G hm a1 a2 a3 a4 a5 a6 a7 a8 a9 a10 a11 th S j A B n hd pv cs f hM hD hok hj hSj
  · obtain ⟨rfl, -⟩ := h9; exact c_M_count_2_0 G hm a1 a2 a3 a4 a5 a6 a7 a8 a9 a10 a11 th S j A B n hd pv cs f hM hD hok hj hSj
  · obtain ⟨rfl, -⟩ := h9; exact c_M_count_3_0 G hm a1 a2 a3 a4 a5 a6 a7 a8 a9 a10 a11 th S j A B n hd pv cs f hM hD hok hj hSj

theorem c_M_count_1 {l : Launch} {s0 : State} {D : va_G} {cI cF cJ : ClassId} (G : Gx l s0 D cI cF cJ) (hm a1 a2 a3 a4 a5 a6 a7 a8 a9 a10 a11 : Nat) (th : Int32) (S : Nat → FS) (j : Nat) {H0 : Heap} {A0 : Nat → Prop} (hM : MP D cI hm a1 a2 a3 a4 a5 a6 a7 a8 a9 a10 a11 th S H0) (hD : va_D A0 (adM hm a1 a2 a3 a4 a5 a6 a7 a8 a9 a10 a11)) (hok : ∀ i, i < 4 → okS (S i)) (hj : j < 4) (h0 : (S j).1 ≠ 0) : Mx l s0 y_M_count (.code y_M_count b_M_count 7 (some .int)) { frames := 7, cells := 0, slots := 0, locals := 170 } [.ref hm, .int (nI j), .int (nI 1)] H0 (Aa [hm, a1, a2, a3, a4, a5, a6, a7, a8, a9, a10, a11] H0.size) (Rw (.int (cntS (S j) 1)) (fun H1 => MP D cI hm a1 a2 a3 a4 a5 a6 a7 a8 a9 a10 a11 (nI 0) S H1)) := by
  rcases hSj : S j with ⟨kd, A, B, hd, pv, cs, n, f⟩
  rw [← hSj]
  have hoj := hok j hj
  rw [hSj] at hoj h0
  rcases hoj with h9 | h9 | h9 | h9
  · exact absurd h9 h0
  · obtain ⟨rfl, -⟩ := h9; exact c_M_count_1_1 G hm a1 a2 a3 a4 a5 a6 a7 a8 a9 a10 a11 th S j A B n hd pv cs f hM hD hok hj hSj
  · obtain ⟨rfl, -⟩ := h9; exact c_M_count_2_1 G hm a1 a2 a3 a4 a5 a6 a7 a8 a9 a10 a11 th S j A B n hd pv cs f hM hD hok hj hSj
  · obtain ⟨rfl, -⟩ := h9; exact c_M_count_3_1 G hm a1 a2 a3 a4 a5 a6 a7 a8 a9 a10 a11 th S j A B n hd pv cs f hM hD hok hj hSj

theorem c_M_count_2 {l : Launch} {s0 : State} {D : va_G} {cI cF cJ : ClassId} (G : Gx l s0 D cI cF cJ) (hm a1 a2 a3 a4 a5 a6 a7 a8 a9 a10 a11 : Nat) (th : Int32) (S : Nat → FS) (j : Nat) {H0 : Heap} {A0 : Nat → Prop} (hM : MP D cI hm a1 a2 a3 a4 a5 a6 a7 a8 a9 a10 a11 th S H0) (hD : va_D A0 (adM hm a1 a2 a3 a4 a5 a6 a7 a8 a9 a10 a11)) (hok : ∀ i, i < 4 → okS (S i)) (hj : j < 4) (h0 : (S j).1 ≠ 0) : Mx l s0 y_M_count (.code y_M_count b_M_count 7 (some .int)) { frames := 7, cells := 0, slots := 0, locals := 170 } [.ref hm, .int (nI j), .int (nI 2)] H0 (Aa [hm, a1, a2, a3, a4, a5, a6, a7, a8, a9, a10, a11] H0.size) (Rw (.int (cntS (S j) 2)) (fun H1 => MP D cI hm a1 a2 a3 a4 a5 a6 a7 a8 a9 a10 a11 (nI 0) S H1)) := by
  rcases hSj : S j with ⟨kd, A, B, hd, pv, cs, n, f⟩
  rw [← hSj]
  have hoj := hok j hj
  rw [hSj] at hoj h0
  rcases hoj with h9 | h9 | h9 | h9
  · exact absurd h9 h0
  · obtain ⟨rfl, -⟩ := h9; exact c_M_count_1_2 G hm a1 a2 a3 a4 a5 a6 a7 a8 a9 a10 a11 th S j A B n hd pv cs f hM hD hok hj hSj
  · obtain ⟨rfl, -⟩ := h9; exact c_M_count_2_2 G hm a1 a2 a3 a4 a5 a6 a7 a8 a9 a10 a11 th S j A B n hd pv cs f hM hD hok hj hSj
  · obtain ⟨rfl, -⟩ := h9; exact c_M_count_3_2 G hm a1 a2 a3 a4 a5 a6 a7 a8 a9 a10 a11 th S j A B n hd pv cs f hM hD hok hj hSj

theorem c_M_count_3 {l : Launch} {s0 : State} {D : va_G} {cI cF cJ : ClassId} (G : Gx l s0 D cI cF cJ) (hm a1 a2 a3 a4 a5 a6 a7 a8 a9 a10 a11 : Nat) (th : Int32) (S : Nat → FS) (j : Nat) {H0 : Heap} {A0 : Nat → Prop} (hM : MP D cI hm a1 a2 a3 a4 a5 a6 a7 a8 a9 a10 a11 th S H0) (hD : va_D A0 (adM hm a1 a2 a3 a4 a5 a6 a7 a8 a9 a10 a11)) (hok : ∀ i, i < 4 → okS (S i)) (hj : j < 4) (h0 : (S j).1 ≠ 0) : Mx l s0 y_M_count (.code y_M_count b_M_count 7 (some .int)) { frames := 7, cells := 0, slots := 0, locals := 170 } [.ref hm, .int (nI j), .int (nI 3)] H0 (Aa [hm, a1, a2, a3, a4, a5, a6, a7, a8, a9, a10, a11] H0.size) (Rw (.int (cntS (S j) 3)) (fun H1 => MP D cI hm a1 a2 a3 a4 a5 a6 a7 a8 a9 a10 a11 (nI 0) S H1)) := by
  rcases hSj : S j with ⟨kd, A, B, hd, pv, cs, n, f⟩
  rw [← hSj]
  have hoj := hok j hj
  rw [hSj] at hoj h0
  rcases hoj with h9 | h9 | h9 | h9
  · exact absurd h9 h0
  · obtain ⟨rfl, -⟩ := h9; exact c_M_count_1_3 G hm a1 a2 a3 a4 a5 a6 a7 a8 a9 a10 a11 th S j A B n hd pv cs f hM hD hok hj hSj
  · obtain ⟨rfl, -⟩ := h9; exact c_M_count_2_3 G hm a1 a2 a3 a4 a5 a6 a7 a8 a9 a10 a11 th S j A B n hd pv cs f hM hD hok hj hSj
  · obtain ⟨rfl, -⟩ := h9; exact c_M_count_3_3 G hm a1 a2 a3 a4 a5 a6 a7 a8 a9 a10 a11 th S j A B n hd pv cs f hM hD hok hj hSj

theorem c_M_count_4 {l : Launch} {s0 : State} {D : va_G} {cI cF cJ : ClassId} (G : Gx l s0 D cI cF cJ) (hm a1 a2 a3 a4 a5 a6 a7 a8 a9 a10 a11 : Nat) (th : Int32) (S : Nat → FS) (j : Nat) {H0 : Heap} {A0 : Nat → Prop} (hM : MP D cI hm a1 a2 a3 a4 a5 a6 a7 a8 a9 a10 a11 th S H0) (hD : va_D A0 (adM hm a1 a2 a3 a4 a5 a6 a7 a8 a9 a10 a11)) (hok : ∀ i, i < 4 → okS (S i)) (hj : j < 4) (h0 : (S j).1 ≠ 0) : Mx l s0 y_M_count (.code y_M_count b_M_count 7 (some .int)) { frames := 7, cells := 0, slots := 0, locals := 170 } [.ref hm, .int (nI j), .int (nI 4)] H0 (Aa [hm, a1, a2, a3, a4, a5, a6, a7, a8, a9, a10, a11] H0.size) (Rw (.int (cntS (S j) 4)) (fun H1 => MP D cI hm a1 a2 a3 a4 a5 a6 a7 a8 a9 a10 a11 (nI 0) S H1)) := by
  rcases hSj : S j with ⟨kd, A, B, hd, pv, cs, n, f⟩
  rw [← hSj]
  have hoj := hok j hj
  rw [hSj] at hoj h0
  rcases hoj with h9 | h9 | h9 | h9
  · exact absurd h9 h0
  · obtain ⟨rfl, -⟩ := h9; exact c_M_count_1_4 G hm a1 a2 a3 a4 a5 a6 a7 a8 a9 a10 a11 th S j A B n hd pv cs f hM hD hok hj hSj
  · obtain ⟨rfl, -⟩ := h9; exact c_M_count_2_4 G hm a1 a2 a3 a4 a5 a6 a7 a8 a9 a10 a11 th S j A B n hd pv cs f hM hD hok hj hSj
  · obtain ⟨rfl, -⟩ := h9; exact c_M_count_3_4 G hm a1 a2 a3 a4 a5 a6 a7 a8 a9 a10 a11 th S j A B n hd pv cs f hM hD hok hj hSj

theorem c_M_count_5 {l : Launch} {s0 : State} {D : va_G} {cI cF cJ : ClassId} (G : Gx l s0 D cI cF cJ) (hm a1 a2 a3 a4 a5 a6 a7 a8 a9 a10 a11 : Nat) (th : Int32) (S : Nat → FS) (j : Nat) {H0 : Heap} {A0 : Nat → Prop} (hM : MP D cI hm a1 a2 a3 a4 a5 a6 a7 a8 a9 a10 a11 th S H0) (hD : va_D A0 (adM hm a1 a2 a3 a4 a5 a6 a7 a8 a9 a10 a11)) (hok : ∀ i, i < 4 → okS (S i)) (hj : j < 4) (h0 : (S j).1 ≠ 0) : Mx l s0 y_M_count (.code y_M_count b_M_count 7 (some .int)) { frames := 7, cells := 0, slots := 0, locals := 170 } [.ref hm, .int (nI j), .int (nI 5)] H0 (Aa [hm, a1, a2, a3, a4, a5, a6, a7, a8, a9, a10, a11] H0.size) (Rw (.int (cntS (S j) 5)) (fun H1 => MP D cI hm a1 a2 a3 a4 a5 a6 a7 a8 a9 a10 a11 (nI 0) S H1)) := by
  rcases hSj : S j with ⟨kd, A, B, hd, pv, cs, n, f⟩
  rw [← hSj]
  have hoj := hok j hj
  rw [hSj] at hoj h0
  rcases hoj with h9 | h9 | h9 | h9
  · exact absurd h9 h0
  · obtain ⟨rfl, -⟩ := h9; exact c_M_count_1_5 G hm a1 a2 a3 a4 a5 a6 a7 a8 a9 a10 a11 th S j A B n hd pv cs f hM hD hok hj hSj
  · obtain ⟨rfl, -⟩ := h9; exact c_M_count_2_5 G hm a1 a2 a3 a4 a5 a6 a7 a8 a9 a10 a11 th S j A B n hd pv cs f hM hD hok hj hSj
  · obtain ⟨rfl, -⟩ := h9; exact c_M_count_3_5 G hm a1 a2 a3 a4 a5 a6 a7 a8 a9 a10 a11 th S j A B n hd pv cs f hM hD hok hj hSj
