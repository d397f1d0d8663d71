theorem stp (x st : Int64) {i : Nat} (h : i < 400) : x + (nI i).toInt64 * st + st = x + (nI (i + 1)).toInt64 * st := by
  rw [nI_l (by omega), nI_l (by omega), ← lN_1, Int64.add_mul, Int64.one_mul, Int64.add_assoc]
theorem stp0 (x st : Int64) : x + (nI 0).toInt64 * st = x := by
  rw [nI_l (by omega), show lN 0 = 0 from rfl, Int64.zero_mul, Int64.add_zero]

theorem va_up_same {α : Type} {f : Nat → α} {j : Nat} : va_up f j (f j) = f := by
  funext i
  by_cases h : i = j
  · subst h; rw [va_up_self]
  · rw [va_up_ne _ _ h]
theorem va_up_two {α : Type} {f : Nat → α} {j : Nat} {a b : α} : va_up (va_up f j a) j b = va_up f j b := by
  funext i
  by_cases h : i = j
  · subst h; rw [va_up_self, va_up_self]
  · rw [va_up_ne _ _ h, va_up_ne _ _ h, va_up_ne _ _ h]
theorem oks_up {S : Nat → FS} {j : Nat} {T : FS} (h : ∀ i, i < 4 → okS (S i)) (hT : okS T) : ∀ i, i < 4 → okS (va_up S j T i) := by
  intro i hi
  by_cases e : i = j
  · subst e; rw [va_up_self]; exact hT
  · rw [va_up_ne _ _ e]; exact h i hi

theorem wth_no {v : Int32} (hv : wth v (nI 0) (nI 400) = false) (h0 : ¬ v < 0) (h : v ≤ nI 400) : False := by
  unfold wth at hv
  rw [decide_eq_false (show ¬ v < nI 0 from h0), decide_eq_false (Int32.not_lt.mpr h)] at hv
  cases hv

theorem pic_emp {j : Nat} {S : FS} {ki ka kb : Nat → Nat} {zs pu : Nat → Int32} {ce pa : Nat → Nat} (h : PicM j S ki ka kb zs pu ce pa) (h0 : S.1 ≠ 0) (hok : okS S) : PicM j (mkS S.1 S.2.1 S.2.2.1 S.2.2.2.2.2.2.2) ki ka kb (upd zs j (nI 0)) (upd pu j (nI 0)) (stO 1024 ce (1024 * j) (fun _ => 0)) pa := by
  obtain ⟨kd, A, B, hd, pv, cs, n, f⟩ := S
  obtain ⟨h1, h2, h3, h4, h5, h6⟩ := h
  exact ⟨h1, fun h => ⟨(h2 h).1, (h2 h).2.1, upd_eq⟩, fun _ q hq => vw_stO hq, fun _ => upd_eq, fun _ i hi => absurd hi (Nat.not_lt_zero _), h6⟩

set_option maxHeartbeats 4000000 in
set_option maxRecDepth 100000 in
theorem c_M_add_no {l : Launch} {s0 : State} {D : va_G} {cI cF cJ : ClassId} (G : Gx l s0 D cI cF cJ) (hm a1 a2 a3 a4 a5 a6 a7 a8 a9 a10 a11 : Nat) (th : Int32) (S : Nat → FS) (v : Int32) (x : Int64) {H0 : Heap} {A0 : Nat → Prop} (hM : MP D cI hm a1 a2 a3 a4 a5 a6 a7 a8 a9 a10 a11 th S H0) (hD : va_D A0 (adM hm a1 a2 a3 a4 a5 a6 a7 a8 a9 a10 a11)) (hok : ∀ i, i < 4 → okS (S i)) (hv : isNum v = false) : Mx l s0 y_M_add (.code y_M_add b_M_add 4 (some .int)) { frames := 7, cells := 0, slots := 0, locals := 170 } [.ref hm, .int v, .long x] H0 (Aa [hm, a1, a2, a3, a4, a5, a6, a7, a8, a9, a10, a11] H0.size) (Rw (.int (nI 0)) (fun H1 => MP D cI hm a1 a2 a3 a4 a5 a6 a7 a8 a9 a10 a11 (nI 1) S H1)) := by
  refine Mx.ofW (own := "FewBitsModel") rfl rfl ?_
  rintro p e s m below meth c ⟨hx, hb, hml, hr, hown, hW, hlk⟩ hnm het hH
  have hK := G.k hW
  have hD0 := hD
  obtain ⟨ki, ka, kb, zs, pu, ce, pa, tr, so, pl, ot, hP, hpic⟩ := hM
  have hD : va_D (Aa [hm, a1, a2, a3, a4, a5, a6, a7, a8, a9, a10, a11] H0.size) [(hm, .inr (4, [.int th, .ref a1, .ref a2, .ref a3, .ref a4, .ref a5, .ref a6, .ref a7, .ref a8, .ref a9, .ref a10, .ref a11])), (a1, aN cI 4 ki), (a2, aN cI 4 ka), (a3, aN cI 4 kb), (a4, aI cI 4 zs), (a5, aI cI 4 pu), (a6, aN cI 4096 ce), (a7, aN cI 1024 pa), (a8, aN cI 1024 tr), (a9, aI cI 256 so), (a10, aN cI 6 pl), (a11, aN cI 6 ot)] := va_D.same2 [hm, a1, a2, a3, a4, a5, a6, a7, a8, a9, a10, a11] (hD.aa (sz := H0.size)) rfl rfl
  have hS : va_S (Aa [hm, a1, a2, a3, a4, a5, a6, a7, a8, a9, a10, a11] H0.size) H0 H0 [] := va_S.rf
  have hl := lv_entry ([.ref hm, .int v, .long x]) (n := 4) (Nat.le_of_ble_eq_true rfl)
  rw [lg_entry_eq]
  generalize (lg_sl ([.ref hm, .int v, .long x]) ++ List.replicate (4 - (lg_sl ([.ref hm, .int v, .long x])).length) Slot.unset).toArray = ls at hl ⊢
  have hl : lv_has ls 4 [(0, .ref hm), (1, .int v), (2, .long x)] := hl
  refine lv_aload_n hx hb d_M_add_0 rfl (lv_at hl 0 rfl) ?_
  refine lv_aload_n hx hb d_M_add_1 rfl (lv_at hl 0 rfl) ?_
  refine lv_iload_n hx hb d_M_add_2 rfl (lv_at hl 1 rfl) ?_
  refine mx_callR (r := .int (nI 1)) (c_M_wrong_n G hm a1 a2 a3 a4 a5 a6 a7 a8 a9 a10 a11 th ki ka kb zs pu ce pa tr so pl ot v hP hv) hW (iv_M_add_3 G hx hb hown hW (va_recv hK hP (ci := 4) (q0 := 0) rfl rfl) [.int v] [.ref hm] rfl) hml hl.1 (by rw [hb]; exact d_M_add_3) (cd_M_wrong G hW) ⟨Nat.le_of_ble_eq_true rfl, Nat.le_of_ble_eq_true rfl⟩ rfl rfl (Nat.le_of_ble_eq_true rfl) (Nat.le_of_ble_eq_true rfl) (Nat.le_of_ble_eq_true rfl) ?_
  refine va_put (D := D) (ci := 4) (v := .int (nI 1)) (ty := .int) (C := R_M) (T := T_M) (N := 12) hx hb (us_M G hW) (fun _ h => h) t_M to_M nm_M hown hK hP hD hS 0 rfl rfl 0 (by decide) (fl_M_43 G hW) (fun _ h9 => h9) rfl (by decide +kernel) rfl rfl (Nat.le_of_ble_eq_true rfl) d_M_add_6 (fun H locs hP hD hS => ?_)
  have hP : va_P D vcl [(hm, .inr (4, [.int (nI 1), .ref a1, .ref a2, .ref a3, .ref a4, .ref a5, .ref a6, .ref a7, .ref a8, .ref a9, .ref a10, .ref a11])), (a1, aN cI 4 ki), (a2, aN cI 4 ka), (a3, aN cI 4 kb), (a4, aI cI 4 zs), (a5, aI cI 4 pu), (a6, aN cI 4096 ce), (a7, aN cI 1024 pa), (a8, aN cI 1024 tr), (a9, aI cI 256 so), (a10, aN cI 6 pl), (a11, aN cI 6 ot)] H := hP
  have hD : va_D (Aa [hm, a1, a2, a3, a4, a5, a6, a7, a8, a9, a10, a11] H0.size) [(hm, .inr (4, [.int (nI 1), .ref a1, .ref a2, .ref a3, .ref a4, .ref a5, .ref a6, .ref a7, .ref a8, .ref a9, .ref a10, .ref a11])), (a1, aN cI 4 ki), (a2, aN cI 4 ka), (a3, aN cI 4 kb), (a4, aI cI 4 zs), (a5, aI cI 4 pu), (a6, aN cI 4096 ce), (a7, aN cI 1024 pa), (a8, aN cI 1024 tr), (a9, aI cI 256 so), (a10, aN cI 6 pl), (a11, aN cI 6 ot)] := hD
  refine lv_aload_n hx hb d_M_add_9 rfl (lv_at hl 0 rfl) ?_
  refine va_get (D := D) (ci := 4) (v := .int (nI 1)) (C := R_M) (T := T_M) (N := 12) hx hb (us_M G hW) (fun _ h => h) hown hK hP 0 rfl rfl 0 (by decide) (fl_M_43 G hW) (fun _ h9 => h9) rfl d_M_add_10 ?_
  refine lv_if_le (tgt := 18) hx hb d_M_add_13 (by decide) (fun c_13 => absurd c_13 (by decide)) (fun c_13 => ?_)
  refine lv_iconst (v := (nI 0)) hx hb d_M_add_16 (by decide) ?_
  exact mx_iret hx hb hr hlk d_M_add_17 (Nat.le_of_ble_eq_true rfl) (Nat.le_of_ble_eq_true rfl) hS.2.2 (⟨rfl, ki, ka, kb, zs, pu, ce, pa, tr, so, pl, ot, hP, hpic⟩)

set_option maxHeartbeats 4000000 in
set_option maxRecDepth 100000 in
theorem c_M_add_none {l : Launch} {s0 : State} {D : va_G} {cI cF cJ : ClassId} (G : Gx l s0 D cI cF cJ) (hm a1 a2 a3 a4 a5 a6 a7 a8 a9 a10 a11 : Nat) (th : Int32) (S : Nat → FS) (j : Nat) (x : Int64) {H0 : Heap} {A0 : Nat → Prop} (hM : MP D cI hm a1 a2 a3 a4 a5 a6 a7 a8 a9 a10 a11 th S H0) (hD : va_D A0 (adM hm a1 a2 a3 a4 a5 a6 a7 a8 a9 a10 a11)) (hok : ∀ i, i < 4 → okS (S i)) (hj : j < 4) (h0 : (S j).1 = 0) : Mx l s0 y_M_add (.code y_M_add b_M_add 4 (some .int)) { frames := 7, cells := 0, slots := 0, locals := 170 } [.ref hm, .int (nI j), .long x] H0 (Aa [hm, a1, a2, a3, a4, a5, a6, a7, a8, a9, a10, a11] H0.size) (Rw (.int (nI 0)) (fun H1 => MP D cI hm a1 a2 a3 a4 a5 a6 a7 a8 a9 a10 a11 (nI 2) S H1)) := by
  refine Mx.ofW (own := "FewBitsModel") rfl rfl ?_
  rintro p e s m below meth c ⟨hx, hb, hml, hr, hown, hW, hlk⟩ hnm het hH
  have hK := G.k hW
  have hD0 := hD
  obtain ⟨ki, ka, kb, zs, pu, ce, pa, tr, so, pl, ot, hP, hpic⟩ := hM
  have hD : va_D (Aa [hm, a1, a2, a3, a4, a5, a6, a7, a8, a9, a10, a11] H0.size) [(hm, .inr (4, [.int th, .ref a1, .ref a2, .ref a3, .ref a4, .ref a5, .ref a6, .ref a7, .ref a8, .ref a9, .ref a10, .ref a11])), (a1, aN cI 4 ki), (a2, aN cI 4 ka), (a3, aN cI 4 kb), (a4, aI cI 4 zs), (a5, aI cI 4 pu), (a6, aN cI 4096 ce), (a7, aN cI 1024 pa), (a8, aN cI 1024 tr), (a9, aI cI 256 so), (a10, aN cI 6 pl), (a11, aN cI 6 ot)] := va_D.same2 [hm, a1, a2, a3, a4, a5, a6, a7, a8, a9, a10, a11] (hD.aa (sz := H0.size)) rfl rfl
  have hS : va_S (Aa [hm, a1, a2, a3, a4, a5, a6, a7, a8, a9, a10, a11] H0.size) H0 H0 [] := va_S.rf
  have hl := lv_entry ([.ref hm, .int (nI j), .long x]) (n := 4) (Nat.le_of_ble_eq_true rfl)
  rw [lg_entry_eq]
  generalize (lg_sl ([.ref hm, .int (nI j), .long x]) ++ List.replicate (4 - (lg_sl ([.ref hm, .int (nI j), .long x])).length) Slot.unset).toArray = ls at hl ⊢
  have hl : lv_has ls 4 [(0, .ref hm), (1, .int (nI j)), (2, .long x)] := hl
  refine lv_aload_n hx hb d_M_add_0 rfl (lv_at hl 0 rfl) ?_
  refine lv_aload_n hx hb d_M_add_1 rfl (lv_at hl 0 rfl) ?_
  refine lv_iload_n hx hb d_M_add_2 rfl (lv_at hl 1 rfl) ?_
  refine mx_callR (r := .int (nI (if (S j).1 = 0 then 2 else 0))) (c_M_wrg G hm a1 a2 a3 a4 a5 a6 a7 a8 a9 a10 a11 th S j ⟨ki, ka, kb, zs, pu, ce, pa, tr, so, pl, ot, hP, hpic⟩ hD0 hok hj) hW (iv_M_add_3 G hx hb hown hW (va_recv hK hP (ci := 4) (q0 := 0) rfl rfl) [.int (nI j)] [.ref hm] rfl) hml hl.1 (by rw [hb]; exact d_M_add_3) (cd_M_wrong G hW) ⟨Nat.le_of_ble_eq_true rfl, Nat.le_of_ble_eq_true rfl⟩ rfl rfl (Nat.le_of_ble_eq_true rfl) (Nat.le_of_ble_eq_true rfl) (Nat.le_of_ble_eq_true rfl) ?_
  refine tp_i (y := (nI 2)) (by rw [if_pos h0]) ?_
  refine va_put (D := D) (ci := 4) (v := .int (nI 2)) (ty := .int) (C := R_M) (T := T_M) (N := 12) hx hb (us_M G hW) (fun _ h => h) t_M to_M nm_M hown hK hP hD hS 0 rfl rfl 0 (by decide) (fl_M_43 G hW) (fun _ h9 => h9) rfl (by decide +kernel) rfl rfl (Nat.le_of_ble_eq_true rfl) d_M_add_6 (fun H locs hP hD hS => ?_)
  have hP : va_P D vcl [(hm, .inr (4, [.int (nI 2), .ref a1, .ref a2, .ref a3, .ref a4, .ref a5, .ref a6, .ref a7, .ref a8, .ref a9, .ref a10, .ref a11])), (a1, aN cI 4 ki), (a2, aN cI 4 ka), (a3, aN cI 4 kb), (a4, aI cI 4 zs), (a5, aI cI 4 pu), (a6, aN cI 4096 ce), (a7, aN cI 1024 pa), (a8, aN cI 1024 tr), (a9, aI cI 256 so), (a10, aN cI 6 pl), (a11, aN cI 6 ot)] H := hP
  have hD : va_D (Aa [hm, a1, a2, a3, a4, a5, a6, a7, a8, a9, a10, a11] H0.size) [(hm, .inr (4, [.int (nI 2), .ref a1, .ref a2, .ref a3, .ref a4, .ref a5, .ref a6, .ref a7, .ref a8, .ref a9, .ref a10, .ref a11])), (a1, aN cI 4 ki), (a2, aN cI 4 ka), (a3, aN cI 4 kb), (a4, aI cI 4 zs), (a5, aI cI 4 pu), (a6, aN cI 4096 ce), (a7, aN cI 1024 pa), (a8, aN cI 1024 tr), (a9, aI cI 256 so), (a10, aN cI 6 pl), (a11, aN cI 6 ot)] := hD
  refine lv_aload_n hx hb d_M_add_9 rfl (lv_at hl 0 rfl) ?_
  refine va_get (D := D) (ci := 4) (v := .int (nI 2)) (C := R_M) (T := T_M) (N := 12) hx hb (us_M G hW) (fun _ h => h) hown hK hP 0 rfl rfl 0 (by decide) (fl_M_43 G hW) (fun _ h9 => h9) rfl d_M_add_10 ?_
  refine lv_if_le (tgt := 18) hx hb d_M_add_13 (by decide) (fun c_13 => absurd c_13 (by decide)) (fun c_13 => ?_)
  refine lv_iconst (v := (nI 0)) hx hb d_M_add_16 (by decide) ?_
  exact mx_iret hx hb hr hlk d_M_add_17 (Nat.le_of_ble_eq_true rfl) (Nat.le_of_ble_eq_true rfl) hS.2.2 (⟨rfl, ki, ka, kb, zs, pu, ce, pa, tr, so, pl, ot, hP, hpic⟩)

set_option maxHeartbeats 4000000 in
set_option maxRecDepth 100000 in
theorem c_M_remove_no {l : Launch} {s0 : State} {D : va_G} {cI cF cJ : ClassId} (G : Gx l s0 D cI cF cJ) (hm a1 a2 a3 a4 a5 a6 a7 a8 a9 a10 a11 : Nat) (th : Int32) (S : Nat → FS) (v : Int32) (x : Int64) {H0 : Heap} {A0 : Nat → Prop} (hM : MP D cI hm a1 a2 a3 a4 a5 a6 a7 a8 a9 a10 a11 th S H0) (hD : va_D A0 (adM hm a1 a2 a3 a4 a5 a6 a7 a8 a9 a10 a11)) (hok : ∀ i, i < 4 → okS (S i)) (hv : isNum v = false) : Mx l s0 y_M_remove (.code y_M_remove b_M_remove 8 (some .int)) { frames := 7, cells := 0, slots := 0, locals := 170 } [.ref hm, .int v, .long x] H0 (Aa [hm, a1, a2, a3, a4, a5, a6, a7, a8, a9, a10, a11] H0.size) (Rw (.int (nI 0)) (fun H1 => MP D cI hm a1 a2 a3 a4 a5 a6 a7 a8 a9 a10 a11 (nI 1) S H1)) := by
  refine Mx.ofW (own := "FewBitsModel") rfl rfl ?_
  rintro p e s m below meth c ⟨hx, hb, hml, hr, hown, hW, hlk⟩ hnm het hH
  have hK := G.k hW
  have hD0 := hD
  obtain ⟨ki, ka, kb, zs, pu, ce, pa, tr, so, pl, ot, hP, hpic⟩ := hM
  have hD : va_D (Aa [hm, a1, a2, a3, a4, a5, a6, a7, a8, a9, a10, a11] H0.size) [(hm, .inr (4, [.int th, .ref a1, .ref a2, .ref a3, .ref a4, .ref a5, .ref a6, .ref a7, .ref a8, .ref a9, .ref a10, .ref a11])), (a1, aN cI 4 ki), (a2, aN cI 4 ka), (a3, aN cI 4 kb), (a4, aI cI 4 zs), (a5, aI cI 4 pu), (a6, aN cI 4096 ce), (a7, aN cI 1024 pa), (a8, aN cI 1024 tr), (a9, aI cI 256 so), (a10, aN cI 6 pl), (a11, aN cI 6 ot)] := va_D.same2 [hm, a1, a2, a3, a4, a5, a6, a7, a8, a9, a10, a11] (hD.aa (sz := H0.size)) rfl rfl
  have hS : va_S (Aa [hm, a1, a2, a3, a4, a5, a6, a7, a8, a9, a10, a11] H0.size) H0 H0 [] := va_S.rf
  have hl := lv_entry ([.ref hm, .int v, .long x]) (n := 8) (Nat.le_of_ble_eq_true rfl)
  rw [lg_entry_eq]
  generalize (lg_sl ([.ref hm, .int v, .long x]) ++ List.replicate (8 - (lg_sl ([.ref hm, .int v, .long x])).length) Slot.unset).toArray = ls at hl ⊢
  have hl : lv_has ls 8 [(0, .ref hm), (1, .int v), (2, .long x)] := hl
  refine lv_aload_n hx hb d_M_remove_0 rfl (lv_at hl 0 rfl) ?_
  refine lv_aload_n hx hb d_M_remove_1 rfl (lv_at hl 0 rfl) ?_
  refine lv_iload_n hx hb d_M_remove_2 rfl (lv_at hl 1 rfl) ?_
  refine mx_callR (r := .int (nI 1)) (c_M_wrong_n G hm a1 a2 a3 a4 a5 a6 a7 a8 a9 a10 a11 th ki ka kb zs pu ce pa tr so pl ot v hP hv) hW (iv_M_remove_3 G hx hb hown hW (va_recv hK hP (ci := 4) (q0 := 0) rfl rfl) [.int v] [.ref hm] rfl) hml hl.1 (by rw [hb]; exact d_M_remove_3) (cd_M_wrong G hW) ⟨Nat.le_of_ble_eq_true rfl, Nat.le_of_ble_eq_true rfl⟩ rfl rfl (Nat.le_of_ble_eq_true rfl) (Nat.le_of_ble_eq_true rfl) (Nat.le_of_ble_eq_true rfl) ?_
  refine va_put (D := D) (ci := 4) (v := .int (nI 1)) (ty := .int) (C := R_M) (T := T_M) (N := 12) hx hb (us_M G hW) (fun _ h => h) t_M to_M nm_M hown hK hP hD hS 0 rfl rfl 0 (by decide) (fl_M_43 G hW) (fun _ h9 => h9) rfl (by decide +kernel) rfl rfl (Nat.le_of_ble_eq_true rfl) d_M_remove_6 (fun H locs hP hD hS => ?_)
  have hP : va_P D vcl [(hm, .inr (4, [.int (nI 1), .ref a1, .ref a2, .ref a3, .ref a4, .ref a5, .ref a6, .ref a7, .ref a8, .ref a9, .ref a10, .ref a11])), (a1, aN cI 4 ki), (a2, aN cI 4 ka), (a3, aN cI 4 kb), (a4, aI cI 4 zs), (a5, aI cI 4 pu), (a6, aN cI 4096 ce), (a7, aN cI 1024 pa), (a8, aN cI 1024 tr), (a9, aI cI 256 so), (a10, aN cI 6 pl), (a11, aN cI 6 ot)] H := hP
  have hD : va_D (Aa [hm, a1, a2, a3, a4, a5, a6, a7, a8, a9, a10, a11] H0.size) [(hm, .inr (4, [.int (nI 1), .ref a1, .ref a2, .ref a3, .ref a4, .ref a5, .ref a6, .ref a7, .ref a8, .ref a9, .ref a10, .ref a11])), (a1, aN cI 4 ki), (a2, aN cI 4 ka), (a3, aN cI 4 kb), (a4, aI cI 4 zs), (a5, aI cI 4 pu), (a6, aN cI 4096 ce), (a7, aN cI 1024 pa), (a8, aN cI 1024 tr), (a9, aI cI 256 so), (a10, aN cI 6 pl), (a11, aN cI 6 ot)] := hD
  refine lv_aload_n hx hb d_M_remove_9 rfl (lv_at hl 0 rfl) ?_
  refine va_get (D := D) (ci := 4) (v := .int (nI 1)) (C := R_M) (T := T_M) (N := 12) hx hb (us_M G hW) (fun _ h => h) hown hK hP 0 rfl rfl 0 (by decide) (fl_M_43 G hW) (fun _ h9 => h9) rfl d_M_remove_10 ?_
  refine lv_if_le (tgt := 18) hx hb d_M_remove_13 (by decide) (fun c_13 => absurd c_13 (by decide)) (fun c_13 => ?_)
  refine lv_iconst (v := (nI 0)) hx hb d_M_remove_16 (by decide) ?_
  exact mx_iret hx hb hr hlk d_M_remove_17 (Nat.le_of_ble_eq_true rfl) (Nat.le_of_ble_eq_true rfl) hS.2.2 (⟨rfl, ki, ka, kb, zs, pu, ce, pa, tr, so, pl, ot, hP, hpic⟩)

set_option maxHeartbeats 4000000 in
set_option maxRecDepth 100000 in
theorem c_M_remove_none {l : Launch} {s0 : State} {D : va_G} {cI cF cJ : ClassId} (G : Gx l s0 D cI cF cJ) (hm a1 a2 a3 a4 a5 a6 a7 a8 a9 a10 a11 : Nat) (th : Int32) (S : Nat → FS) (j : Nat) (x : Int64) {H0 : Heap} {A0 : Nat → Prop} (hM : MP D cI hm a1 a2 a3 a4 a5 a6 a7 a8 a9 a10 a11 th S H0) (hD : va_D A0 (adM hm a1 a2 a3 a4 a5 a6 a7 a8 a9 a10 a11)) (hok : ∀ i, i < 4 → okS (S i)) (hj : j < 4) (h0 : (S j).1 = 0) : Mx l s0 y_M_remove (.code y_M_remove b_M_remove 8 (some .int)) { frames := 7, cells := 0, slots := 0, locals := 170 } [.ref hm, .int (nI j), .long x] H0 (Aa [hm, a1, a2, a3, a4, a5, a6, a7, a8, a9, a10, a11] H0.size) (Rw (.int (nI 0)) (fun H1 => MP D cI hm a1 a2 a3 a4 a5 a6 a7 a8 a9 a10 a11 (nI 2) S H1)) := by
  refine Mx.ofW (own := "FewBitsModel") rfl rfl ?_
  rintro p e s m below meth c ⟨hx, hb, hml, hr, hown, hW, hlk⟩ hnm het hH
  have hK := G.k hW
  have hD0 := hD
  obtain ⟨ki, ka, kb, zs, pu, ce, pa, tr, so, pl, ot, hP, hpic⟩ := hM
  have hD : va_D (Aa [hm, a1, a2, a3, a4, a5, a6, a7, a8, a9, a10, a11] H0.size) [(hm, .inr (4, [.int th, .ref a1, .ref a2, .ref a3, .ref a4, .ref a5, .ref a6, .ref a7, .ref a8, .ref a9, .ref a10, .ref a11])), (a1, aN cI 4 ki), (a2, aN cI 4 ka), (a3, aN cI 4 kb), (a4, aI cI 4 zs), (a5, aI cI 4 pu), (a6, aN cI 4096 ce), (a7, aN cI 1024 pa), (a8, aN cI 1024 tr), (a9, aI cI 256 so), (a10, aN cI 6 pl), (a11, aN cI 6 ot)] := va_D.same2 [hm, a1, a2, a3, a4, a5, a6, a7, a8, a9, a10, a11] (hD.aa (sz := H0.size)) rfl rfl
  have hS : va_S (Aa [hm, a1, a2, a3, a4, a5, a6, a7, a8, a9, a10, a11] H0.size) H0 H0 [] := va_S.rf
  have hl := lv_entry ([.ref hm, .int (nI j), .long x]) (n := 8) (Nat.le_of_ble_eq_true rfl)
  rw [lg_entry_eq]
  generalize (lg_sl ([.ref hm, .int (nI j), .long x]) ++ List.replicate (8 - (lg_sl ([.ref hm, .int (nI j), .long x])).length) Slot.unset).toArray = ls at hl ⊢
  have hl : lv_has ls 8 [(0, .ref hm), (1, .int (nI j)), (2, .long x)] := hl
  refine lv_aload_n hx hb d_M_remove_0 rfl (lv_at hl 0 rfl) ?_
  refine lv_aload_n hx hb d_M_remove_1 rfl (lv_at hl 0 rfl) ?_
  refine lv_iload_n hx hb d_M_remove_2 rfl (lv_at hl 1 rfl) ?_
  refine mx_callR (r := .int (nI (if (S j).1 = 0 then 2 else 0))) (c_M_wrg G hm a1 a2 a3 a4 a5 a6 a7 a8 a9 a10 a11 th S j ⟨ki, ka, kb, zs, pu, ce, pa, tr, so, pl, ot, hP, hpic⟩ hD0 hok hj) hW (iv_M_remove_3 G hx hb hown hW (va_recv hK hP (ci := 4) (q0 := 0) rfl rfl) [.int (nI j)] [.ref hm] rfl) hml hl.1 (by rw [hb]; exact d_M_remove_3) (cd_M_wrong G hW) ⟨Nat.le_of_ble_eq_true rfl, Nat.le_of_ble_eq_true rfl⟩ rfl rfl (Nat.le_of_ble_eq_true rfl) (Nat.le_of_ble_eq_true rfl) (Nat.le_of_ble_eq_true rfl) ?_
  refine tp_i (y := (nI 2)) (by rw [if_pos h0]) ?_
  refine va_put (D := D) (ci := 4) (v := .int (nI 2)) (ty := .int) (C := R_M) (T := T_M) (N := 12) hx hb (us_M G hW) (fun _ h => h) t_M to_M nm_M hown hK hP hD hS 0 rfl rfl 0 (by decide) (fl_M_43 G hW) (fun _ h9 => h9) rfl (by decide +kernel) rfl rfl (Nat.le_of_ble_eq_true rfl) d_M_remove_6 (fun H locs hP hD hS => ?_)
  have hP : va_P D vcl [(hm, .inr (4, [.int (nI 2), .ref a1, .ref a2, .ref a3, .ref a4, .ref a5, .ref a6, .ref a7, .ref a8, .ref a9, .ref a10, .ref a11])), (a1, aN cI 4 ki), (a2, aN cI 4 ka), (a3, aN cI 4 kb), (a4, aI cI 4 zs), (a5, aI cI 4 pu), (a6, aN cI 4096 ce), (a7, aN cI 1024 pa), (a8, aN cI 1024 tr), (a9, aI cI 256 so), (a10, aN cI 6 pl), (a11, aN cI 6 ot)] H := hP
  have hD : va_D (Aa [hm, a1, a2, a3, a4, a5, a6, a7, a8, a9, a10, a11] H0.size) [(hm, .inr (4, [.int (nI 2), .ref a1, .ref a2, .ref a3, .ref a4, .ref a5, .ref a6, .ref a7, .ref a8, .ref a9, .ref a10, .ref a11])), (a1, aN cI 4 ki), (a2, aN cI 4 ka), (a3, aN cI 4 kb), (a4, aI cI 4 zs), (a5, aI cI 4 pu), (a6, aN cI 4096 ce), (a7, aN cI 1024 pa), (a8, aN cI 1024 tr), (a9, aI cI 256 so), (a10, aN cI 6 pl), (a11, aN cI 6 ot)] := hD
  refine lv_aload_n hx hb d_M_remove_9 rfl (lv_at hl 0 rfl) ?_
  refine va_get (D := D) (ci := 4) (v := .int (nI 2)) (C := R_M) (T := T_M) (N := 12) hx hb (us_M G hW) (fun _ h => h) hown hK hP 0 rfl rfl 0 (by decide) (fl_M_43 G hW) (fun _ h9 => h9) rfl d_M_remove_10 ?_
  refine lv_if_le (tgt := 18) hx hb d_M_remove_13 (by decide) (fun c_13 => absurd c_13 (by decide)) (fun c_13 => ?_)
  refine lv_iconst (v := (nI 0)) hx hb d_M_remove_16 (by decide) ?_
  exact mx_iret hx hb hr hlk d_M_remove_17 (Nat.le_of_ble_eq_true rfl) (Nat.le_of_ble_eq_true rfl) hS.2.2 (⟨rfl, ki, ka, kb, zs, pu, ce, pa, tr, so, pl, ot, hP, hpic⟩)

set_option maxHeartbeats 4000000 in
set_option maxRecDepth 100000 in
theorem c_M_same_no {l : Launch} {s0 : State} {D : va_G} {cI cF cJ : ClassId} (G : Gx l s0 D cI cF cJ) (hm a1 a2 a3 a4 a5 a6 a7 a8 a9 a10 a11 : Nat) (th : Int32) (S : Nat → FS) (v : Int32) (x : Int64) (y : Int64) {H0 : Heap} {A0 : Nat → Prop} (hM : MP D cI hm a1 a2 a3 a4 a5 a6 a7 a8 a9 a10 a11 th S H0) (hD : va_D A0 (adM hm a1 a2 a3 a4 a5 a6 a7 a8 a9 a10 a11)) (hok : ∀ i, i < 4 → okS (S i)) (hv : isNum v = false) : Mx l s0 y_M_same (.code y_M_same b_M_same 9 (some .boolean)) { frames := 7, cells := 0, slots := 0, locals := 170 } [.ref hm, .int v, .long x, .long y] H0 (Aa [hm, a1, a2, a3, a4, a5, a6, a7, a8, a9, a10, a11] H0.size) (Rw (.int (nI 0)) (fun H1 => MP D cI hm a1 a2 a3 a4 a5 a6 a7 a8 a9 a10 a11 (nI 1) S H1)) := by
  refine Mx.ofW (own := "FewBitsModel") rfl rfl ?_
  rintro p e s m below meth c ⟨hx, hb, hml, hr, hown, hW, hlk⟩ hnm het hH
  have hK := G.k hW
  have hD0 := hD
  obtain ⟨ki, ka, kb, zs, pu, ce, pa, tr, so, pl, ot, hP, hpic⟩ := hM
  have hD : va_D (Aa [hm, a1, a2, a3, a4, a5, a6, a7, a8, a9, a10, a11] H0.size) [(hm, .inr (4, [.int th, .ref a1, .ref a2, .ref a3, .ref a4, .ref a5, .ref a6, .ref a7, .ref a8, .ref a9, .ref a10, .ref a11])), (a1, aN cI 4 ki), (a2, aN cI 4 ka), (a3, aN cI 4 kb), (a4, aI cI 4 zs), (a5, aI cI 4 pu), (a6, aN cI 4096 ce), (a7, aN cI 1024 pa), (a8, aN cI 1024 tr), (a9, aI cI 256 so), (a10, aN cI 6 pl), (a11, aN cI 6 ot)] := va_D.same2 [hm, a1, a2, a3, a4, a5, a6, a7, a8, a9, a10, a11] (hD.aa (sz := H0.size)) rfl rfl
  have hS : va_S (Aa [hm, a1, a2, a3, a4, a5, a6, a7, a8, a9, a10, a11] H0.size) H0 H0 [] := va_S.rf
  have hl := lv_entry ([.ref hm, .int v, .long x, .long y]) (n := 9) (Nat.le_of_ble_eq_true rfl)
  rw [lg_entry_eq]
  generalize (lg_sl ([.ref hm, .int v, .long x, .long y]) ++ List.replicate (9 - (lg_sl ([.ref hm, .int v, .long x, .long y])).length) Slot.unset).toArray = ls at hl ⊢
  have hl : lv_has ls 9 [(0, .ref hm), (1, .int v), (2, .long x), (4, .long y)] := hl
  refine lv_aload_n hx hb d_M_same_0 rfl (lv_at hl 0 rfl) ?_
  refine lv_aload_n hx hb d_M_same_1 rfl (lv_at hl 0 rfl) ?_
  refine lv_iload_n hx hb d_M_same_2 rfl (lv_at hl 1 rfl) ?_
  refine mx_callR (r := .int (nI 1)) (c_M_wrong_n G hm a1 a2 a3 a4 a5 a6 a7 a8 a9 a10 a11 th ki ka kb zs pu ce pa tr so pl ot v hP hv) hW (iv_M_same_3 G hx hb hown hW (va_recv hK hP (ci := 4) (q0 := 0) rfl rfl) [.int v] [.ref hm] rfl) hml hl.1 (by rw [hb]; exact d_M_same_3) (cd_M_wrong G hW) ⟨Nat.le_of_ble_eq_true rfl, Nat.le_of_ble_eq_true rfl⟩ rfl rfl (Nat.le_of_ble_eq_true rfl) (Nat.le_of_ble_eq_true rfl) (Nat.le_of_ble_eq_true rfl) ?_
  refine va_put (D := D) (ci := 4) (v := .int (nI 1)) (ty := .int) (C := R_M) (T := T_M) (N := 12) hx hb (us_M G hW) (fun _ h => h) t_M to_M nm_M hown hK hP hD hS 0 rfl rfl 0 (by decide) (fl_M_43 G hW) (fun _ h9 => h9) rfl (by decide +kernel) rfl rfl (Nat.le_of_ble_eq_true rfl) d_M_same_6 (fun H locs hP hD hS => ?_)
  have hP : va_P D vcl [(hm, .inr (4, [.int (nI 1), .ref a1, .ref a2, .ref a3, .ref a4, .ref a5, .ref a6, .ref a7, .ref a8, .ref a9, .ref a10, .ref a11])), (a1, aN cI 4 ki), (a2, aN cI 4 ka), (a3, aN cI 4 kb), (a4, aI cI 4 zs), (a5, aI cI 4 pu), (a6, aN cI 4096 ce), (a7, aN cI 1024 pa), (a8, aN cI 1024 tr), (a9, aI cI 256 so), (a10, aN cI 6 pl), (a11, aN cI 6 ot)] H := hP
  have hD : va_D (Aa [hm, a1, a2, a3, a4, a5, a6, a7, a8, a9, a10, a11] H0.size) [(hm, .inr (4, [.int (nI 1), .ref a1, .ref a2, .ref a3, .ref a4, .ref a5, .ref a6, .ref a7, .ref a8, .ref a9, .ref a10, .ref a11])), (a1, aN cI 4 ki), (a2, aN cI 4 ka), (a3, aN cI 4 kb), (a4, aI cI 4 zs), (a5, aI cI 4 pu), (a6, aN cI 4096 ce), (a7, aN cI 1024 pa), (a8, aN cI 1024 tr), (a9, aI cI 256 so), (a10, aN cI 6 pl), (a11, aN cI 6 ot)] := hD
  refine lv_aload_n hx hb d_M_same_9 rfl (lv_at hl 0 rfl) ?_
  refine va_get (D := D) (ci := 4) (v := .int (nI 1)) (C := R_M) (T := T_M) (N := 12) hx hb (us_M G hW) (fun _ h => h) hown hK hP 0 rfl rfl 0 (by decide) (fl_M_43 G hW) (fun _ h9 => h9) rfl d_M_same_10 ?_
  refine lv_if_le (tgt := 18) hx hb d_M_same_13 (by decide) (fun c_13 => absurd c_13 (by decide)) (fun c_13 => ?_)
  refine lv_iconst (v := (nI 0)) hx hb d_M_same_16 (by decide) ?_
  exact mx_zret hx hb hr hlk d_M_same_17 (Nat.le_of_ble_eq_true rfl) (Nat.le_of_ble_eq_true rfl) hS.2.2 (rfl) (⟨rfl, ki, ka, kb, zs, pu, ce, pa, tr, so, pl, ot, hP, hpic⟩)

set_option maxHeartbeats 4000000 in
set_option maxRecDepth 100000 in
theorem c_M_same_none {l : Launch} {s0 : State} {D : va_G} {cI cF cJ : ClassId} (G : Gx l s0 D cI cF cJ) (hm a1 a2 a3 a4 a5 a6 a7 a8 a9 a10 a11 : Nat) (th : Int32) (S : Nat → FS) (j : Nat) (x : Int64) (y : Int64) {H0 : Heap} {A0 : Nat → Prop} (hM : MP D cI hm a1 a2 a3 a4 a5 a6 a7 a8 a9 a10 a11 th S H0) (hD : va_D A0 (adM hm a1 a2 a3 a4 a5 a6 a7 a8 a9 a10 a11)) (hok : ∀ i, i < 4 → okS (S i)) (hj : j < 4) (h0 : (S j).1 = 0) : Mx l s0 y_M_same (.code y_M_same b_M_same 9 (some .boolean)) { frames := 7, cells := 0, slots := 0, locals := 170 } [.ref hm, .int (nI j), .long x, .long y] H0 (Aa [hm, a1, a2, a3, a4, a5, a6, a7, a8, a9, a10, a11] H0.size) (Rw (.int (nI 0)) (fun H1 => MP D cI hm a1 a2 a3 a4 a5 a6 a7 a8 a9 a10 a11 (nI 2) S H1)) := by
  refine Mx.ofW (own := "FewBitsModel") rfl rfl ?_
  rintro p e s m below meth c ⟨hx, hb, hml, hr, hown, hW, hlk⟩ hnm het hH
  have hK := G.k hW
  have hD0 := hD
  obtain ⟨ki, ka, kb, zs, pu, ce, pa, tr, so, pl, ot, hP, hpic⟩ := hM
  have hD : va_D (Aa [hm, a1, a2, a3, a4, a5, a6, a7, a8, a9, a10, a11] H0.size) [(hm, .inr (4, [.int th, .ref a1, .ref a2, .ref a3, .ref a4, .ref a5, .ref a6, .ref a7, .ref a8, .ref a9, .ref a10, .ref a11])), (a1, aN cI 4 ki), (a2, aN cI 4 ka), (a3, aN cI 4 kb), (a4, aI cI 4 zs), (a5, aI cI 4 pu), (a6, aN cI 4096 ce), (a7, aN cI 1024 pa), (a8, aN cI 1024 tr), (a9, aI cI 256 so), (a10, aN cI 6 pl), (a11, aN cI 6 ot)] := va_D.same2 [hm, a1, a2, a3, a4, a5, a6, a7, a8, a9, a10, a11] (hD.aa (sz := H0.size)) rfl rfl
  have hS : va_S (Aa [hm, a1, a2, a3, a4, a5, a6, a7, a8, a9, a10, a11] H0.size) H0 H0 [] := va_S.rf
  have hl := lv_entry ([.ref hm, .int (nI j), .long x, .long y]) (n := 9) (Nat.le_of_ble_eq_true rfl)
  rw [lg_entry_eq]
  generalize (lg_sl ([.ref hm, .int (nI j), .long x, .long y]) ++ List.replicate (9 - (lg_sl ([.ref hm, .int (nI j), .long x, .long y])).length) Slot.unset).toArray = ls at hl ⊢
  have hl : lv_has ls 9 [(0, .ref hm), (1, .int (nI j)), (2, .long x), (4, .long y)] := hl
  refine lv_aload_n hx hb d_M_same_0 rfl (lv_at hl 0 rfl) ?_
  refine lv_aload_n hx hb d_M_same_1 rfl (lv_at hl 0 rfl) ?_
  refine lv_iload_n hx hb d_M_same_2 rfl (lv_at hl 1 rfl) ?_
  refine mx_callR (r := .int (nI (if (S j).1 = 0 then 2 else 0))) (c_M_wrg G hm a1 a2 a3 a4 a5 a6 a7 a8 a9 a10 a11 th S j ⟨ki, ka, kb, zs, pu, ce, pa, tr, so, pl, ot, hP, hpic⟩ hD0 hok hj) hW (iv_M_same_3 G hx hb hown hW (va_recv hK hP (ci := 4) (q0 := 0) rfl rfl) [.int (nI j)] [.ref hm] rfl) hml hl.1 (by rw [hb]; exact d_M_same_3) (cd_M_wrong G hW) ⟨Nat.le_of_ble_eq_true rfl, Nat.le_of_ble_eq_true rfl⟩ rfl rfl (Nat.le_of_ble_eq_true rfl) (Nat.le_of_ble_eq_true rfl) (Nat.le_of_ble_eq_true rfl) ?_
  refine tp_i (y := (nI 2)) (by rw [if_pos h0]) ?_
  refine va_put (D := D) (ci := 4) (v := .int (nI 2)) (ty := .int) (C := R_M) (T := T_M) (N := 12) hx hb (us_M G hW) (fun _ h => h) t_M to_M nm_M hown hK hP hD hS 0 rfl rfl 0 (by decide) (fl_M_43 G hW) (fun _ h9 => h9) rfl (by decide +kernel) rfl rfl (Nat.le_of_ble_eq_true rfl) d_M_same_6 (fun H locs hP hD hS => ?_)
  have hP : va_P D vcl [(hm, .inr (4, [.int (nI 2), .ref a1, .ref a2, .ref a3, .ref a4, .ref a5, .ref a6, .ref a7, .ref a8, .ref a9, .ref a10, .ref a11])), (a1, aN cI 4 ki), (a2, aN cI 4 ka), (a3, aN cI 4 kb), (a4, aI cI 4 zs), (a5, aI cI 4 pu), (a6, aN cI 4096 ce), (a7, aN cI 1024 pa), (a8, aN cI 1024 tr), (a9, aI cI 256 so), (a10, aN cI 6 pl), (a11, aN cI 6 ot)] H := hP
  have hD : va_D (Aa [hm, a1, a2, a3, a4, a5, a6, a7, a8, a9, a10, a11] H0.size) [(hm, .inr (4, [.int (nI 2), .ref a1, .ref a2, .ref a3, .ref a4, .ref a5, .ref a6, .ref a7, .ref a8, .ref a9, .ref a10, .ref a11])), (a1, aN cI 4 ki), (a2, aN cI 4 ka), (a3, aN cI 4 kb), (a4, aI cI 4 zs), (a5, aI cI 4 pu), (a6, aN cI 4096 ce), (a7, aN cI 1024 pa), (a8, aN cI 1024 tr), (a9, aI cI 256 so), (a10, aN cI 6 pl), (a11, aN cI 6 ot)] := hD
  refine lv_aload_n hx hb d_M_same_9 rfl (lv_at hl 0 rfl) ?_
  refine va_get (D := D) (ci := 4) (v := .int (nI 2)) (C := R_M) (T := T_M) (N := 12) hx hb (us_M G hW) (fun _ h => h) hown hK hP 0 rfl rfl 0 (by decide) (fl_M_43 G hW) (fun _ h9 => h9) rfl d_M_same_10 ?_
  refine lv_if_le (tgt := 18) hx hb d_M_same_13 (by decide) (fun c_13 => absurd c_13 (by decide)) (fun c_13 => ?_)
  refine lv_iconst (v := (nI 0)) hx hb d_M_same_16 (by decide) ?_
  exact mx_zret hx hb hr hlk d_M_same_17 (Nat.le_of_ble_eq_true rfl) (Nat.le_of_ble_eq_true rfl) hS.2.2 (rfl) (⟨rfl, ki, ka, kb, zs, pu, ce, pa, tr, so, pl, ot, hP, hpic⟩)

set_option maxHeartbeats 4000000 in
set_option maxRecDepth 100000 in
theorem c_M_clear_no {l : Launch} {s0 : State} {D : va_G} {cI cF cJ : ClassId} (G : Gx l s0 D cI cF cJ) (hm a1 a2 a3 a4 a5 a6 a7 a8 a9 a10 a11 : Nat) (th : Int32) (S : Nat → FS) (v : Int32)  {H0 : Heap} {A0 : Nat → Prop} (hM : MP D cI hm a1 a2 a3 a4 a5 a6 a7 a8 a9 a10 a11 th S H0) (hD : va_D A0 (adM hm a1 a2 a3 a4 a5 a6 a7 a8 a9 a10 a11)) (hok : ∀ i, i < 4 → okS (S i)) (hv : isNum v = false) : Mx l s0 y_M_clear (.code y_M_clear b_M_clear 3 (some .int)) { frames := 7, cells := 0, slots := 0, locals := 170 } [.ref hm, .int v] H0 (Aa [hm, a1, a2, a3, a4, a5, a6, a7, a8, a9, a10, a11] H0.size) (Rw (.int (nI 0)) (fun H1 => MP D cI hm a1 a2 a3 a4 a5 a6 a7 a8 a9 a10 a11 (nI 1) S H1)) := by
  refine Mx.ofW (own := "FewBitsModel") rfl rfl ?_
  rintro p e s m below meth c ⟨hx, hb, hml, hr, hown, hW, hlk⟩ hnm het hH
  have hK := G.k hW
  have hD0 := hD
  obtain ⟨ki, ka, kb, zs, pu, ce, pa, tr, so, pl, ot, hP, hpic⟩ := hM
  have hD : va_D (Aa [hm, a1, a2, a3, a4, a5, a6, a7, a8, a9, a10, a11] H0.size) [(hm, .inr (4, [.int th, .ref a1, .ref a2, .ref a3, .ref a4, .ref a5, .ref a6, .ref a7, .ref a8, .ref a9, .ref a10, .ref a11])), (a1, aN cI 4 ki), (a2, aN cI 4 ka), (a3, aN cI 4 kb), (a4, aI cI 4 zs), (a5, aI cI 4 pu), (a6, aN cI 4096 ce), (a7, aN cI 1024 pa), (a8, aN cI 1024 tr), (a9, aI cI 256 so), (a10, aN cI 6 pl), (a11, aN cI 6 ot)] := va_D.same2 [hm, a1, a2, a3, a4, a5, a6, a7, a8, a9, a10, a11] (hD.aa (sz := H0.size)) rfl rfl
  have hS : va_S (Aa [hm, a1, a2, a3, a4, a5, a6, a7, a8, a9, a10, a11] H0.size) H0 H0 [] := va_S.rf
  have hl := lv_entry ([.ref hm, .int v]) (n := 3) (Nat.le_of_ble_eq_true rfl)
  rw [lg_entry_eq]
  generalize (lg_sl ([.ref hm, .int v]) ++ List.replicate (3 - (lg_sl ([.ref hm, .int v])).length) Slot.unset).toArray = ls at hl ⊢
  have hl : lv_has ls 3 [(0, .ref hm), (1, .int v)] := hl
  refine lv_aload_n hx hb d_M_clear_0 rfl (lv_at hl 0 rfl) ?_
  refine lv_aload_n hx hb d_M_clear_1 rfl (lv_at hl 0 rfl) ?_
  refine lv_iload_n hx hb d_M_clear_2 rfl (lv_at hl 1 rfl) ?_
  refine mx_callR (r := .int (nI 1)) (c_M_wrong_n G hm a1 a2 a3 a4 a5 a6 a7 a8 a9 a10 a11 th ki ka kb zs pu ce pa tr so pl ot v hP hv) hW (iv_M_clear_3 G hx hb hown hW (va_recv hK hP (ci := 4) (q0 := 0) rfl rfl) [.int v] [.ref hm] rfl) hml hl.1 (by rw [hb]; exact d_M_clear_3) (cd_M_wrong G hW) ⟨Nat.le_of_ble_eq_true rfl, Nat.le_of_ble_eq_true rfl⟩ rfl rfl (Nat.le_of_ble_eq_true rfl) (Nat.le_of_ble_eq_true rfl) (Nat.le_of_ble_eq_true rfl) ?_
  refine va_put (D := D) (ci := 4) (v := .int (nI 1)) (ty := .int) (C := R_M) (T := T_M) (N := 12) hx hb (us_M G hW) (fun _ h => h) t_M to_M nm_M hown hK hP hD hS 0 rfl rfl 0 (by decide) (fl_M_43 G hW) (fun _ h9 => h9) rfl (by decide +kernel) rfl rfl (Nat.le_of_ble_eq_true rfl) d_M_clear_6 (fun H locs hP hD hS => ?_)
  have hP : va_P D vcl [(hm, .inr (4, [.int (nI 1), .ref a1, .ref a2, .ref a3, .ref a4, .ref a5, .ref a6, .ref a7, .ref a8, .ref a9, .ref a10, .ref a11])), (a1, aN cI 4 ki), (a2, aN cI 4 ka), (a3, aN cI 4 kb), (a4, aI cI 4 zs), (a5, aI cI 4 pu), (a6, aN cI 4096 ce), (a7, aN cI 1024 pa), (a8, aN cI 1024 tr), (a9, aI cI 256 so), (a10, aN cI 6 pl), (a11, aN cI 6 ot)] H := hP
  have hD : va_D (Aa [hm, a1, a2, a3, a4, a5, a6, a7, a8, a9, a10, a11] H0.size) [(hm, .inr (4, [.int (nI 1), .ref a1, .ref a2, .ref a3, .ref a4, .ref a5, .ref a6, .ref a7, .ref a8, .ref a9, .ref a10, .ref a11])), (a1, aN cI 4 ki), (a2, aN cI 4 ka), (a3, aN cI 4 kb), (a4, aI cI 4 zs), (a5, aI cI 4 pu), (a6, aN cI 4096 ce), (a7, aN cI 1024 pa), (a8, aN cI 1024 tr), (a9, aI cI 256 so), (a10, aN cI 6 pl), (a11, aN cI 6 ot)] := hD
  refine lv_aload_n hx hb d_M_clear_9 rfl (lv_at hl 0 rfl) ?_
  refine va_get (D := D) (ci := 4) (v := .int (nI 1)) (C := R_M) (T := T_M) (N := 12) hx hb (us_M G hW) (fun _ h => h) hown hK hP 0 rfl rfl 0 (by decide) (fl_M_43 G hW) (fun _ h9 => h9) rfl d_M_clear_10 ?_
  refine lv_if_le (tgt := 18) hx hb d_M_clear_13 (by decide) (fun c_13 => absurd c_13 (by decide)) (fun c_13 => ?_)
  refine lv_iconst (v := (nI 0)) hx hb d_M_clear_16 (by decide) ?_
  exact mx_iret hx hb hr hlk d_M_clear_17 (Nat.le_of_ble_eq_true rfl) (Nat.le_of_ble_eq_true rfl) hS.2.2 (⟨rfl, ki, ka, kb, zs, pu, ce, pa, tr, so, pl, ot, hP, hpic⟩)

set_option maxHeartbeats 4000000 in
set_option maxRecDepth 100000 in
theorem c_M_clear_none {l : Launch} {s0 : State} {D : va_G} {cI cF cJ : ClassId} (G : Gx l s0 D cI cF cJ) (hm a1 a2 a3 a4 a5 a6 a7 a8 a9 a10 a11 : Nat) (th : Int32) (S : Nat → FS) (j : Nat)  {H0 : Heap} {A0 : Nat → Prop} (hM : MP D cI hm a1 a2 a3 a4 a5 a6 a7 a8 a9 a10 a11 th S H0) (hD : va_D A0 (adM hm a1 a2 a3 a4 a5 a6 a7 a8 a9 a10 a11)) (hok : ∀ i, i < 4 → okS (S i)) (hj : j < 4) (h0 : (S j).1 = 0) : Mx l s0 y_M_clear (.code y_M_clear b_M_clear 3 (some .int)) { frames := 7, cells := 0, slots := 0, locals := 170 } [.ref hm, .int (nI j)] H0 (Aa [hm, a1, a2, a3, a4, a5, a6, a7, a8, a9, a10, a11] H0.size) (Rw (.int (nI 0)) (fun H1 => MP D cI hm a1 a2 a3 a4 a5 a6 a7 a8 a9 a10 a11 (nI 2) S H1)) := by
  refine Mx.ofW (own := "FewBitsModel") rfl rfl ?_
  rintro p e s m below meth c ⟨hx, hb, hml, hr, hown, hW, hlk⟩ hnm het hH
  have hK := G.k hW
  have hD0 := hD
  obtain ⟨ki, ka, kb, zs, pu, ce, pa, tr, so, pl, ot, hP, hpic⟩ := hM
  have hD : va_D (Aa [hm, a1, a2, a3, a4, a5, a6, a7, a8, a9, a10, a11] H0.size) [(hm, .inr (4, [.int th, .ref a1, .ref a2, .ref a3, .ref a4, .ref a5, .ref a6, .ref a7, .ref a8, .ref a9, .ref a10, .ref a11])), (a1, aN cI 4 ki), (a2, aN cI 4 ka), (a3, aN cI 4 kb), (a4, aI cI 4 zs), (a5, aI cI 4 pu), (a6, aN cI 4096 ce), (a7, aN cI 1024 pa), (a8, aN cI 1024 tr), (a9, aI cI 256 so), (a10, aN cI 6 pl), (a11, aN cI 6 ot)] := va_D.same2 [hm, a1, a2, a3, a4, a5, a6, a7, a8, a9, a10, a11] (hD.aa (sz := H0.size)) rfl rfl
  have hS : va_S (Aa [hm, a1, a2, a3, a4, a5, a6, a7, a8, a9, a10, a11] H0.size) H0 H0 [] := va_S.rf
  have hl := lv_entry ([.ref hm, .int (nI j)]) (n := 3) (Nat.le_of_ble_eq_true rfl)
  rw [lg_entry_eq]
  generalize (lg_sl ([.ref hm, .int (nI j)]) ++ List.replicate (3 - (lg_sl ([.ref hm, .int (nI j)])).length) Slot.unset).toArray = ls at hl ⊢
  have hl : lv_has ls 3 [(0, .ref hm), (1, .int (nI j))] := hl
  refine lv_aload_n hx hb d_M_clear_0 rfl (lv_at hl 0 rfl) ?_
  refine lv_aload_n hx hb d_M_clear_1 rfl (lv_at hl 0 rfl) ?_
  refine lv_iload_n hx hb d_M_clear_2 rfl (lv_at hl 1 rfl) ?_
  refine mx_callR (r := .int (nI (if (S j).1 = 0 then 2 else 0))) (c_M_wrg G hm a1 a2 a3 a4 a5 a6 a7 a8 a9 a10 a11 th S j ⟨ki, ka, kb, zs, pu, ce, pa, tr, so, pl, ot, hP, hpic⟩ hD0 hok hj) hW (iv_M_clear_3 G hx hb hown hW (va_recv hK hP (ci := 4) (q0 := 0) rfl rfl) [.int (nI j)] [.ref hm] rfl) hml hl.1 (by rw [hb]; exact d_M_clear_3) (cd_M_wrong G hW) ⟨Nat.le_of_ble_eq_true rfl, Nat.le_of_ble_eq_true rfl⟩ rfl rfl (Nat.le_of_ble_eq_true rfl) (Nat.le_of_ble_eq_true rfl) (Nat.le_of_ble_eq_true rfl) ?_
  refine tp_i (y := (nI 2)) (by rw [if_pos h0]) ?_
  refine va_put (D := D) (ci := 4) (v := .int (nI 2)) (ty := .int) (C := R_M) (T := T_M) (N := 12) hx hb (us_M G hW) (fun _ h => h) t_M to_M nm_M hown hK hP hD hS 0 rfl rfl 0 (by decide) (fl_M_43 G hW) (fun _ h9 => h9) rfl (by decide +kernel) rfl rfl (Nat.le_of_ble_eq_true rfl) d_M_clear_6 (fun H locs hP hD hS => ?_)
  have hP : va_P D vcl [(hm, .inr (4, [.int (nI 2), .ref a1, .ref a2, .ref a3, .ref a4, .ref a5, .ref a6, .ref a7, .ref a8, .ref a9, .ref a10, .ref a11])), (a1, aN cI 4 ki), (a2, aN cI 4 ka), (a3, aN cI 4 kb), (a4, aI cI 4 zs), (a5, aI cI 4 pu), (a6, aN cI 4096 ce), (a7, aN cI 1024 pa), (a8, aN cI 1024 tr), (a9, aI cI 256 so), (a10, aN cI 6 pl), (a11, aN cI 6 ot)] H := hP
  have hD : va_D (Aa [hm, a1, a2, a3, a4, a5, a6, a7, a8, a9, a10, a11] H0.size) [(hm, .inr (4, [.int (nI 2), .ref a1, .ref a2, .ref a3, .ref a4, .ref a5, .ref a6, .ref a7, .ref a8, .ref a9, .ref a10, .ref a11])), (a1, aN cI 4 ki), (a2, aN cI 4 ka), (a3, aN cI 4 kb), (a4, aI cI 4 zs), (a5, aI cI 4 pu), (a6, aN cI 4096 ce), (a7, aN cI 1024 pa), (a8, aN cI 1024 tr), (a9, aI cI 256 so), (a10, aN cI 6 pl), (a11, aN cI 6 ot)] := hD
  refine lv_aload_n hx hb d_M_clear_9 rfl (lv_at hl 0 rfl) ?_
  refine va_get (D := D) (ci := 4) (v := .int (nI 2)) (C := R_M) (T := T_M) (N := 12) hx hb (us_M G hW) (fun _ h => h) hown hK hP 0 rfl rfl 0 (by decide) (fl_M_43 G hW) (fun _ h9 => h9) rfl d_M_clear_10 ?_
  refine lv_if_le (tgt := 18) hx hb d_M_clear_13 (by decide) (fun c_13 => absurd c_13 (by decide)) (fun c_13 => ?_)
  refine lv_iconst (v := (nI 0)) hx hb d_M_clear_16 (by decide) ?_
  exact mx_iret hx hb hr hlk d_M_clear_17 (Nat.le_of_ble_eq_true rfl) (Nat.le_of_ble_eq_true rfl) hS.2.2 (⟨rfl, ki, ka, kb, zs, pu, ce, pa, tr, so, pl, ot, hP, hpic⟩)

set_option maxHeartbeats 4000000 in
set_option maxRecDepth 100000 in
theorem c_M_has_no {l : Launch} {s0 : State} {D : va_G} {cI cF cJ : ClassId} (G : Gx l s0 D cI cF cJ) (hm a1 a2 a3 a4 a5 a6 a7 a8 a9 a10 a11 : Nat) (th : Int32) (S : Nat → FS) (v : Int32) (x : Int64) {H0 : Heap} {A0 : Nat → Prop} (hM : MP D cI hm a1 a2 a3 a4 a5 a6 a7 a8 a9 a10 a11 th S H0) (hD : va_D A0 (adM hm a1 a2 a3 a4 a5 a6 a7 a8 a9 a10 a11)) (hok : ∀ i, i < 4 → okS (S i)) (hv : isNum v = false) : Mx l s0 y_M_has (.code y_M_has b_M_has 4 (some .boolean)) { frames := 7, cells := 0, slots := 0, locals := 170 } [.ref hm, .int v, .long x] H0 (Aa [hm, a1, a2, a3, a4, a5, a6, a7, a8, a9, a10, a11] H0.size) (Rw (.int (nI 0)) (fun H1 => MP D cI hm a1 a2 a3 a4 a5 a6 a7 a8 a9 a10 a11 (nI 1) S H1)) := by
  refine Mx.ofW (own := "FewBitsModel") rfl rfl ?_
  rintro p e s m below meth c ⟨hx, hb, hml, hr, hown, hW, hlk⟩ hnm het hH
  have hK := G.k hW
  have hD0 := hD
  obtain ⟨ki, ka, kb, zs, pu, ce, pa, tr, so, pl, ot, hP, hpic⟩ := hM
  have hD : va_D (Aa [hm, a1, a2, a3, a4, a5, a6, a7, a8, a9, a10, a11] H0.size) [(hm, .inr (4, [.int th, .ref a1, .ref a2, .ref a3, .ref a4, .ref a5, .ref a6, .ref a7, .ref a8, .ref a9, .ref a10, .ref a11])), (a1, aN cI 4 ki), (a2, aN cI 4 ka), (a3, aN cI 4 kb), (a4, aI cI 4 zs), (a5, aI cI 4 pu), (a6, aN cI 4096 ce), (a7, aN cI 1024 pa), (a8, aN cI 1024 tr), (a9, aI cI 256 so), (a10, aN cI 6 pl), (a11, aN cI 6 ot)] := va_D.same2 [hm, a1, a2, a3, a4, a5, a6, a7, a8, a9, a10, a11] (hD.aa (sz := H0.size)) rfl rfl
  have hS : va_S (Aa [hm, a1, a2, a3, a4, a5, a6, a7, a8, a9, a10, a11] H0.size) H0 H0 [] := va_S.rf
  have hl := lv_entry ([.ref hm, .int v, .long x]) (n := 4) (Nat.le_of_ble_eq_true rfl)
  rw [lg_entry_eq]
  generalize (lg_sl ([.ref hm, .int v, .long x]) ++ List.replicate (4 - (lg_sl ([.ref hm, .int v, .long x])).length) Slot.unset).toArray = ls at hl ⊢
  have hl : lv_has ls 4 [(0, .ref hm), (1, .int v), (2, .long x)] := hl
  refine lv_aload_n hx hb d_M_has_0 rfl (lv_at hl 0 rfl) ?_
  refine lv_aload_n hx hb d_M_has_1 rfl (lv_at hl 0 rfl) ?_
  refine lv_iload_n hx hb d_M_has_2 rfl (lv_at hl 1 rfl) ?_
  refine mx_callR (r := .int (nI 1)) (c_M_wrong_n G hm a1 a2 a3 a4 a5 a6 a7 a8 a9 a10 a11 th ki ka kb zs pu ce pa tr so pl ot v hP hv) hW (iv_M_has_3 G hx hb hown hW (va_recv hK hP (ci := 4) (q0 := 0) rfl rfl) [.int v] [.ref hm] rfl) hml hl.1 (by rw [hb]; exact d_M_has_3) (cd_M_wrong G hW) ⟨Nat.le_of_ble_eq_true rfl, Nat.le_of_ble_eq_true rfl⟩ rfl rfl (Nat.le_of_ble_eq_true rfl) (Nat.le_of_ble_eq_true rfl) (Nat.le_of_ble_eq_true rfl) ?_
  refine va_put (D := D) (ci := 4) (v := .int (nI 1)) (ty := .int) (C := R_M) (T := T_M) (N := 12) hx hb (us_M G hW) (fun _ h => h) t_M to_M nm_M hown hK hP hD hS 0 rfl rfl 0 (by decide) (fl_M_43 G hW) (fun _ h9 => h9) rfl (by decide +kernel) rfl rfl (Nat.le_of_ble_eq_true rfl) d_M_has_6 (fun H locs hP hD hS => ?_)
  have hP : va_P D vcl [(hm, .inr (4, [.int (nI 1), .ref a1, .ref a2, .ref a3, .ref a4, .ref a5, .ref a6, .ref a7, .ref a8, .ref a9, .ref a10, .ref a11])), (a1, aN cI 4 ki), (a2, aN cI 4 ka), (a3, aN cI 4 kb), (a4, aI cI 4 zs), (a5, aI cI 4 pu), (a6, aN cI 4096 ce), (a7, aN cI 1024 pa), (a8, aN cI 1024 tr), (a9, aI cI 256 so), (a10, aN cI 6 pl), (a11, aN cI 6 ot)] H := hP
  have hD : va_D (Aa [hm, a1, a2, a3, a4, a5, a6, a7, a8, a9, a10, a11] H0.size) [(hm, .inr (4, [.int (nI 1), .ref a1, .ref a2, .ref a3, .ref a4, .ref a5, .ref a6, .ref a7, .ref a8, .ref a9, .ref a10, .ref a11])), (a1, aN cI 4 ki), (a2, aN cI 4 ka), (a3, aN cI 4 kb), (a4, aI cI 4 zs), (a5, aI cI 4 pu), (a6, aN cI 4096 ce), (a7, aN cI 1024 pa), (a8, aN cI 1024 tr), (a9, aI cI 256 so), (a10, aN cI 6 pl), (a11, aN cI 6 ot)] := hD
  refine lv_aload_n hx hb d_M_has_9 rfl (lv_at hl 0 rfl) ?_
  refine va_get (D := D) (ci := 4) (v := .int (nI 1)) (C := R_M) (T := T_M) (N := 12) hx hb (us_M G hW) (fun _ h => h) hown hK hP 0 rfl rfl 0 (by decide) (fl_M_43 G hW) (fun _ h9 => h9) rfl d_M_has_10 ?_
  refine lv_if_ne (tgt := 29) hx hb d_M_has_13 (by decide) (fun c_13 => ?_) (fun c_13 => absurd c_13 (by decide))
  refine lv_iconst (v := (nI 0)) hx hb d_M_has_29 (by decide) ?_
  exact mx_zret hx hb hr hlk d_M_has_30 (Nat.le_of_ble_eq_true rfl) (Nat.le_of_ble_eq_true rfl) hS.2.2 (rfl) (⟨rfl, ki, ka, kb, zs, pu, ce, pa, tr, so, pl, ot, hP, hpic⟩)

set_option maxHeartbeats 4000000 in
set_option maxRecDepth 100000 in
theorem c_M_has_none {l : Launch} {s0 : State} {D : va_G} {cI cF cJ : ClassId} (G : Gx l s0 D cI cF cJ) (hm a1 a2 a3 a4 a5 a6 a7 a8 a9 a10 a11 : Nat) (th : Int32) (S : Nat → FS) (j : Nat) (x : Int64) {H0 : Heap} {A0 : Nat → Prop} (hM : MP D cI hm a1 a2 a3 a4 a5 a6 a7 a8 a9 a10 a11 th S H0) (hD : va_D A0 (adM hm a1 a2 a3 a4 a5 a6 a7 a8 a9 a10 a11)) (hok : ∀ i, i < 4 → okS (S i)) (hj : j < 4) (h0 : (S j).1 = 0) : Mx l s0 y_M_has (.code y_M_has b_M_has 4 (some .boolean)) { frames := 7, cells := 0, slots := 0, locals := 170 } [.ref hm, .int (nI j), .long x] H0 (Aa [hm, a1, a2, a3, a4, a5, a6, a7, a8, a9, a10, a11] H0.size) (Rw (.int (nI 0)) (fun H1 => MP D cI hm a1 a2 a3 a4 a5 a6 a7 a8 a9 a10 a11 (nI 2) S H1)) := by
  refine Mx.ofW (own := "FewBitsModel") rfl rfl ?_
  rintro p e s m below meth c ⟨hx, hb, hml, hr, hown, hW, hlk⟩ hnm het hH
  have hK := G.k hW
  have hD0 := hD
  obtain ⟨ki, ka, kb, zs, pu, ce, pa, tr, so, pl, ot, hP, hpic⟩ := hM
  have hD : va_D (Aa [hm, a1, a2, a3, a4, a5, a6, a7, a8, a9, a10, a11] H0.size) [(hm, .inr (4, [.int th, .ref a1, .ref a2, .ref a3, .ref a4, .ref a5, .ref a6, .ref a7, .ref a8, .ref a9, .ref a10, .ref a11])), (a1, aN cI 4 ki), (a2, aN cI 4 ka), (a3, aN cI 4 kb), (a4, aI cI 4 zs), (a5, aI cI 4 pu), (a6, aN cI 4096 ce), (a7, aN cI 1024 pa), (a8, aN cI 1024 tr), (a9, aI cI 256 so), (a10, aN cI 6 pl), (a11, aN cI 6 ot)] := va_D.same2 [hm, a1, a2, a3, a4, a5, a6, a7, a8, a9, a10, a11] (hD.aa (sz := H0.size)) rfl rfl
  have hS : va_S (Aa [hm, a1, a2, a3, a4, a5, a6, a7, a8, a9, a10, a11] H0.size) H0 H0 [] := va_S.rf
  have hl := lv_entry ([.ref hm, .int (nI j), .long x]) (n := 4) (Nat.le_of_ble_eq_true rfl)
  rw [lg_entry_eq]
  generalize (lg_sl ([.ref hm, .int (nI j), .long x]) ++ List.replicate (4 - (lg_sl ([.ref hm, .int (nI j), .long x])).length) Slot.unset).toArray = ls at hl ⊢
  have hl : lv_has ls 4 [(0, .ref hm), (1, .int (nI j)), (2, .long x)] := hl
  refine lv_aload_n hx hb d_M_has_0 rfl (lv_at hl 0 rfl) ?_
  refine lv_aload_n hx hb d_M_has_1 rfl (lv_at hl 0 rfl) ?_
  refine lv_iload_n hx hb d_M_has_2 rfl (lv_at hl 1 rfl) ?_
  refine mx_callR (r := .int (nI (if (S j).1 = 0 then 2 else 0))) (c_M_wrg G hm a1 a2 a3 a4 a5 a6 a7 a8 a9 a10 a11 th S j ⟨ki, ka, kb, zs, pu, ce, pa, tr, so, pl, ot, hP, hpic⟩ hD0 hok hj) hW (iv_M_has_3 G hx hb hown hW (va_recv hK hP (ci := 4) (q0 := 0) rfl rfl) [.int (nI j)] [.ref hm] rfl) hml hl.1 (by rw [hb]; exact d_M_has_3) (cd_M_wrong G hW) ⟨Nat.le_of_ble_eq_true rfl, Nat.le_of_ble_eq_true rfl⟩ rfl rfl (Nat.le_of_ble_eq_true rfl) (Nat.le_of_ble_eq_true rfl) (Nat.le_of_ble_eq_true rfl) ?_
  refine tp_i (y := (nI 2)) (by rw [if_pos h0]) ?_
  refine va_put (D := D) (ci := 4) (v := .int (nI 2)) (ty := .int) (C := R_M) (T := T_M) (N := 12) hx hb (us_M G hW) (fun _ h => h) t_M to_M nm_M hown hK hP hD hS 0 rfl rfl 0 (by decide) (fl_M_43 G hW) (fun _ h9 => h9) rfl (by decide +kernel) rfl rfl (Nat.le_of_ble_eq_true rfl) d_M_has_6 (fun H locs hP hD hS => ?_)
  have hP : va_P D vcl [(hm, .inr (4, [.int (nI 2), .ref a1, .ref a2, .ref a3, .ref a4, .ref a5, .ref a6, .ref a7, .ref a8, .ref a9, .ref a10, .ref a11])), (a1, aN cI 4 ki), (a2, aN cI 4 ka), (a3, aN cI 4 kb), (a4, aI cI 4 zs), (a5, aI cI 4 pu), (a6, aN cI 4096 ce), (a7, aN cI 1024 pa), (a8, aN cI 1024 tr), (a9, aI cI 256 so), (a10, aN cI 6 pl), (a11, aN cI 6 ot)] H := hP
  have hD : va_D (Aa [hm, a1, a2, a3, a4, a5, a6, a7, a8, a9, a10, a11] H0.size) [(hm, .inr (4, [.int (nI 2), .ref a1, .ref a2, .ref a3, .ref a4, .ref a5, .ref a6, .ref a7, .ref a8, .ref a9, .ref a10, .ref a11])), (a1, aN cI 4 ki), (a2, aN cI 4 ka), (a3, aN cI 4 kb), (a4, aI cI 4 zs), (a5, aI cI 4 pu), (a6, aN cI 4096 ce), (a7, aN cI 1024 pa), (a8, aN cI 1024 tr), (a9, aI cI 256 so), (a10, aN cI 6 pl), (a11, aN cI 6 ot)] := hD
  refine lv_aload_n hx hb d_M_has_9 rfl (lv_at hl 0 rfl) ?_
  refine va_get (D := D) (ci := 4) (v := .int (nI 2)) (C := R_M) (T := T_M) (N := 12) hx hb (us_M G hW) (fun _ h => h) hown hK hP 0 rfl rfl 0 (by decide) (fl_M_43 G hW) (fun _ h9 => h9) rfl d_M_has_10 ?_
  refine lv_if_ne (tgt := 29) hx hb d_M_has_13 (by decide) (fun c_13 => ?_) (fun c_13 => absurd c_13 (by decide))
  refine lv_iconst (v := (nI 0)) hx hb d_M_has_29 (by decide) ?_
  exact mx_zret hx hb hr hlk d_M_has_30 (Nat.le_of_ble_eq_true rfl) (Nat.le_of_ble_eq_true rfl) hS.2.2 (rfl) (⟨rfl, ki, ka, kb, zs, pu, ce, pa, tr, so, pl, ot, hP, hpic⟩)

set_option maxHeartbeats 4000000 in
set_option maxRecDepth 100000 in
theorem c_M_addAll_no {l : Launch} {s0 : State} {D : va_G} {cI cF cJ : ClassId} (G : Gx l s0 D cI cF cJ) (hm a1 a2 a3 a4 a5 a6 a7 a8 a9 a10 a11 : Nat) (th : Int32) (S : Nat → FS) (v : Int32) (x : Int64) (st : Int64) (nv : Int32) {H0 : Heap} {A0 : Nat → Prop} (hM : MP D cI hm a1 a2 a3 a4 a5 a6 a7 a8 a9 a10 a11 th S H0) (hD : va_D A0 (adM hm a1 a2 a3 a4 a5 a6 a7 a8 a9 a10 a11)) (hok : ∀ i, i < 4 → okS (S i)) (hv : isNum v = false) : Mx l s0 y_M_addAll (.code y_M_addAll b_M_addAll 8 (some .int)) { frames := 7, cells := 0, slots := 0, locals := 170 } [.ref hm, .int v, .long x, .long st, .int nv] H0 (Aa [hm, a1, a2, a3, a4, a5, a6, a7, a8, a9, a10, a11] H0.size) (Rw (.int (nI 0)) (fun H1 => MP D cI hm a1 a2 a3 a4 a5 a6 a7 a8 a9 a10 a11 (nI 1) S H1)) := by
  refine Mx.ofW (own := "FewBitsModel") rfl rfl ?_
  rintro p e s m below meth c ⟨hx, hb, hml, hr, hown, hW, hlk⟩ hnm het hH
  have hK := G.k hW
  have hD0 := hD
  obtain ⟨ki, ka, kb, zs, pu, ce, pa, tr, so, pl, ot, hP, hpic⟩ := hM
  have hD : va_D (Aa [hm, a1, a2, a3, a4, a5, a6, a7, a8, a9, a10, a11] H0.size) [(hm, .inr (4, [.int th, .ref a1, .ref a2, .ref a3, .ref a4, .ref a5, .ref a6, .ref a7, .ref a8, .ref a9, .ref a10, .ref a11])), (a1, aN cI 4 ki), (a2, aN cI 4 ka), (a3, aN cI 4 kb), (a4, aI cI 4 zs), (a5, aI cI 4 pu), (a6, aN cI 4096 ce), (a7, aN cI 1024 pa), (a8, aN cI 1024 tr), (a9, aI cI 256 so), (a10, aN cI 6 pl), (a11, aN cI 6 ot)] := va_D.same2 [hm, a1, a2, a3, a4, a5, a6, a7, a8, a9, a10, a11] (hD.aa (sz := H0.size)) rfl rfl
  have hS : va_S (Aa [hm, a1, a2, a3, a4, a5, a6, a7, a8, a9, a10, a11] H0.size) H0 H0 [] := va_S.rf
  have hl := lv_entry ([.ref hm, .int v, .long x, .long st, .int nv]) (n := 8) (Nat.le_of_ble_eq_true rfl)
  rw [lg_entry_eq]
  generalize (lg_sl ([.ref hm, .int v, .long x, .long st, .int nv]) ++ List.replicate (8 - (lg_sl ([.ref hm, .int v, .long x, .long st, .int nv])).length) Slot.unset).toArray = ls at hl ⊢
  have hl : lv_has ls 8 [(0, .ref hm), (1, .int v), (2, .long x), (4, .long st), (6, .int nv)] := hl
  refine lv_aload_n hx hb d_M_addAll_0 rfl (lv_at hl 0 rfl) ?_
  refine lv_aload_n hx hb d_M_addAll_1 rfl (lv_at hl 0 rfl) ?_
  refine lv_iload_n hx hb d_M_addAll_2 rfl (lv_at hl 1 rfl) ?_
  refine mx_callR (r := .int (nI 1)) (c_M_wrong_n G hm a1 a2 a3 a4 a5 a6 a7 a8 a9 a10 a11 th ki ka kb zs pu ce pa tr so pl ot v hP hv) hW (iv_M_addAll_3 G hx hb hown hW (va_recv hK hP (ci := 4) (q0 := 0) rfl rfl) [.int v] [.ref hm] rfl) hml hl.1 (by rw [hb]; exact d_M_addAll_3) (cd_M_wrong G hW) ⟨Nat.le_of_ble_eq_true rfl, Nat.le_of_ble_eq_true rfl⟩ rfl rfl (Nat.le_of_ble_eq_true rfl) (Nat.le_of_ble_eq_true rfl) (Nat.le_of_ble_eq_true rfl) ?_
  refine lv_if_le (tgt := 17) hx hb d_M_addAll_6 (by decide) (fun c_6 => absurd c_6 (by decide)) (fun c_6 => ?_)
  refine lv_aload_n hx hb d_M_addAll_9 rfl (lv_at hl 0 rfl) ?_
  refine lv_iload_n hx hb d_M_addAll_10 rfl (lv_at hl 1 rfl) ?_
  refine mx_callR (r := .int (nI 1)) (c_M_wrong_n G hm a1 a2 a3 a4 a5 a6 a7 a8 a9 a10 a11 th ki ka kb zs pu ce pa tr so pl ot v hP hv) hW (iv_M_addAll_11 G hx hb hown hW (va_recv hK hP (ci := 4) (q0 := 0) rfl rfl) [.int v] [.ref hm] rfl) hml hl.1 (by rw [hb]; exact d_M_addAll_11) (cd_M_wrong G hW) ⟨Nat.le_of_ble_eq_true rfl, Nat.le_of_ble_eq_true rfl⟩ rfl rfl (Nat.le_of_ble_eq_true rfl) (Nat.le_of_ble_eq_true rfl) (Nat.le_of_ble_eq_true rfl) ?_
  refine lv_goto (tgt := 35) hx hb d_M_addAll_14 (by decide) ?_
  refine va_put (D := D) (ci := 4) (v := .int (nI 1)) (ty := .int) (C := R_M) (T := T_M) (N := 12) hx hb (us_M G hW) (fun _ h => h) t_M to_M nm_M hown hK hP hD hS 0 rfl rfl 0 (by decide) (fl_M_43 G hW) (fun _ h9 => h9) rfl (by decide +kernel) rfl rfl (Nat.le_of_ble_eq_true rfl) d_M_addAll_35 (fun H locs hP hD hS => ?_)
  have hP : va_P D vcl [(hm, .inr (4, [.int (nI 1), .ref a1, .ref a2, .ref a3, .ref a4, .ref a5, .ref a6, .ref a7, .ref a8, .ref a9, .ref a10, .ref a11])), (a1, aN cI 4 ki), (a2, aN cI 4 ka), (a3, aN cI 4 kb), (a4, aI cI 4 zs), (a5, aI cI 4 pu), (a6, aN cI 4096 ce), (a7, aN cI 1024 pa), (a8, aN cI 1024 tr), (a9, aI cI 256 so), (a10, aN cI 6 pl), (a11, aN cI 6 ot)] H := hP
  have hD : va_D (Aa [hm, a1, a2, a3, a4, a5, a6, a7, a8, a9, a10, a11] H0.size) [(hm, .inr (4, [.int (nI 1), .ref a1, .ref a2, .ref a3, .ref a4, .ref a5, .ref a6, .ref a7, .ref a8, .ref a9, .ref a10, .ref a11])), (a1, aN cI 4 ki), (a2, aN cI 4 ka), (a3, aN cI 4 kb), (a4, aI cI 4 zs), (a5, aI cI 4 pu), (a6, aN cI 4096 ce), (a7, aN cI 1024 pa), (a8, aN cI 1024 tr), (a9, aI cI 256 so), (a10, aN cI 6 pl), (a11, aN cI 6 ot)] := hD
  refine lv_aload_n hx hb d_M_addAll_38 rfl (lv_at hl 0 rfl) ?_
  refine va_get (D := D) (ci := 4) (v := .int (nI 1)) (C := R_M) (T := T_M) (N := 12) hx hb (us_M G hW) (fun _ h => h) hown hK hP 0 rfl rfl 0 (by decide) (fl_M_43 G hW) (fun _ h9 => h9) rfl d_M_addAll_39 ?_
  refine lv_if_le (tgt := 47) hx hb d_M_addAll_42 (by decide) (fun c_42 => absurd c_42 (by decide)) (fun c_42 => ?_)
  refine lv_iconst (v := (nI 0)) hx hb d_M_addAll_45 (by decide) ?_
  exact mx_iret hx hb hr hlk d_M_addAll_46 (Nat.le_of_ble_eq_true rfl) (Nat.le_of_ble_eq_true rfl) hS.2.2 (⟨rfl, ki, ka, kb, zs, pu, ce, pa, tr, so, pl, ot, hP, hpic⟩)

set_option maxHeartbeats 4000000 in
set_option maxRecDepth 100000 in
theorem c_M_addAll_none {l : Launch} {s0 : State} {D : va_G} {cI cF cJ : ClassId} (G : Gx l s0 D cI cF cJ) (hm a1 a2 a3 a4 a5 a6 a7 a8 a9 a10 a11 : Nat) (th : Int32) (S : Nat → FS) (j : Nat) (x : Int64) (st : Int64) (nv : Int32) {H0 : Heap} {A0 : Nat → Prop} (hM : MP D cI hm a1 a2 a3 a4 a5 a6 a7 a8 a9 a10 a11 th S H0) (hD : va_D A0 (adM hm a1 a2 a3 a4 a5 a6 a7 a8 a9 a10 a11)) (hok : ∀ i, i < 4 → okS (S i)) (hj : j < 4) (h0 : (S j).1 = 0) : Mx l s0 y_M_addAll (.code y_M_addAll b_M_addAll 8 (some .int)) { frames := 7, cells := 0, slots := 0, locals := 170 } [.ref hm, .int (nI j), .long x, .long st, .int nv] H0 (Aa [hm, a1, a2, a3, a4, a5, a6, a7, a8, a9, a10, a11] H0.size) (Rw (.int (nI 0)) (fun H1 => MP D cI hm a1 a2 a3 a4 a5 a6 a7 a8 a9 a10 a11 (nI 2) S H1)) := by
  refine Mx.ofW (own := "FewBitsModel") rfl rfl ?_
  rintro p e s m below meth c ⟨hx, hb, hml, hr, hown, hW, hlk⟩ hnm het hH
  have hK := G.k hW
  have hD0 := hD
  obtain ⟨ki, ka, kb, zs, pu, ce, pa, tr, so, pl, ot, hP, hpic⟩ := hM
  have hD : va_D (Aa [hm, a1, a2, a3, a4, a5, a6, a7, a8, a9, a10, a11] H0.size) [(hm, .inr (4, [.int th, .ref a1, .ref a2, .ref a3, .ref a4, .ref a5, .ref a6, .ref a7, .ref a8, .ref a9, .ref a10, .ref a11])), (a1, aN cI 4 ki), (a2, aN cI 4 ka), (a3, aN cI 4 kb), (a4, aI cI 4 zs), (a5, aI cI 4 pu), (a6, aN cI 4096 ce), (a7, aN cI 1024 pa), (a8, aN cI 1024 tr), (a9, aI cI 256 so), (a10, aN cI 6 pl), (a11, aN cI 6 ot)] := va_D.same2 [hm, a1, a2, a3, a4, a5, a6, a7, a8, a9, a10, a11] (hD.aa (sz := H0.size)) rfl rfl
  have hS : va_S (Aa [hm, a1, a2, a3, a4, a5, a6, a7, a8, a9, a10, a11] H0.size) H0 H0 [] := va_S.rf
  have hl := lv_entry ([.ref hm, .int (nI j), .long x, .long st, .int nv]) (n := 8) (Nat.le_of_ble_eq_true rfl)
  rw [lg_entry_eq]
  generalize (lg_sl ([.ref hm, .int (nI j), .long x, .long st, .int nv]) ++ List.replicate (8 - (lg_sl ([.ref hm, .int (nI j), .long x, .long st, .int nv])).length) Slot.unset).toArray = ls at hl ⊢
  have hl : lv_has ls 8 [(0, .ref hm), (1, .int (nI j)), (2, .long x), (4, .long st), (6, .int nv)] := hl
  refine lv_aload_n hx hb d_M_addAll_0 rfl (lv_at hl 0 rfl) ?_
  refine lv_aload_n hx hb d_M_addAll_1 rfl (lv_at hl 0 rfl) ?_
  refine lv_iload_n hx hb d_M_addAll_2 rfl (lv_at hl 1 rfl) ?_
  refine mx_callR (r := .int (nI (if (S j).1 = 0 then 2 else 0))) (c_M_wrg G hm a1 a2 a3 a4 a5 a6 a7 a8 a9 a10 a11 th S j ⟨ki, ka, kb, zs, pu, ce, pa, tr, so, pl, ot, hP, hpic⟩ hD0 hok hj) hW (iv_M_addAll_3 G hx hb hown hW (va_recv hK hP (ci := 4) (q0 := 0) rfl rfl) [.int (nI j)] [.ref hm] rfl) hml hl.1 (by rw [hb]; exact d_M_addAll_3) (cd_M_wrong G hW) ⟨Nat.le_of_ble_eq_true rfl, Nat.le_of_ble_eq_true rfl⟩ rfl rfl (Nat.le_of_ble_eq_true rfl) (Nat.le_of_ble_eq_true rfl) (Nat.le_of_ble_eq_true rfl) ?_
  refine tp_i (y := (nI 2)) (by rw [if_pos h0]) ?_
  refine lv_if_le (tgt := 17) hx hb d_M_addAll_6 (by decide) (fun c_6 => absurd c_6 (by decide)) (fun c_6 => ?_)
  refine lv_aload_n hx hb d_M_addAll_9 rfl (lv_at hl 0 rfl) ?_
  refine lv_iload_n hx hb d_M_addAll_10 rfl (lv_at hl 1 rfl) ?_
  refine mx_callR (r := .int (nI (if (S j).1 = 0 then 2 else 0))) (c_M_wrg G hm a1 a2 a3 a4 a5 a6 a7 a8 a9 a10 a11 th S j ⟨ki, ka, kb, zs, pu, ce, pa, tr, so, pl, ot, hP, hpic⟩ hD0 hok hj) hW (iv_M_addAll_11 G hx hb hown hW (va_recv hK hP (ci := 4) (q0 := 0) rfl rfl) [.int (nI j)] [.ref hm] rfl) hml hl.1 (by rw [hb]; exact d_M_addAll_11) (cd_M_wrong G hW) ⟨Nat.le_of_ble_eq_true rfl, Nat.le_of_ble_eq_true rfl⟩ rfl rfl (Nat.le_of_ble_eq_true rfl) (Nat.le_of_ble_eq_true rfl) (Nat.le_of_ble_eq_true rfl) ?_
  refine tp_i (y := (nI 2)) (by rw [if_pos h0]) ?_
  refine lv_goto (tgt := 35) hx hb d_M_addAll_14 (by decide) ?_
  refine va_put (D := D) (ci := 4) (v := .int (nI 2)) (ty := .int) (C := R_M) (T := T_M) (N := 12) hx hb (us_M G hW) (fun _ h => h) t_M to_M nm_M hown hK hP hD hS 0 rfl rfl 0 (by decide) (fl_M_43 G hW) (fun _ h9 => h9) rfl (by decide +kernel) rfl rfl (Nat.le_of_ble_eq_true rfl) d_M_addAll_35 (fun H locs hP hD hS => ?_)
  have hP : va_P D vcl [(hm, .inr (4, [.int (nI 2), .ref a1, .ref a2, .ref a3, .ref a4, .ref a5, .ref a6, .ref a7, .ref a8, .ref a9, .ref a10, .ref a11])), (a1, aN cI 4 ki), (a2, aN cI 4 ka), (a3, aN cI 4 kb), (a4, aI cI 4 zs), (a5, aI cI 4 pu), (a6, aN cI 4096 ce), (a7, aN cI 1024 pa), (a8, aN cI 1024 tr), (a9, aI cI 256 so), (a10, aN cI 6 pl), (a11, aN cI 6 ot)] H := hP
  have hD : va_D (Aa [hm, a1, a2, a3, a4, a5, a6, a7, a8, a9, a10, a11] H0.size) [(hm, .inr (4, [.int (nI 2), .ref a1, .ref a2, .ref a3, .ref a4, .ref a5, .ref a6, .ref a7, .ref a8, .ref a9, .ref a10, .ref a11])), (a1, aN cI 4 ki), (a2, aN cI 4 ka), (a3, aN cI 4 kb), (a4, aI cI 4 zs), (a5, aI cI 4 pu), (a6, aN cI 4096 ce), (a7, aN cI 1024 pa), (a8, aN cI 1024 tr), (a9, aI cI 256 so), (a10, aN cI 6 pl), (a11, aN cI 6 ot)] := hD
  refine lv_aload_n hx hb d_M_addAll_38 rfl (lv_at hl 0 rfl) ?_
  refine va_get (D := D) (ci := 4) (v := .int (nI 2)) (C := R_M) (T := T_M) (N := 12) hx hb (us_M G hW) (fun _ h => h) hown hK hP 0 rfl rfl 0 (by decide) (fl_M_43 G hW) (fun _ h9 => h9) rfl d_M_addAll_39 ?_
  refine lv_if_le (tgt := 47) hx hb d_M_addAll_42 (by decide) (fun c_42 => absurd c_42 (by decide)) (fun c_42 => ?_)
  refine lv_iconst (v := (nI 0)) hx hb d_M_addAll_45 (by decide) ?_
  exact mx_iret hx hb hr hlk d_M_addAll_46 (Nat.le_of_ble_eq_true rfl) (Nat.le_of_ble_eq_true rfl) hS.2.2 (⟨rfl, ki, ka, kb, zs, pu, ce, pa, tr, so, pl, ot, hP, hpic⟩)

set_option maxHeartbeats 4000000 in
set_option maxRecDepth 100000 in
theorem c_M_hasAll_no {l : Launch} {s0 : State} {D : va_G} {cI cF cJ : ClassId} (G : Gx l s0 D cI cF cJ) (hm a1 a2 a3 a4 a5 a6 a7 a8 a9 a10 a11 : Nat) (th : Int32) (S : Nat → FS) (v : Int32) (x : Int64) (st : Int64) (nv : Int32) {H0 : Heap} {A0 : Nat → Prop} (hM : MP D cI hm a1 a2 a3 a4 a5 a6 a7 a8 a9 a10 a11 th S H0) (hD : va_D A0 (adM hm a1 a2 a3 a4 a5 a6 a7 a8 a9 a10 a11)) (hok : ∀ i, i < 4 → okS (S i)) (hv : isNum v = false) : Mx l s0 y_M_hasAll (.code y_M_hasAll b_M_hasAll 9 (some .int)) { frames := 7, cells := 0, slots := 0, locals := 170 } [.ref hm, .int v, .long x, .long st, .int nv] H0 (Aa [hm, a1, a2, a3, a4, a5, a6, a7, a8, a9, a10, a11] H0.size) (Rw (.int (nI 0)) (fun H1 => MP D cI hm a1 a2 a3 a4 a5 a6 a7 a8 a9 a10 a11 (nI 1) S H1)) := by
  refine Mx.ofW (own := "FewBitsModel") rfl rfl ?_
  rintro p e s m below meth c ⟨hx, hb, hml, hr, hown, hW, hlk⟩ hnm het hH
  have hK := G.k hW
  have hD0 := hD
  obtain ⟨ki, ka, kb, zs, pu, ce, pa, tr, so, pl, ot, hP, hpic⟩ := hM
  have hD : va_D (Aa [hm, a1, a2, a3, a4, a5, a6, a7, a8, a9, a10, a11] H0.size) [(hm, .inr (4, [.int th, .ref a1, .ref a2, .ref a3, .ref a4, .ref a5, .ref a6, .ref a7, .ref a8, .ref a9, .ref a10, .ref a11])), (a1, aN cI 4 ki), (a2, aN cI 4 ka), (a3, aN cI 4 kb), (a4, aI cI 4 zs), (a5, aI cI 4 pu), (a6, aN cI 4096 ce), (a7, aN cI 1024 pa), (a8, aN cI 1024 tr), (a9, aI cI 256 so), (a10, aN cI 6 pl), (a11, aN cI 6 ot)] := va_D.same2 [hm, a1, a2, a3, a4, a5, a6, a7, a8, a9, a10, a11] (hD.aa (sz := H0.size)) rfl rfl
  have hS : va_S (Aa [hm, a1, a2, a3, a4, a5, a6, a7, a8, a9, a10, a11] H0.size) H0 H0 [] := va_S.rf
  have hl := lv_entry ([.ref hm, .int v, .long x, .long st, .int nv]) (n := 9) (Nat.le_of_ble_eq_true rfl)
  rw [lg_entry_eq]
  generalize (lg_sl ([.ref hm, .int v, .long x, .long st, .int nv]) ++ List.replicate (9 - (lg_sl ([.ref hm, .int v, .long x, .long st, .int nv])).length) Slot.unset).toArray = ls at hl ⊢
  have hl : lv_has ls 9 [(0, .ref hm), (1, .int v), (2, .long x), (4, .long st), (6, .int nv)] := hl
  refine lv_aload_n hx hb d_M_hasAll_0 rfl (lv_at hl 0 rfl) ?_
  refine lv_aload_n hx hb d_M_hasAll_1 rfl (lv_at hl 0 rfl) ?_
  refine lv_iload_n hx hb d_M_hasAll_2 rfl (lv_at hl 1 rfl) ?_
  refine mx_callR (r := .int (nI 1)) (c_M_wrong_n G hm a1 a2 a3 a4 a5 a6 a7 a8 a9 a10 a11 th ki ka kb zs pu ce pa tr so pl ot v hP hv) hW (iv_M_hasAll_3 G hx hb hown hW (va_recv hK hP (ci := 4) (q0 := 0) rfl rfl) [.int v] [.ref hm] rfl) hml hl.1 (by rw [hb]; exact d_M_hasAll_3) (cd_M_wrong G hW) ⟨Nat.le_of_ble_eq_true rfl, Nat.le_of_ble_eq_true rfl⟩ rfl rfl (Nat.le_of_ble_eq_true rfl) (Nat.le_of_ble_eq_true rfl) (Nat.le_of_ble_eq_true rfl) ?_
  refine lv_if_le (tgt := 17) hx hb d_M_hasAll_6 (by decide) (fun c_6 => absurd c_6 (by decide)) (fun c_6 => ?_)
  refine lv_aload_n hx hb d_M_hasAll_9 rfl (lv_at hl 0 rfl) ?_
  refine lv_iload_n hx hb d_M_hasAll_10 rfl (lv_at hl 1 rfl) ?_
  refine mx_callR (r := .int (nI 1)) (c_M_wrong_n G hm a1 a2 a3 a4 a5 a6 a7 a8 a9 a10 a11 th ki ka kb zs pu ce pa tr so pl ot v hP hv) hW (iv_M_hasAll_11 G hx hb hown hW (va_recv hK hP (ci := 4) (q0 := 0) rfl rfl) [.int v] [.ref hm] rfl) hml hl.1 (by rw [hb]; exact d_M_hasAll_11) (cd_M_wrong G hW) ⟨Nat.le_of_ble_eq_true rfl, Nat.le_of_ble_eq_true rfl⟩ rfl rfl (Nat.le_of_ble_eq_true rfl) (Nat.le_of_ble_eq_true rfl) (Nat.le_of_ble_eq_true rfl) ?_
  refine lv_goto (tgt := 35) hx hb d_M_hasAll_14 (by decide) ?_
  refine va_put (D := D) (ci := 4) (v := .int (nI 1)) (ty := .int) (C := R_M) (T := T_M) (N := 12) hx hb (us_M G hW) (fun _ h => h) t_M to_M nm_M hown hK hP hD hS 0 rfl rfl 0 (by decide) (fl_M_43 G hW) (fun _ h9 => h9) rfl (by decide +kernel) rfl rfl (Nat.le_of_ble_eq_true rfl) d_M_hasAll_35 (fun H locs hP hD hS => ?_)
  have hP : va_P D vcl [(hm, .inr (4, [.int (nI 1), .ref a1, .ref a2, .ref a3, .ref a4, .ref a5, .ref a6, .ref a7, .ref a8, .ref a9, .ref a10, .ref a11])), (a1, aN cI 4 ki), (a2, aN cI 4 ka), (a3, aN cI 4 kb), (a4, aI cI 4 zs), (a5, aI cI 4 pu), (a6, aN cI 4096 ce), (a7, aN cI 1024 pa), (a8, aN cI 1024 tr), (a9, aI cI 256 so), (a10, aN cI 6 pl), (a11, aN cI 6 ot)] H := hP
  have hD : va_D (Aa [hm, a1, a2, a3, a4, a5, a6, a7, a8, a9, a10, a11] H0.size) [(hm, .inr (4, [.int (nI 1), .ref a1, .ref a2, .ref a3, .ref a4, .ref a5, .ref a6, .ref a7, .ref a8, .ref a9, .ref a10, .ref a11])), (a1, aN cI 4 ki), (a2, aN cI 4 ka), (a3, aN cI 4 kb), (a4, aI cI 4 zs), (a5, aI cI 4 pu), (a6, aN cI 4096 ce), (a7, aN cI 1024 pa), (a8, aN cI 1024 tr), (a9, aI cI 256 so), (a10, aN cI 6 pl), (a11, aN cI 6 ot)] := hD
  refine lv_iconst (v := (nI 0)) hx hb d_M_hasAll_38 (by decide) ?_
  refine lv_istore (lv' := [(7, .int (nI 0)), (0, .ref hm), (1, .int v), (2, .long x), (4, .long st), (6, .int nv)]) hx hb d_M_hasAll_39 hl (by decide) rfl (fun ls hl => ?_)
  refine lv_iconst (v := (nI 0)) hx hb d_M_hasAll_41 (by decide) ?_
  refine lv_istore (lv' := [(8, .int (nI 0)), (7, .int (nI 0)), (0, .ref hm), (1, .int v), (2, .long x), (4, .long st), (6, .int nv)]) hx hb d_M_hasAll_42 hl (by decide) rfl (fun ls hl => ?_)
  refine lv_aload_n hx hb d_M_hasAll_44 rfl (lv_at hl 2 rfl) ?_
  refine va_get (D := D) (ci := 4) (v := .int (nI 1)) (C := R_M) (T := T_M) (N := 12) hx hb (us_M G hW) (fun _ h => h) hown hK hP 0 rfl rfl 0 (by decide) (fl_M_43 G hW) (fun _ h9 => h9) rfl d_M_hasAll_45 ?_
  refine lv_if_ne (tgt := 91) hx hb d_M_hasAll_48 (by decide) (fun c_48 => ?_) (fun c_48 => absurd c_48 (by decide))
  refine lv_iload hx hb d_M_hasAll_91 (lv_at hl 1 rfl) ?_
  exact mx_iret hx hb hr hlk d_M_hasAll_93 (Nat.le_of_ble_eq_true rfl) (Nat.le_of_ble_eq_true rfl) hS.2.2 (⟨rfl, ki, ka, kb, zs, pu, ce, pa, tr, so, pl, ot, hP, hpic⟩)

set_option maxHeartbeats 4000000 in
set_option maxRecDepth 100000 in
theorem c_M_hasAll_none {l : Launch} {s0 : State} {D : va_G} {cI cF cJ : ClassId} (G : Gx l s0 D cI cF cJ) (hm a1 a2 a3 a4 a5 a6 a7 a8 a9 a10 a11 : Nat) (th : Int32) (S : Nat → FS) (j : Nat) (x : Int64) (st : Int64) (nv : Int32) {H0 : Heap} {A0 : Nat → Prop} (hM : MP D cI hm a1 a2 a3 a4 a5 a6 a7 a8 a9 a10 a11 th S H0) (hD : va_D A0 (adM hm a1 a2 a3 a4 a5 a6 a7 a8 a9 a10 a11)) (hok : ∀ i, i < 4 → okS (S i)) (hj : j < 4) (h0 : (S j).1 = 0) : Mx l s0 y_M_hasAll (.code y_M_hasAll b_M_hasAll 9 (some .int)) { frames := 7, cells := 0, slots := 0, locals := 170 } [.ref hm, .int (nI j), .long x, .long st, .int nv] H0 (Aa [hm, a1, a2, a3, a4, a5, a6, a7, a8, a9, a10, a11] H0.size) (Rw (.int (nI 0)) (fun H1 => MP D cI hm a1 a2 a3 a4 a5 a6 a7 a8 a9 a10 a11 (nI 2) S H1)) := by
  refine Mx.ofW (own := "FewBitsModel") rfl rfl ?_
  rintro p e s m below meth c ⟨hx, hb, hml, hr, hown, hW, hlk⟩ hnm het hH
  have hK := G.k hW
  have hD0 := hD
  obtain ⟨ki, ka, kb, zs, pu, ce, pa, tr, so, pl, ot, hP, hpic⟩ := hM
  have hD : va_D (Aa [hm, a1, a2, a3, a4, a5, a6, a7, a8, a9, a10, a11] H0.size) [(hm, .inr (4, [.int th, .ref a1, .ref a2, .ref a3, .ref a4, .ref a5, .ref a6, .ref a7, .ref a8, .ref a9, .ref a10, .ref a11])), (a1, aN cI 4 ki), (a2, aN cI 4 ka), (a3, aN cI 4 kb), (a4, aI cI 4 zs), (a5, aI cI 4 pu), (a6, aN cI 4096 ce), (a7, aN cI 1024 pa), (a8, aN cI 1024 tr), (a9, aI cI 256 so), (a10, aN cI 6 pl), (a11, aN cI 6 ot)] := va_D.same2 [hm, a1, a2, a3, a4, a5, a6, a7, a8, a9, a10, a11] (hD.aa (sz := H0.size)) rfl rfl
  have hS : va_S (Aa [hm, a1, a2, a3, a4, a5, a6, a7, a8, a9, a10, a11] H0.size) H0 H0 [] := va_S.rf
  have hl := lv_entry ([.ref hm, .int (nI j), .long x, .long st, .int nv]) (n := 9) (Nat.le_of_ble_eq_true rfl)
  rw [lg_entry_eq]
  generalize (lg_sl ([.ref hm, .int (nI j), .long x, .long st, .int nv]) ++ List.replicate (9 - (lg_sl ([.ref hm, .int (nI j), .long x, .long st, .int nv])).length) Slot.unset).toArray = ls at hl ⊢
  have hl : lv_has ls 9 [(0, .ref hm), (1, .int (nI j)), (2, .long x), (4, .long st), (6, .int nv)] := hl
  refine lv_aload_n hx hb d_M_hasAll_0 rfl (lv_at hl 0 rfl) ?_
  refine lv_aload_n hx hb d_M_hasAll_1 rfl (lv_at hl 0 rfl) ?_
  refine lv_iload_n hx hb d_M_hasAll_2 rfl (lv_at hl 1 rfl) ?_
  refine mx_callR (r := .int (nI (if (S j).1 = 0 then 2 else 0))) (c_M_wrg G hm a1 a2 a3 a4 a5 a6 a7 a8 a9 a10 a11 th S j ⟨ki, ka, kb, zs, pu, ce, pa, tr, so, pl, ot, hP, hpic⟩ hD0 hok hj) hW (iv_M_hasAll_3 G hx hb hown hW (va_recv hK hP (ci := 4) (q0 := 0) rfl rfl) [.int (nI j)] [.ref hm] rfl) hml hl.1 (by rw [hb]; exact d_M_hasAll_3) (cd_M_wrong G hW) ⟨Nat.le_of_ble_eq_true rfl, Nat.le_of_ble_eq_true rfl⟩ rfl rfl (Nat.le_of_ble_eq_true rfl) (Nat.le_of_ble_eq_true rfl) (Nat.le_of_ble_eq_true rfl) ?_
  refine tp_i (y := (nI 2)) (by rw [if_pos h0]) ?_
  refine lv_if_le (tgt := 17) hx hb d_M_hasAll_6 (by decide) (fun c_6 => absurd c_6 (by decide)) (fun c_6 => ?_)
  refine lv_aload_n hx hb d_M_hasAll_9 rfl (lv_at hl 0 rfl) ?_
  refine lv_iload_n hx hb d_M_hasAll_10 rfl (lv_at hl 1 rfl) ?_
  refine mx_callR (r := .int (nI (if (S j).1 = 0 then 2 else 0))) (c_M_wrg G hm a1 a2 a3 a4 a5 a6 a7 a8 a9 a10 a11 th S j ⟨ki, ka, kb, zs, pu, ce, pa, tr, so, pl, ot, hP, hpic⟩ hD0 hok hj) hW (iv_M_hasAll_11 G hx hb hown hW (va_recv hK hP (ci := 4) (q0 := 0) rfl rfl) [.int (nI j)] [.ref hm] rfl) hml hl.1 (by rw [hb]; exact d_M_hasAll_11) (cd_M_wrong G hW) ⟨Nat.le_of_ble_eq_true rfl, Nat.le_of_ble_eq_true rfl⟩ rfl rfl (Nat.le_of_ble_eq_true rfl) (Nat.le_of_ble_eq_true rfl) (Nat.le_of_ble_eq_true rfl) ?_
  refine tp_i (y := (nI 2)) (by rw [if_pos h0]) ?_
  refine lv_goto (tgt := 35) hx hb d_M_hasAll_14 (by decide) ?_
  refine va_put (D := D) (ci := 4) (v := .int (nI 2)) (ty := .int) (C := R_M) (T := T_M) (N := 12) hx hb (us_M G hW) (fun _ h => h) t_M to_M nm_M hown hK hP hD hS 0 rfl rfl 0 (by decide) (fl_M_43 G hW) (fun _ h9 => h9) rfl (by decide +kernel) rfl rfl (Nat.le_of_ble_eq_true rfl) d_M_hasAll_35 (fun H locs hP hD hS => ?_)
  have hP : va_P D vcl [(hm, .inr (4, [.int (nI 2), .ref a1, .ref a2, .ref a3, .ref a4, .ref a5, .ref a6, .ref a7, .ref a8, .ref a9, .ref a10, .ref a11])), (a1, aN cI 4 ki), (a2, aN cI 4 ka), (a3, aN cI 4 kb), (a4, aI cI 4 zs), (a5, aI cI 4 pu), (a6, aN cI 4096 ce), (a7, aN cI 1024 pa), (a8, aN cI 1024 tr), (a9, aI cI 256 so), (a10, aN cI 6 pl), (a11, aN cI 6 ot)] H := hP
  have hD : va_D (Aa [hm, a1, a2, a3, a4, a5, a6, a7, a8, a9, a10, a11] H0.size) [(hm, .inr (4, [.int (nI 2), .ref a1, .ref a2, .ref a3, .ref a4, .ref a5, .ref a6, .ref a7, .ref a8, .ref a9, .ref a10, .ref a11])), (a1, aN cI 4 ki), (a2, aN cI 4 ka), (a3, aN cI 4 kb), (a4, aI cI 4 zs), (a5, aI cI 4 pu), (a6, aN cI 4096 ce), (a7, aN cI 1024 pa), (a8, aN cI 1024 tr), (a9, aI cI 256 so), (a10, aN cI 6 pl), (a11, aN cI 6 ot)] := hD
  refine lv_iconst (v := (nI 0)) hx hb d_M_hasAll_38 (by decide) ?_
  refine lv_istore (lv' := [(7, .int (nI 0)), (0, .ref hm), (1, .int (nI j)), (2, .long x), (4, .long st), (6, .int nv)]) hx hb d_M_hasAll_39 hl (by decide) rfl (fun ls hl => ?_)
  refine lv_iconst (v := (nI 0)) hx hb d_M_hasAll_41 (by decide) ?_
  refine lv_istore (lv' := [(8, .int (nI 0)), (7, .int (nI 0)), (0, .ref hm), (1, .int (nI j)), (2, .long x), (4, .long st), (6, .int nv)]) hx hb d_M_hasAll_42 hl (by decide) rfl (fun ls hl => ?_)
  refine lv_aload_n hx hb d_M_hasAll_44 rfl (lv_at hl 2 rfl) ?_
  refine va_get (D := D) (ci := 4) (v := .int (nI 2)) (C := R_M) (T := T_M) (N := 12) hx hb (us_M G hW) (fun _ h => h) hown hK hP 0 rfl rfl 0 (by decide) (fl_M_43 G hW) (fun _ h9 => h9) rfl d_M_hasAll_45 ?_
  refine lv_if_ne (tgt := 91) hx hb d_M_hasAll_48 (by decide) (fun c_48 => ?_) (fun c_48 => absurd c_48 (by decide))
  refine lv_iload hx hb d_M_hasAll_91 (lv_at hl 1 rfl) ?_
  exact mx_iret hx hb hr hlk d_M_hasAll_93 (Nat.le_of_ble_eq_true rfl) (Nat.le_of_ble_eq_true rfl) hS.2.2 (⟨rfl, ki, ka, kb, zs, pu, ce, pa, tr, so, pl, ot, hP, hpic⟩)

set_option maxHeartbeats 4000000 in
set_option maxRecDepth 100000 in
theorem c_M_count_no {l : Launch} {s0 : State} {D : va_G} {cI cF cJ : ClassId} (G : Gx l s0 D cI cF cJ) (hm a1 a2 a3 a4 a5 a6 a7 a8 a9 a10 a11 : Nat) (th : Int32) (S : Nat → FS) (v : Int32) (wv : Int32) {H0 : Heap} {A0 : Nat → Prop} (hM : MP D cI hm a1 a2 a3 a4 a5 a6 a7 a8 a9 a10 a11 th S H0) (hD : va_D A0 (adM hm a1 a2 a3 a4 a5 a6 a7 a8 a9 a10 a11)) (hok : ∀ i, i < 4 → okS (S i)) (hv : isNum v = false) : Mx l s0 y_M_count (.code y_M_count b_M_count 7 (some .int)) { frames := 7, cells := 0, slots := 0, locals := 170 } [.ref hm, .int v, .int wv] H0 (Aa [hm, a1, a2, a3, a4, a5, a6, a7, a8, a9, a10, a11] H0.size) (Rw (.int (nI 0)) (fun H1 => MP D cI hm a1 a2 a3 a4 a5 a6 a7 a8 a9 a10 a11 (nI 1) S H1)) := by
  refine Mx.ofW (own := "FewBitsModel") rfl rfl ?_
  rintro p e s m below meth c ⟨hx, hb, hml, hr, hown, hW, hlk⟩ hnm het hH
  have hK := G.k hW
  have hD0 := hD
  obtain ⟨ki, ka, kb, zs, pu, ce, pa, tr, so, pl, ot, hP, hpic⟩ := hM
  have hD : va_D (Aa [hm, a1, a2, a3, a4, a5, a6, a7, a8, a9, a10, a11] H0.size) [(hm, .inr (4, [.int th, .ref a1, .ref a2, .ref a3, .ref a4, .ref a5, .ref a6, .ref a7, .ref a8, .ref a9, .ref a10, .ref a11])), (a1, aN cI 4 ki), (a2, aN cI 4 ka), (a3, aN cI 4 kb), (a4, aI cI 4 zs), (a5, aI cI 4 pu), (a6, aN cI 4096 ce), (a7, aN cI 1024 pa), (a8, aN cI 1024 tr), (a9, aI cI 256 so), (a10, aN cI 6 pl), (a11, aN cI 6 ot)] := va_D.same2 [hm, a1, a2, a3, a4, a5, a6, a7, a8, a9, a10, a11] (hD.aa (sz := H0.size)) rfl rfl
  have hS : va_S (Aa [hm, a1, a2, a3, a4, a5, a6, a7, a8, a9, a10, a11] H0.size) H0 H0 [] := va_S.rf
  have hl := lv_entry ([.ref hm, .int v, .int wv]) (n := 7) (Nat.le_of_ble_eq_true rfl)
  rw [lg_entry_eq]
  generalize (lg_sl ([.ref hm, .int v, .int wv]) ++ List.replicate (7 - (lg_sl ([.ref hm, .int v, .int wv])).length) Slot.unset).toArray = ls at hl ⊢
  have hl : lv_has ls 7 [(0, .ref hm), (1, .int v), (2, .int wv)] := hl
  refine lv_aload_n hx hb d_M_count_0 rfl (lv_at hl 0 rfl) ?_
  refine lv_aload_n hx hb d_M_count_1 rfl (lv_at hl 0 rfl) ?_
  refine lv_iload_n hx hb d_M_count_2 rfl (lv_at hl 1 rfl) ?_
  refine mx_callR (r := .int (nI 1)) (c_M_wrong_n G hm a1 a2 a3 a4 a5 a6 a7 a8 a9 a10 a11 th ki ka kb zs pu ce pa tr so pl ot v hP hv) hW (iv_M_count_3 G hx hb hown hW (va_recv hK hP (ci := 4) (q0 := 0) rfl rfl) [.int v] [.ref hm] rfl) hml hl.1 (by rw [hb]; exact d_M_count_3) (cd_M_wrong G hW) ⟨Nat.le_of_ble_eq_true rfl, Nat.le_of_ble_eq_true rfl⟩ rfl rfl (Nat.le_of_ble_eq_true rfl) (Nat.le_of_ble_eq_true rfl) (Nat.le_of_ble_eq_true rfl) ?_
  refine lv_if_le (tgt := 17) hx hb d_M_count_6 (by decide) (fun c_6 => absurd c_6 (by decide)) (fun c_6 => ?_)
  refine lv_aload_n hx hb d_M_count_9 rfl (lv_at hl 0 rfl) ?_
  refine lv_iload_n hx hb d_M_count_10 rfl (lv_at hl 1 rfl) ?_
  refine mx_callR (r := .int (nI 1)) (c_M_wrong_n G hm a1 a2 a3 a4 a5 a6 a7 a8 a9 a10 a11 th ki ka kb zs pu ce pa tr so pl ot v hP hv) hW (iv_M_count_11 G hx hb hown hW (va_recv hK hP (ci := 4) (q0 := 0) rfl rfl) [.int v] [.ref hm] rfl) hml hl.1 (by rw [hb]; exact d_M_count_11) (cd_M_wrong G hW) ⟨Nat.le_of_ble_eq_true rfl, Nat.le_of_ble_eq_true rfl⟩ rfl rfl (Nat.le_of_ble_eq_true rfl) (Nat.le_of_ble_eq_true rfl) (Nat.le_of_ble_eq_true rfl) ?_
  refine lv_goto (tgt := 31) hx hb d_M_count_14 (by decide) ?_
  refine va_put (D := D) (ci := 4) (v := .int (nI 1)) (ty := .int) (C := R_M) (T := T_M) (N := 12) hx hb (us_M G hW) (fun _ h => h) t_M to_M nm_M hown hK hP hD hS 0 rfl rfl 0 (by decide) (fl_M_43 G hW) (fun _ h9 => h9) rfl (by decide +kernel) rfl rfl (Nat.le_of_ble_eq_true rfl) d_M_count_31 (fun H locs hP hD hS => ?_)
  have hP : va_P D vcl [(hm, .inr (4, [.int (nI 1), .ref a1, .ref a2, .ref a3, .ref a4, .ref a5, .ref a6, .ref a7, .ref a8, .ref a9, .ref a10, .ref a11])), (a1, aN cI 4 ki), (a2, aN cI 4 ka), (a3, aN cI 4 kb), (a4, aI cI 4 zs), (a5, aI cI 4 pu), (a6, aN cI 4096 ce), (a7, aN cI 1024 pa), (a8, aN cI 1024 tr), (a9, aI cI 256 so), (a10, aN cI 6 pl), (a11, aN cI 6 ot)] H := hP
  have hD : va_D (Aa [hm, a1, a2, a3, a4, a5, a6, a7, a8, a9, a10, a11] H0.size) [(hm, .inr (4, [.int (nI 1), .ref a1, .ref a2, .ref a3, .ref a4, .ref a5, .ref a6, .ref a7, .ref a8, .ref a9, .ref a10, .ref a11])), (a1, aN cI 4 ki), (a2, aN cI 4 ka), (a3, aN cI 4 kb), (a4, aI cI 4 zs), (a5, aI cI 4 pu), (a6, aN cI 4096 ce), (a7, aN cI 1024 pa), (a8, aN cI 1024 tr), (a9, aI cI 256 so), (a10, aN cI 6 pl), (a11, aN cI 6 ot)] := hD
  refine lv_aload_n hx hb d_M_count_34 rfl (lv_at hl 0 rfl) ?_
  refine va_get (D := D) (ci := 4) (v := .int (nI 1)) (C := R_M) (T := T_M) (N := 12) hx hb (us_M G hW) (fun _ h => h) hown hK hP 0 rfl rfl 0 (by decide) (fl_M_43 G hW) (fun _ h9 => h9) rfl d_M_count_35 ?_
  refine lv_if_le (tgt := 43) hx hb d_M_count_38 (by decide) (fun c_38 => absurd c_38 (by decide)) (fun c_38 => ?_)
  refine lv_iconst (v := (nI 0)) hx hb d_M_count_41 (by decide) ?_
  exact mx_iret hx hb hr hlk d_M_count_42 (Nat.le_of_ble_eq_true rfl) (Nat.le_of_ble_eq_true rfl) hS.2.2 (⟨rfl, ki, ka, kb, zs, pu, ce, pa, tr, so, pl, ot, hP, hpic⟩)

set_option maxHeartbeats 4000000 in
set_option maxRecDepth 100000 in
theorem c_M_count_none {l : Launch} {s0 : State} {D : va_G} {cI cF cJ : ClassId} (G : Gx l s0 D cI cF cJ) (hm a1 a2 a3 a4 a5 a6 a7 a8 a9 a10 a11 : Nat) (th : Int32) (S : Nat → FS) (j : Nat) (wv : Int32) {H0 : Heap} {A0 : Nat → Prop} (hM : MP D cI hm a1 a2 a3 a4 a5 a6 a7 a8 a9 a10 a11 th S H0) (hD : va_D A0 (adM hm a1 a2 a3 a4 a5 a6 a7 a8 a9 a10 a11)) (hok : ∀ i, i < 4 → okS (S i)) (hj : j < 4) (h0 : (S j).1 = 0) : Mx l s0 y_M_count (.code y_M_count b_M_count 7 (some .int)) { frames := 7, cells := 0, slots := 0, locals := 170 } [.ref hm, .int (nI j), .int wv] H0 (Aa [hm, a1, a2, a3, a4, a5, a6, a7, a8, a9, a10, a11] H0.size) (Rw (.int (nI 0)) (fun H1 => MP D cI hm a1 a2 a3 a4 a5 a6 a7 a8 a9 a10 a11 (nI 2) S H1)) := by
  refine Mx.ofW (own := "FewBitsModel") rfl rfl ?_
  rintro p e s m below meth c ⟨hx, hb, hml, hr, hown, hW, hlk⟩ hnm het hH
  have hK := G.k hW
  have hD0 := hD
  obtain ⟨ki, ka, kb, zs, pu, ce, pa, tr, so, pl, ot, hP, hpic⟩ := hM
  have hD : va_D (Aa [hm, a1, a2, a3, a4, a5, a6, a7, a8, a9, a10, a11] H0.size) [(hm, .inr (4, [.int th, .ref a1, .ref a2, .ref a3, .ref a4, .ref a5, .ref a6, .ref a7, .ref a8, .ref a9, .ref a10, .ref a11])), (a1, aN cI 4 ki), (a2, aN cI 4 ka), (a3, aN cI 4 kb), (a4, aI cI 4 zs), (a5, aI cI 4 pu), (a6, aN cI 4096 ce), (a7, aN cI 1024 pa), (a8, aN cI 1024 tr), (a9, aI cI 256 so), (a10, aN cI 6 pl), (a11, aN cI 6 ot)] := va_D.same2 [hm, a1, a2, a3, a4, a5, a6, a7, a8, a9, a10, a11] (hD.aa (sz := H0.size)) rfl rfl
  have hS : va_S (Aa [hm, a1, a2, a3, a4, a5, a6, a7, a8, a9, a10, a11] H0.size) H0 H0 [] := va_S.rf
  have hl := lv_entry ([.ref hm, .int (nI j), .int wv]) (n := 7) (Nat.le_of_ble_eq_true rfl)
  rw [lg_entry_eq]
  generalize (lg_sl ([.ref hm, .int (nI j), .int wv]) ++ List.replicate (7 - (lg_sl ([.ref hm, .int (nI j), .int wv])).length) Slot.unset).toArray = ls at hl ⊢
  have hl : lv_has ls 7 [(0, .ref hm), (1, .int (nI j)), (2, .int wv)] := hl
  refine lv_aload_n hx hb d_M_count_0 rfl (lv_at hl 0 rfl) ?_
  refine lv_aload_n hx hb d_M_count_1 rfl (lv_at hl 0 rfl) ?_
  refine lv_iload_n hx hb d_M_count_2 rfl (lv_at hl 1 rfl) ?_
  refine mx_callR (r := .int (nI (if (S j).1 = 0 then 2 else 0))) (c_M_wrg G hm a1 a2 a3 a4 a5 a6 a7 a8 a9 a10 a11 th S j ⟨ki, ka, kb, zs, pu, ce, pa, tr, so, pl, ot, hP, hpic⟩ hD0 hok hj) hW (iv_M_count_3 G hx hb hown hW (va_recv hK hP (ci := 4) (q0 := 0) rfl rfl) [.int (nI j)] [.ref hm] rfl) hml hl.1 (by rw [hb]; exact d_M_count_3) (cd_M_wrong G hW) ⟨Nat.le_of_ble_eq_true rfl, Nat.le_of_ble_eq_true rfl⟩ rfl rfl (Nat.le_of_ble_eq_true rfl) (Nat.le_of_ble_eq_true rfl) (Nat.le_of_ble_eq_true rfl) ?_
  refine tp_i (y := (nI 2)) (by rw [if_pos h0]) ?_
  refine lv_if_le (tgt := 17) hx hb d_M_count_6 (by decide) (fun c_6 => absurd c_6 (by decide)) (fun c_6 => ?_)
  refine lv_aload_n hx hb d_M_count_9 rfl (lv_at hl 0 rfl) ?_
  refine lv_iload_n hx hb d_M_count_10 rfl (lv_at hl 1 rfl) ?_
  refine mx_callR (r := .int (nI (if (S j).1 = 0 then 2 else 0))) (c_M_wrg G hm a1 a2 a3 a4 a5 a6 a7 a8 a9 a10 a11 th S j ⟨ki, ka, kb, zs, pu, ce, pa, tr, so, pl, ot, hP, hpic⟩ hD0 hok hj) hW (iv_M_count_11 G hx hb hown hW (va_recv hK hP (ci := 4) (q0 := 0) rfl rfl) [.int (nI j)] [.ref hm] rfl) hml hl.1 (by rw [hb]; exact d_M_count_11) (cd_M_wrong G hW) ⟨Nat.le_of_ble_eq_true rfl, Nat.le_of_ble_eq_true rfl⟩ rfl rfl (Nat.le_of_ble_eq_true rfl) (Nat.le_of_ble_eq_true rfl) (Nat.le_of_ble_eq_true rfl) ?_
  refine tp_i (y := (nI 2)) (by rw [if_pos h0]) ?_
  refine lv_goto (tgt := 31) hx hb d_M_count_14 (by decide) ?_
  refine va_put (D := D) (ci := 4) (v := .int (nI 2)) (ty := .int) (C := R_M) (T := T_M) (N := 12) hx hb (us_M G hW) (fun _ h => h) t_M to_M nm_M hown hK hP hD hS 0 rfl rfl 0 (by decide) (fl_M_43 G hW) (fun _ h9 => h9) rfl (by decide +kernel) rfl rfl (Nat.le_of_ble_eq_true rfl) d_M_count_31 (fun H locs hP hD hS => ?_)
  have hP : va_P D vcl [(hm, .inr (4, [.int (nI 2), .ref a1, .ref a2, .ref a3, .ref a4, .ref a5, .ref a6, .ref a7, .ref a8, .ref a9, .ref a10, .ref a11])), (a1, aN cI 4 ki), (a2, aN cI 4 ka), (a3, aN cI 4 kb), (a4, aI cI 4 zs), (a5, aI cI 4 pu), (a6, aN cI 4096 ce), (a7, aN cI 1024 pa), (a8, aN cI 1024 tr), (a9, aI cI 256 so), (a10, aN cI 6 pl), (a11, aN cI 6 ot)] H := hP
  have hD : va_D (Aa [hm, a1, a2, a3, a4, a5, a6, a7, a8, a9, a10, a11] H0.size) [(hm, .inr (4, [.int (nI 2), .ref a1, .ref a2, .ref a3, .ref a4, .ref a5, .ref a6, .ref a7, .ref a8, .ref a9, .ref a10, .ref a11])), (a1, aN cI 4 ki), (a2, aN cI 4 ka), (a3, aN cI 4 kb), (a4, aI cI 4 zs), (a5, aI cI 4 pu), (a6, aN cI 4096 ce), (a7, aN cI 1024 pa), (a8, aN cI 1024 tr), (a9, aI cI 256 so), (a10, aN cI 6 pl), (a11, aN cI 6 ot)] := hD
  refine lv_aload_n hx hb d_M_count_34 rfl (lv_at hl 0 rfl) ?_
  refine va_get (D := D) (ci := 4) (v := .int (nI 2)) (C := R_M) (T := T_M) (N := 12) hx hb (us_M G hW) (fun _ h => h) hown hK hP 0 rfl rfl 0 (by decide) (fl_M_43 G hW) (fun _ h9 => h9) rfl d_M_count_35 ?_
  refine lv_if_le (tgt := 43) hx hb d_M_count_38 (by decide) (fun c_38 => absurd c_38 (by decide)) (fun c_38 => ?_)
  refine lv_iconst (v := (nI 0)) hx hb d_M_count_41 (by decide) ?_
  exact mx_iret hx hb hr hlk d_M_count_42 (Nat.le_of_ble_eq_true rfl) (Nat.le_of_ble_eq_true rfl) hS.2.2 (⟨rfl, ki, ka, kb, zs, pu, ce, pa, tr, so, pl, ot, hP, hpic⟩)

set_option maxHeartbeats 4000000 in
set_option maxRecDepth 100000 in
theorem c_M_grow_no {l : Launch} {s0 : State} {D : va_G} {cI cF cJ : ClassId} (G : Gx l s0 D cI cF cJ) (hm a1 a2 a3 a4 a5 a6 a7 a8 a9 a10 a11 : Nat) (th : Int32) (S : Nat → FS) (v : Int32)  {H0 : Heap} {A0 : Nat → Prop} (hM : MP D cI hm a1 a2 a3 a4 a5 a6 a7 a8 a9 a10 a11 th S H0) (hD : va_D A0 (adM hm a1 a2 a3 a4 a5 a6 a7 a8 a9 a10 a11)) (hok : ∀ i, i < 4 → okS (S i)) (hv : isNum v = false) : Mx l s0 y_M_grow (.code y_M_grow b_M_grow 6 none) { frames := 7, cells := 0, slots := 0, locals := 170 } [.ref hm, .int v] H0 (Aa [hm, a1, a2, a3, a4, a5, a6, a7, a8, a9, a10, a11] H0.size) (Rn (fun H1 => MP D cI hm a1 a2 a3 a4 a5 a6 a7 a8 a9 a10 a11 (nI 1) S H1)) := by
  refine Mx.ofW (own := "FewBitsModel") rfl rfl ?_
  rintro p e s m below meth c ⟨hx, hb, hml, hr, hown, hW, hlk⟩ hnm het hH
  have hK := G.k hW
  have hD0 := hD
  obtain ⟨ki, ka, kb, zs, pu, ce, pa, tr, so, pl, ot, hP, hpic⟩ := hM
  have hD : va_D (Aa [hm, a1, a2, a3, a4, a5, a6, a7, a8, a9, a10, a11] H0.size) [(hm, .inr (4, [.int th, .ref a1, .ref a2, .ref a3, .ref a4, .ref a5, .ref a6, .ref a7, .ref a8, .ref a9, .ref a10, .ref a11])), (a1, aN cI 4 ki), (a2, aN cI 4 ka), (a3, aN cI 4 kb), (a4, aI cI 4 zs), (a5, aI cI 4 pu), (a6, aN cI 4096 ce), (a7, aN cI 1024 pa), (a8, aN cI 1024 tr), (a9, aI cI 256 so), (a10, aN cI 6 pl), (a11, aN cI 6 ot)] := va_D.same2 [hm, a1, a2, a3, a4, a5, a6, a7, a8, a9, a10, a11] (hD.aa (sz := H0.size)) rfl rfl
  have hS : va_S (Aa [hm, a1, a2, a3, a4, a5, a6, a7, a8, a9, a10, a11] H0.size) H0 H0 [] := va_S.rf
  have hl := lv_entry ([.ref hm, .int v]) (n := 6) (Nat.le_of_ble_eq_true rfl)
  rw [lg_entry_eq]
  generalize (lg_sl ([.ref hm, .int v]) ++ List.replicate (6 - (lg_sl ([.ref hm, .int v])).length) Slot.unset).toArray = ls at hl ⊢
  have hl : lv_has ls 6 [(0, .ref hm), (1, .int v)] := hl
  refine lv_aload_n hx hb d_M_grow_0 rfl (lv_at hl 0 rfl) ?_
  refine lv_aload_n hx hb d_M_grow_1 rfl (lv_at hl 0 rfl) ?_
  refine lv_iload_n hx hb d_M_grow_2 rfl (lv_at hl 1 rfl) ?_
  refine mx_callR (r := .int (nI 1)) (c_M_wrong_n G hm a1 a2 a3 a4 a5 a6 a7 a8 a9 a10 a11 th ki ka kb zs pu ce pa tr so pl ot v hP hv) hW (iv_M_grow_3 G hx hb hown hW (va_recv hK hP (ci := 4) (q0 := 0) rfl rfl) [.int v] [.ref hm] rfl) hml hl.1 (by rw [hb]; exact d_M_grow_3) (cd_M_wrong G hW) ⟨Nat.le_of_ble_eq_true rfl, Nat.le_of_ble_eq_true rfl⟩ rfl rfl (Nat.le_of_ble_eq_true rfl) (Nat.le_of_ble_eq_true rfl) (Nat.le_of_ble_eq_true rfl) ?_
  refine lv_if_le (tgt := 17) hx hb d_M_grow_6 (by decide) (fun c_6 => absurd c_6 (by decide)) (fun c_6 => ?_)
  refine lv_aload_n hx hb d_M_grow_9 rfl (lv_at hl 0 rfl) ?_
  refine lv_iload_n hx hb d_M_grow_10 rfl (lv_at hl 1 rfl) ?_
  refine mx_callR (r := .int (nI 1)) (c_M_wrong_n G hm a1 a2 a3 a4 a5 a6 a7 a8 a9 a10 a11 th ki ka kb zs pu ce pa tr so pl ot v hP hv) hW (iv_M_grow_11 G hx hb hown hW (va_recv hK hP (ci := 4) (q0 := 0) rfl rfl) [.int v] [.ref hm] rfl) hml hl.1 (by rw [hb]; exact d_M_grow_11) (cd_M_wrong G hW) ⟨Nat.le_of_ble_eq_true rfl, Nat.le_of_ble_eq_true rfl⟩ rfl rfl (Nat.le_of_ble_eq_true rfl) (Nat.le_of_ble_eq_true rfl) (Nat.le_of_ble_eq_true rfl) ?_
  refine lv_goto (tgt := 53) hx hb d_M_grow_14 (by decide) ?_
  refine va_put (D := D) (ci := 4) (v := .int (nI 1)) (ty := .int) (C := R_M) (T := T_M) (N := 12) hx hb (us_M G hW) (fun _ h => h) t_M to_M nm_M hown hK hP hD hS 0 rfl rfl 0 (by decide) (fl_M_43 G hW) (fun _ h9 => h9) rfl (by decide +kernel) rfl rfl (Nat.le_of_ble_eq_true rfl) d_M_grow_53 (fun H locs hP hD hS => ?_)
  have hP : va_P D vcl [(hm, .inr (4, [.int (nI 1), .ref a1, .ref a2, .ref a3, .ref a4, .ref a5, .ref a6, .ref a7, .ref a8, .ref a9, .ref a10, .ref a11])), (a1, aN cI 4 ki), (a2, aN cI 4 ka), (a3, aN cI 4 kb), (a4, aI cI 4 zs), (a5, aI cI 4 pu), (a6, aN cI 4096 ce), (a7, aN cI 1024 pa), (a8, aN cI 1024 tr), (a9, aI cI 256 so), (a10, aN cI 6 pl), (a11, aN cI 6 ot)] H := hP
  have hD : va_D (Aa [hm, a1, a2, a3, a4, a5, a6, a7, a8, a9, a10, a11] H0.size) [(hm, .inr (4, [.int (nI 1), .ref a1, .ref a2, .ref a3, .ref a4, .ref a5, .ref a6, .ref a7, .ref a8, .ref a9, .ref a10, .ref a11])), (a1, aN cI 4 ki), (a2, aN cI 4 ka), (a3, aN cI 4 kb), (a4, aI cI 4 zs), (a5, aI cI 4 pu), (a6, aN cI 4096 ce), (a7, aN cI 1024 pa), (a8, aN cI 1024 tr), (a9, aI cI 256 so), (a10, aN cI 6 pl), (a11, aN cI 6 ot)] := hD
  refine lv_aload_n hx hb d_M_grow_56 rfl (lv_at hl 0 rfl) ?_
  refine va_get (D := D) (ci := 4) (v := .int (nI 1)) (C := R_M) (T := T_M) (N := 12) hx hb (us_M G hW) (fun _ h => h) hown hK hP 0 rfl rfl 0 (by decide) (fl_M_43 G hW) (fun _ h9 => h9) rfl d_M_grow_57 ?_
  refine lv_if_le (tgt := 64) hx hb d_M_grow_60 (by decide) (fun c_60 => absurd c_60 (by decide)) (fun c_60 => ?_)
  exact mx_vret hx hb hr hlk d_M_grow_63 (Nat.le_of_ble_eq_true rfl) (Nat.le_of_ble_eq_true rfl) hS.2.2 (⟨rfl, ki, ka, kb, zs, pu, ce, pa, tr, so, pl, ot, hP, hpic⟩)

set_option maxHeartbeats 4000000 in
set_option maxRecDepth 100000 in
theorem c_M_grow_none {l : Launch} {s0 : State} {D : va_G} {cI cF cJ : ClassId} (G : Gx l s0 D cI cF cJ) (hm a1 a2 a3 a4 a5 a6 a7 a8 a9 a10 a11 : Nat) (th : Int32) (S : Nat → FS) (j : Nat)  {H0 : Heap} {A0 : Nat → Prop} (hM : MP D cI hm a1 a2 a3 a4 a5 a6 a7 a8 a9 a10 a11 th S H0) (hD : va_D A0 (adM hm a1 a2 a3 a4 a5 a6 a7 a8 a9 a10 a11)) (hok : ∀ i, i < 4 → okS (S i)) (hj : j < 4) (h0 : (S j).1 = 0) : Mx l s0 y_M_grow (.code y_M_grow b_M_grow 6 none) { frames := 7, cells := 0, slots := 0, locals := 170 } [.ref hm, .int (nI j)] H0 (Aa [hm, a1, a2, a3, a4, a5, a6, a7, a8, a9, a10, a11] H0.size) (Rn (fun H1 => MP D cI hm a1 a2 a3 a4 a5 a6 a7 a8 a9 a10 a11 (nI 2) S H1)) := by
  refine Mx.ofW (own := "FewBitsModel") rfl rfl ?_
  rintro p e s m below meth c ⟨hx, hb, hml, hr, hown, hW, hlk⟩ hnm het hH
  have hK := G.k hW
  have hD0 := hD
  obtain ⟨ki, ka, kb, zs, pu, ce, pa, tr, so, pl, ot, hP, hpic⟩ := hM
  have hD : va_D (Aa [hm, a1, a2, a3, a4, a5, a6, a7, a8, a9, a10, a11] H0.size) [(hm, .inr (4, [.int th, .ref a1, .ref a2, .ref a3, .ref a4, .ref a5, .ref a6, .ref a7, .ref a8, .ref a9, .ref a10, .ref a11])), (a1, aN cI 4 ki), (a2, aN cI 4 ka), (a3, aN cI 4 kb), (a4, aI cI 4 zs), (a5, aI cI 4 pu), (a6, aN cI 4096 ce), (a7, aN cI 1024 pa), (a8, aN cI 1024 tr), (a9, aI cI 256 so), (a10, aN cI 6 pl), (a11, aN cI 6 ot)] := va_D.same2 [hm, a1, a2, a3, a4, a5, a6, a7, a8, a9, a10, a11] (hD.aa (sz := H0.size)) rfl rfl
  have hS : va_S (Aa [hm, a1, a2, a3, a4, a5, a6, a7, a8, a9, a10, a11] H0.size) H0 H0 [] := va_S.rf
  have hl := lv_entry ([.ref hm, .int (nI j)]) (n := 6) (Nat.le_of_ble_eq_true rfl)
  rw [lg_entry_eq]
  generalize (lg_sl ([.ref hm, .int (nI j)]) ++ List.replicate (6 - (lg_sl ([.ref hm, .int (nI j)])).length) Slot.unset).toArray = ls at hl ⊢
  have hl : lv_has ls 6 [(0, .ref hm), (1, .int (nI j))] := hl
  refine lv_aload_n hx hb d_M_grow_0 rfl (lv_at hl 0 rfl) ?_
  refine lv_aload_n hx hb d_M_grow_1 rfl (lv_at hl 0 rfl) ?_
  refine lv_iload_n hx hb d_M_grow_2 rfl (lv_at hl 1 rfl) ?_
  refine mx_callR (r := .int (nI (if (S j).1 = 0 then 2 else 0))) (c_M_wrg G hm a1 a2 a3 a4 a5 a6 a7 a8 a9 a10 a11 th S j ⟨ki, ka, kb, zs, pu, ce, pa, tr, so, pl, ot, hP, hpic⟩ hD0 hok hj) hW (iv_M_grow_3 G hx hb hown hW (va_recv hK hP (ci := 4) (q0 := 0) rfl rfl) [.int (nI j)] [.ref hm] rfl) hml hl.1 (by rw [hb]; exact d_M_grow_3) (cd_M_wrong G hW) ⟨Nat.le_of_ble_eq_true rfl, Nat.le_of_ble_eq_true rfl⟩ rfl rfl (Nat.le_of_ble_eq_true rfl) (Nat.le_of_ble_eq_true rfl) (Nat.le_of_ble_eq_true rfl) ?_
  refine tp_i (y := (nI 2)) (by rw [if_pos h0]) ?_
  refine lv_if_le (tgt := 17) hx hb d_M_grow_6 (by decide) (fun c_6 => absurd c_6 (by decide)) (fun c_6 => ?_)
  refine lv_aload_n hx hb d_M_grow_9 rfl (lv_at hl 0 rfl) ?_
  refine lv_iload_n hx hb d_M_grow_10 rfl (lv_at hl 1 rfl) ?_
  refine mx_callR (r := .int (nI (if (S j).1 = 0 then 2 else 0))) (c_M_wrg G hm a1 a2 a3 a4 a5 a6 a7 a8 a9 a10 a11 th S j ⟨ki, ka, kb, zs, pu, ce, pa, tr, so, pl, ot, hP, hpic⟩ hD0 hok hj) hW (iv_M_grow_11 G hx hb hown hW (va_recv hK hP (ci := 4) (q0 := 0) rfl rfl) [.int (nI j)] [.ref hm] rfl) hml hl.1 (by rw [hb]; exact d_M_grow_11) (cd_M_wrong G hW) ⟨Nat.le_of_ble_eq_true rfl, Nat.le_of_ble_eq_true rfl⟩ rfl rfl (Nat.le_of_ble_eq_true rfl) (Nat.le_of_ble_eq_true rfl) (Nat.le_of_ble_eq_true rfl) ?_
  refine tp_i (y := (nI 2)) (by rw [if_pos h0]) ?_
  refine lv_goto (tgt := 53) hx hb d_M_grow_14 (by decide) ?_
  refine va_put (D := D) (ci := 4) (v := .int (nI 2)) (ty := .int) (C := R_M) (T := T_M) (N := 12) hx hb (us_M G hW) (fun _ h => h) t_M to_M nm_M hown hK hP hD hS 0 rfl rfl 0 (by decide) (fl_M_43 G hW) (fun _ h9 => h9) rfl (by decide +kernel) rfl rfl (Nat.le_of_ble_eq_true rfl) d_M_grow_53 (fun H locs hP hD hS => ?_)
  have hP : va_P D vcl [(hm, .inr (4, [.int (nI 2), .ref a1, .ref a2, .ref a3, .ref a4, .ref a5, .ref a6, .ref a7, .ref a8, .ref a9, .ref a10, .ref a11])), (a1, aN cI 4 ki), (a2, aN cI 4 ka), (a3, aN cI 4 kb), (a4, aI cI 4 zs), (a5, aI cI 4 pu), (a6, aN cI 4096 ce), (a7, aN cI 1024 pa), (a8, aN cI 1024 tr), (a9, aI cI 256 so), (a10, aN cI 6 pl), (a11, aN cI 6 ot)] H := hP
  have hD : va_D (Aa [hm, a1, a2, a3, a4, a5, a6, a7, a8, a9, a10, a11] H0.size) [(hm, .inr (4, [.int (nI 2), .ref a1, .ref a2, .ref a3, .ref a4, .ref a5, .ref a6, .ref a7, .ref a8, .ref a9, .ref a10, .ref a11])), (a1, aN cI 4 ki), (a2, aN cI 4 ka), (a3, aN cI 4 kb), (a4, aI cI 4 zs), (a5, aI cI 4 pu), (a6, aN cI 4096 ce), (a7, aN cI 1024 pa), (a8, aN cI 1024 tr), (a9, aI cI 256 so), (a10, aN cI 6 pl), (a11, aN cI 6 ot)] := hD
  refine lv_aload_n hx hb d_M_grow_56 rfl (lv_at hl 0 rfl) ?_
  refine va_get (D := D) (ci := 4) (v := .int (nI 2)) (C := R_M) (T := T_M) (N := 12) hx hb (us_M G hW) (fun _ h => h) hown hK hP 0 rfl rfl 0 (by decide) (fl_M_43 G hW) (fun _ h9 => h9) rfl d_M_grow_57 ?_
  refine lv_if_le (tgt := 64) hx hb d_M_grow_60 (by decide) (fun c_60 => absurd c_60 (by decide)) (fun c_60 => ?_)
  exact mx_vret hx hb hr hlk d_M_grow_63 (Nat.le_of_ble_eq_true rfl) (Nat.le_of_ble_eq_true rfl) hS.2.2 (⟨rfl, ki, ka, kb, zs, pu, ce, pa, tr, so, pl, ot, hP, hpic⟩)

set_option maxHeartbeats 4000000 in
set_option maxRecDepth 100000 in
theorem c_M_cell_no {l : Launch} {s0 : State} {D : va_G} {cI cF cJ : ClassId} (G : Gx l s0 D cI cF cJ) (hm a1 a2 a3 a4 a5 a6 a7 a8 a9 a10 a11 : Nat) (th : Int32) (S : Nat → FS) (v : Int32) (iv : Int32) {H0 : Heap} {A0 : Nat → Prop} (hM : MP D cI hm a1 a2 a3 a4 a5 a6 a7 a8 a9 a10 a11 th S H0) (hD : va_D A0 (adM hm a1 a2 a3 a4 a5 a6 a7 a8 a9 a10 a11)) (hok : ∀ i, i < 4 → okS (S i)) (hv : isNum v = false) : Mx l s0 y_M_cell (.code y_M_cell b_M_cell 4 (some .int)) { frames := 7, cells := 0, slots := 0, locals := 170 } [.ref hm, .int v, .int iv] H0 (Aa [hm, a1, a2, a3, a4, a5, a6, a7, a8, a9, a10, a11] H0.size) (Rw (.int (nI 0)) (fun H1 => MP D cI hm a1 a2 a3 a4 a5 a6 a7 a8 a9 a10 a11 (nI 1) S H1)) := by
  refine Mx.ofW (own := "FewBitsModel") rfl rfl ?_
  rintro p e s m below meth c ⟨hx, hb, hml, hr, hown, hW, hlk⟩ hnm het hH
  have hK := G.k hW
  have hD0 := hD
  obtain ⟨ki, ka, kb, zs, pu, ce, pa, tr, so, pl, ot, hP, hpic⟩ := hM
  have hD : va_D (Aa [hm, a1, a2, a3, a4, a5, a6, a7, a8, a9, a10, a11] H0.size) [(hm, .inr (4, [.int th, .ref a1, .ref a2, .ref a3, .ref a4, .ref a5, .ref a6, .ref a7, .ref a8, .ref a9, .ref a10, .ref a11])), (a1, aN cI 4 ki), (a2, aN cI 4 ka), (a3, aN cI 4 kb), (a4, aI cI 4 zs), (a5, aI cI 4 pu), (a6, aN cI 4096 ce), (a7, aN cI 1024 pa), (a8, aN cI 1024 tr), (a9, aI cI 256 so), (a10, aN cI 6 pl), (a11, aN cI 6 ot)] := va_D.same2 [hm, a1, a2, a3, a4, a5, a6, a7, a8, a9, a10, a11] (hD.aa (sz := H0.size)) rfl rfl
  have hS : va_S (Aa [hm, a1, a2, a3, a4, a5, a6, a7, a8, a9, a10, a11] H0.size) H0 H0 [] := va_S.rf
  have hl := lv_entry ([.ref hm, .int v, .int iv]) (n := 4) (Nat.le_of_ble_eq_true rfl)
  rw [lg_entry_eq]
  generalize (lg_sl ([.ref hm, .int v, .int iv]) ++ List.replicate (4 - (lg_sl ([.ref hm, .int v, .int iv])).length) Slot.unset).toArray = ls at hl ⊢
  have hl : lv_has ls 4 [(0, .ref hm), (1, .int v), (2, .int iv)] := hl
  refine lv_aload_n hx hb d_M_cell_0 rfl (lv_at hl 0 rfl) ?_
  refine lv_aload_n hx hb d_M_cell_1 rfl (lv_at hl 0 rfl) ?_
  refine lv_iload_n hx hb d_M_cell_2 rfl (lv_at hl 1 rfl) ?_
  refine mx_callR (r := .int (nI 1)) (c_M_wrong_n G hm a1 a2 a3 a4 a5 a6 a7 a8 a9 a10 a11 th ki ka kb zs pu ce pa tr so pl ot v hP hv) hW (iv_M_cell_3 G hx hb hown hW (va_recv hK hP (ci := 4) (q0 := 0) rfl rfl) [.int v] [.ref hm] rfl) hml hl.1 (by rw [hb]; exact d_M_cell_3) (cd_M_wrong G hW) ⟨Nat.le_of_ble_eq_true rfl, Nat.le_of_ble_eq_true rfl⟩ rfl rfl (Nat.le_of_ble_eq_true rfl) (Nat.le_of_ble_eq_true rfl) (Nat.le_of_ble_eq_true rfl) ?_
  refine lv_if_le (tgt := 13) hx hb d_M_cell_6 (by decide) (fun c_6 => absurd c_6 (by decide)) (fun c_6 => ?_)
  refine lv_iconst (v := (nI 1)) hx hb d_M_cell_9 (by decide) ?_
  refine lv_goto (tgt := 14) hx hb d_M_cell_10 (by decide) ?_
  refine va_put (D := D) (ci := 4) (v := .int (nI 1)) (ty := .int) (C := R_M) (T := T_M) (N := 12) hx hb (us_M G hW) (fun _ h => h) t_M to_M nm_M hown hK hP hD hS 0 rfl rfl 0 (by decide) (fl_M_43 G hW) (fun _ h9 => h9) rfl (by decide +kernel) rfl rfl (Nat.le_of_ble_eq_true rfl) d_M_cell_14 (fun H locs hP hD hS => ?_)
  have hP : va_P D vcl [(hm, .inr (4, [.int (nI 1), .ref a1, .ref a2, .ref a3, .ref a4, .ref a5, .ref a6, .ref a7, .ref a8, .ref a9, .ref a10, .ref a11])), (a1, aN cI 4 ki), (a2, aN cI 4 ka), (a3, aN cI 4 kb), (a4, aI cI 4 zs), (a5, aI cI 4 pu), (a6, aN cI 4096 ce), (a7, aN cI 1024 pa), (a8, aN cI 1024 tr), (a9, aI cI 256 so), (a10, aN cI 6 pl), (a11, aN cI 6 ot)] H := hP
  have hD : va_D (Aa [hm, a1, a2, a3, a4, a5, a6, a7, a8, a9, a10, a11] H0.size) [(hm, .inr (4, [.int (nI 1), .ref a1, .ref a2, .ref a3, .ref a4, .ref a5, .ref a6, .ref a7, .ref a8, .ref a9, .ref a10, .ref a11])), (a1, aN cI 4 ki), (a2, aN cI 4 ka), (a3, aN cI 4 kb), (a4, aI cI 4 zs), (a5, aI cI 4 pu), (a6, aN cI 4096 ce), (a7, aN cI 1024 pa), (a8, aN cI 1024 tr), (a9, aI cI 256 so), (a10, aN cI 6 pl), (a11, aN cI 6 ot)] := hD
  refine lv_aload_n hx hb d_M_cell_17 rfl (lv_at hl 0 rfl) ?_
  refine va_get (D := D) (ci := 4) (v := .int (nI 1)) (C := R_M) (T := T_M) (N := 12) hx hb (us_M G hW) (fun _ h => h) hown hK hP 0 rfl rfl 0 (by decide) (fl_M_43 G hW) (fun _ h9 => h9) rfl d_M_cell_18 ?_
  refine lv_if_le (tgt := 26) hx hb d_M_cell_21 (by decide) (fun c_21 => absurd c_21 (by decide)) (fun c_21 => ?_)
  refine lv_iconst (v := (nI 0)) hx hb d_M_cell_24 (by decide) ?_
  exact mx_iret hx hb hr hlk d_M_cell_25 (Nat.le_of_ble_eq_true rfl) (Nat.le_of_ble_eq_true rfl) hS.2.2 (⟨rfl, ki, ka, kb, zs, pu, ce, pa, tr, so, pl, ot, hP, hpic⟩)

set_option maxHeartbeats 4000000 in
set_option maxRecDepth 100000 in
theorem c_M_cell_none {l : Launch} {s0 : State} {D : va_G} {cI cF cJ : ClassId} (G : Gx l s0 D cI cF cJ) (hm a1 a2 a3 a4 a5 a6 a7 a8 a9 a10 a11 : Nat) (th : Int32) (S : Nat → FS) (j : Nat) (iv : Int32) {H0 : Heap} {A0 : Nat → Prop} (hM : MP D cI hm a1 a2 a3 a4 a5 a6 a7 a8 a9 a10 a11 th S H0) (hD : va_D A0 (adM hm a1 a2 a3 a4 a5 a6 a7 a8 a9 a10 a11)) (hok : ∀ i, i < 4 → okS (S i)) (hj : j < 4) (h0 : (S j).1 = 0) : Mx l s0 y_M_cell (.code y_M_cell b_M_cell 4 (some .int)) { frames := 7, cells := 0, slots := 0, locals := 170 } [.ref hm, .int (nI j), .int iv] H0 (Aa [hm, a1, a2, a3, a4, a5, a6, a7, a8, a9, a10, a11] H0.size) (Rw (.int (nI 0)) (fun H1 => MP D cI hm a1 a2 a3 a4 a5 a6 a7 a8 a9 a10 a11 (nI 1) S H1)) := by
  refine Mx.ofW (own := "FewBitsModel") rfl rfl ?_
  rintro p e s m below meth c ⟨hx, hb, hml, hr, hown, hW, hlk⟩ hnm het hH
  have hK := G.k hW
  have hD0 := hD
  obtain ⟨ki, ka, kb, zs, pu, ce, pa, tr, so, pl, ot, hP, hpic⟩ := hM
  have hD : va_D (Aa [hm, a1, a2, a3, a4, a5, a6, a7, a8, a9, a10, a11] H0.size) [(hm, .inr (4, [.int th, .ref a1, .ref a2, .ref a3, .ref a4, .ref a5, .ref a6, .ref a7, .ref a8, .ref a9, .ref a10, .ref a11])), (a1, aN cI 4 ki), (a2, aN cI 4 ka), (a3, aN cI 4 kb), (a4, aI cI 4 zs), (a5, aI cI 4 pu), (a6, aN cI 4096 ce), (a7, aN cI 1024 pa), (a8, aN cI 1024 tr), (a9, aI cI 256 so), (a10, aN cI 6 pl), (a11, aN cI 6 ot)] := va_D.same2 [hm, a1, a2, a3, a4, a5, a6, a7, a8, a9, a10, a11] (hD.aa (sz := H0.size)) rfl rfl
  have hS : va_S (Aa [hm, a1, a2, a3, a4, a5, a6, a7, a8, a9, a10, a11] H0.size) H0 H0 [] := va_S.rf
  have hl := lv_entry ([.ref hm, .int (nI j), .int iv]) (n := 4) (Nat.le_of_ble_eq_true rfl)
  rw [lg_entry_eq]
  generalize (lg_sl ([.ref hm, .int (nI j), .int iv]) ++ List.replicate (4 - (lg_sl ([.ref hm, .int (nI j), .int iv])).length) Slot.unset).toArray = ls at hl ⊢
  have hl : lv_has ls 4 [(0, .ref hm), (1, .int (nI j)), (2, .int iv)] := hl
  refine lv_aload_n hx hb d_M_cell_0 rfl (lv_at hl 0 rfl) ?_
  refine lv_aload_n hx hb d_M_cell_1 rfl (lv_at hl 0 rfl) ?_
  refine lv_iload_n hx hb d_M_cell_2 rfl (lv_at hl 1 rfl) ?_
  refine mx_callR (r := .int (nI (if (S j).1 = 0 then 2 else 0))) (c_M_wrg G hm a1 a2 a3 a4 a5 a6 a7 a8 a9 a10 a11 th S j ⟨ki, ka, kb, zs, pu, ce, pa, tr, so, pl, ot, hP, hpic⟩ hD0 hok hj) hW (iv_M_cell_3 G hx hb hown hW (va_recv hK hP (ci := 4) (q0 := 0) rfl rfl) [.int (nI j)] [.ref hm] rfl) hml hl.1 (by rw [hb]; exact d_M_cell_3) (cd_M_wrong G hW) ⟨Nat.le_of_ble_eq_true rfl, Nat.le_of_ble_eq_true rfl⟩ rfl rfl (Nat.le_of_ble_eq_true rfl) (Nat.le_of_ble_eq_true rfl) (Nat.le_of_ble_eq_true rfl) ?_
  refine tp_i (y := (nI 2)) (by rw [if_pos h0]) ?_
  refine lv_if_le (tgt := 13) hx hb d_M_cell_6 (by decide) (fun c_6 => absurd c_6 (by decide)) (fun c_6 => ?_)
  refine lv_iconst (v := (nI 1)) hx hb d_M_cell_9 (by decide) ?_
  refine lv_goto (tgt := 14) hx hb d_M_cell_10 (by decide) ?_
  refine va_put (D := D) (ci := 4) (v := .int (nI 1)) (ty := .int) (C := R_M) (T := T_M) (N := 12) hx hb (us_M G hW) (fun _ h => h) t_M to_M nm_M hown hK hP hD hS 0 rfl rfl 0 (by decide) (fl_M_43 G hW) (fun _ h9 => h9) rfl (by decide +kernel) rfl rfl (Nat.le_of_ble_eq_true rfl) d_M_cell_14 (fun H locs hP hD hS => ?_)
  have hP : va_P D vcl [(hm, .inr (4, [.int (nI 1), .ref a1, .ref a2, .ref a3, .ref a4, .ref a5, .ref a6, .ref a7, .ref a8, .ref a9, .ref a10, .ref a11])), (a1, aN cI 4 ki), (a2, aN cI 4 ka), (a3, aN cI 4 kb), (a4, aI cI 4 zs), (a5, aI cI 4 pu), (a6, aN cI 4096 ce), (a7, aN cI 1024 pa), (a8, aN cI 1024 tr), (a9, aI cI 256 so), (a10, aN cI 6 pl), (a11, aN cI 6 ot)] H := hP
  have hD : va_D (Aa [hm, a1, a2, a3, a4, a5, a6, a7, a8, a9, a10, a11] H0.size) [(hm, .inr (4, [.int (nI 1), .ref a1, .ref a2, .ref a3, .ref a4, .ref a5, .ref a6, .ref a7, .ref a8, .ref a9, .ref a10, .ref a11])), (a1, aN cI 4 ki), (a2, aN cI 4 ka), (a3, aN cI 4 kb), (a4, aI cI 4 zs), (a5, aI cI 4 pu), (a6, aN cI 4096 ce), (a7, aN cI 1024 pa), (a8, aN cI 1024 tr), (a9, aI cI 256 so), (a10, aN cI 6 pl), (a11, aN cI 6 ot)] := hD
  refine lv_aload_n hx hb d_M_cell_17 rfl (lv_at hl 0 rfl) ?_
  refine va_get (D := D) (ci := 4) (v := .int (nI 1)) (C := R_M) (T := T_M) (N := 12) hx hb (us_M G hW) (fun _ h => h) hown hK hP 0 rfl rfl 0 (by decide) (fl_M_43 G hW) (fun _ h9 => h9) rfl d_M_cell_18 ?_
  refine lv_if_le (tgt := 26) hx hb d_M_cell_21 (by decide) (fun c_21 => absurd c_21 (by decide)) (fun c_21 => ?_)
  refine lv_iconst (v := (nI 0)) hx hb d_M_cell_24 (by decide) ?_
  exact mx_iret hx hb hr hlk d_M_cell_25 (Nat.le_of_ble_eq_true rfl) (Nat.le_of_ble_eq_true rfl) hS.2.2 (⟨rfl, ki, ka, kb, zs, pu, ce, pa, tr, so, pl, ot, hP, hpic⟩)

set_option maxHeartbeats 4000000 in
set_option maxRecDepth 100000 in
theorem c_M_add {l : Launch} {s0 : State} {D : va_G} {cI cF cJ : ClassId} (G : Gx l s0 D cI cF cJ) (hm a1 a2 a3 a4 a5 a6 a7 a8 a9 a10 a11 : Nat) (th : Int32) (S : Nat → FS) (j : Nat) (x : Int64) {H0 : Heap} {A0 : Nat → Prop} (hM : MP D cI hm a1 a2 a3 a4 a5 a6 a7 a8 a9 a10 a11 th S H0) (hD : va_D A0 (adM hm a1 a2 a3 a4 a5 a6 a7 a8 a9 a10 a11)) (hok : ∀ i, i < 4 → okS (S i)) (hj : j < 4) (h0 : (S j).1 ≠ 0) : Mx l s0 y_M_add (.code y_M_add b_M_add 4 (some .int)) { frames := 7, cells := 0, slots := 0, locals := 170 } [.ref hm, .int (nI j), .long x] H0 (Aa [hm, a1, a2, a3, a4, a5, a6, a7, a8, a9, a10, a11] H0.size) (Rw (.int (if (addS (S j) x).1 then (addS (S j) x).2.2.2.2.1 else nI 0)) (fun H1 => MP D cI hm a1 a2 a3 a4 a5 a6 a7 a8 a9 a10 a11 (nI (if (addS (S j) x).1 then 0 else 3)) (va_up S j (addS (S j) x).2) H1)) := by
  refine Mx.ofW (own := "FewBitsModel") rfl rfl ?_
  rintro p e s m below meth c ⟨hx, hb, hml, hr, hown, hW, hlk⟩ hnm het hH
  have hK := G.k hW
  have hD0 := hD
  obtain ⟨ki, ka, kb, zs, pu, ce, pa, tr, so, pl, ot, hP, hpic⟩ := hM
  have hD : va_D (Aa [hm, a1, a2, a3, a4, a5, a6, a7, a8, a9, a10, a11] H0.size) [(hm, .inr (4, [.int th, .ref a1, .ref a2, .ref a3, .ref a4, .ref a5, .ref a6, .ref a7, .ref a8, .ref a9, .ref a10, .ref a11])), (a1, aN cI 4 ki), (a2, aN cI 4 ka), (a3, aN cI 4 kb), (a4, aI cI 4 zs), (a5, aI cI 4 pu), (a6, aN cI 4096 ce), (a7, aN cI 1024 pa), (a8, aN cI 1024 tr), (a9, aI cI 256 so), (a10, aN cI 6 pl), (a11, aN cI 6 ot)] := va_D.same2 [hm, a1, a2, a3, a4, a5, a6, a7, a8, a9, a10, a11] (hD.aa (sz := H0.size)) rfl rfl
  have hS : va_S (Aa [hm, a1, a2, a3, a4, a5, a6, a7, a8, a9, a10, a11] H0.size) H0 H0 [] := va_S.rf
  have hl := lv_entry ([.ref hm, .int (nI j), .long x]) (n := 4) (Nat.le_of_ble_eq_true rfl)
  rw [lg_entry_eq]
  generalize (lg_sl ([.ref hm, .int (nI j), .long x]) ++ List.replicate (4 - (lg_sl ([.ref hm, .int (nI j), .long x])).length) Slot.unset).toArray = ls at hl ⊢
  have hl : lv_has ls 4 [(0, .ref hm), (1, .int (nI j)), (2, .long x)] := hl
  refine lv_aload_n hx hb d_M_add_0 rfl (lv_at hl 0 rfl) ?_
  refine lv_aload_n hx hb d_M_add_1 rfl (lv_at hl 0 rfl) ?_
  refine lv_iload_n hx hb d_M_add_2 rfl (lv_at hl 1 rfl) ?_
  refine mx_callR (r := .int (nI (if (S j).1 = 0 then 2 else 0))) (c_M_wrg G hm a1 a2 a3 a4 a5 a6 a7 a8 a9 a10 a11 th S j ⟨ki, ka, kb, zs, pu, ce, pa, tr, so, pl, ot, hP, hpic⟩ hD0 hok hj) hW (iv_M_add_3 G hx hb hown hW (va_recv hK hP (ci := 4) (q0 := 0) rfl rfl) [.int (nI j)] [.ref hm] rfl) hml hl.1 (by rw [hb]; exact d_M_add_3) (cd_M_wrong G hW) ⟨Nat.le_of_ble_eq_true rfl, Nat.le_of_ble_eq_true rfl⟩ rfl rfl (Nat.le_of_ble_eq_true rfl) (Nat.le_of_ble_eq_true rfl) (Nat.le_of_ble_eq_true rfl) ?_
  refine tp_i (y := (nI 0)) (by rw [if_neg h0]) ?_
  refine va_put (D := D) (ci := 4) (v := .int (nI 0)) (ty := .int) (C := R_M) (T := T_M) (N := 12) hx hb (us_M G hW) (fun _ h => h) t_M to_M nm_M hown hK hP hD hS 0 rfl rfl 0 (by decide) (fl_M_43 G hW) (fun _ h9 => h9) rfl (by decide +kernel) rfl rfl (Nat.le_of_ble_eq_true rfl) d_M_add_6 (fun H locs hP hD hS => ?_)
  have hP : va_P D vcl [(hm, .inr (4, [.int (nI 0), .ref a1, .ref a2, .ref a3, .ref a4, .ref a5, .ref a6, .ref a7, .ref a8, .ref a9, .ref a10, .ref a11])), (a1, aN cI 4 ki), (a2, aN cI 4 ka), (a3, aN cI 4 kb), (a4, aI cI 4 zs), (a5, aI cI 4 pu), (a6, aN cI 4096 ce), (a7, aN cI 1024 pa), (a8, aN cI 1024 tr), (a9, aI cI 256 so), (a10, aN cI 6 pl), (a11, aN cI 6 ot)] H := hP
  have hD : va_D (Aa [hm, a1, a2, a3, a4, a5, a6, a7, a8, a9, a10, a11] H0.size) [(hm, .inr (4, [.int (nI 0), .ref a1, .ref a2, .ref a3, .ref a4, .ref a5, .ref a6, .ref a7, .ref a8, .ref a9, .ref a10, .ref a11])), (a1, aN cI 4 ki), (a2, aN cI 4 ka), (a3, aN cI 4 kb), (a4, aI cI 4 zs), (a5, aI cI 4 pu), (a6, aN cI 4096 ce), (a7, aN cI 1024 pa), (a8, aN cI 1024 tr), (a9, aI cI 256 so), (a10, aN cI 6 pl), (a11, aN cI 6 ot)] := hD
  refine lv_aload_n hx hb d_M_add_9 rfl (lv_at hl 0 rfl) ?_
  refine va_get (D := D) (ci := 4) (v := .int (nI 0)) (C := R_M) (T := T_M) (N := 12) hx hb (us_M G hW) (fun _ h => h) hown hK hP 0 rfl rfl 0 (by decide) (fl_M_43 G hW) (fun _ h9 => h9) rfl d_M_add_10 ?_
  refine lv_if_le (tgt := 18) hx hb d_M_add_13 (by decide) (fun c_13 => ?_) (fun c_13 => absurd (by decide) c_13)
  refine lv_aload_n hx hb d_M_add_18 rfl (lv_at hl 0 rfl) ?_
  refine lv_aload_n hx hb d_M_add_19 rfl (lv_at hl 0 rfl) ?_
  refine lv_iload_n hx hb d_M_add_20 rfl (lv_at hl 1 rfl) ?_
  refine lv_lload_n hx hb d_M_add_21 rfl (lv_at hl 2 rfl) ?_
  refine mx_callW (r := .int (bI (addS (S j) x).1)) (c_M_addOne G hm a1 a2 a3 a4 a5 a6 a7 a8 a9 a10 a11 (nI 0) S j x ⟨ki, ka, kb, zs, pu, ce, pa, tr, so, pl, ot, hP, hpic⟩ hD0 hok hj h0) hW (iv_M_add_22 G hx hb hown hW (va_recv hK hP (ci := 4) (q0 := 0) rfl rfl) [.int (nI j), .long x] [.ref hm] rfl) hml hl.1 (by rw [hb]; exact d_M_add_22) (cd_M_addOne G hW) ⟨Nat.le_of_ble_eq_true rfl, Nat.le_of_ble_eq_true rfl⟩ (Nat.le_of_ble_eq_true rfl) (Nat.le_of_ble_eq_true rfl) (Nat.le_of_ble_eq_true rfl) hS (Aa.mono (fun _ h => h) hS.1) (fun H locs hP _ _ hS => ?_)
  obtain ⟨ki, ka, kb, zs, pu, ce, pa, tr, so, pl, ot, hP, hpic⟩ := hP
  have hP : va_P D vcl [(hm, .inr (4, [.int (nI 0), .ref a1, .ref a2, .ref a3, .ref a4, .ref a5, .ref a6, .ref a7, .ref a8, .ref a9, .ref a10, .ref a11])), (a1, aN cI 4 ki), (a2, aN cI 4 ka), (a3, aN cI 4 kb), (a4, aI cI 4 zs), (a5, aI cI 4 pu), (a6, aN cI 4096 ce), (a7, aN cI 1024 pa), (a8, aN cI 1024 tr), (a9, aI cI 256 so), (a10, aN cI 6 pl), (a11, aN cI 6 ot)] H := hP
  have hD : va_D (Aa [hm, a1, a2, a3, a4, a5, a6, a7, a8, a9, a10, a11] H0.size) [(hm, .inr (4, [.int (nI 0), .ref a1, .ref a2, .ref a3, .ref a4, .ref a5, .ref a6, .ref a7, .ref a8, .ref a9, .ref a10, .ref a11])), (a1, aN cI 4 ki), (a2, aN cI 4 ka), (a3, aN cI 4 kb), (a4, aI cI 4 zs), (a5, aI cI 4 pu), (a6, aN cI 4096 ce), (a7, aN cI 1024 pa), (a8, aN cI 1024 tr), (a9, aI cI 256 so), (a10, aN cI 6 pl), (a11, aN cI 6 ot)] := va_D.same2 [hm, a1, a2, a3, a4, a5, a6, a7, a8, a9, a10, a11] hD rfl rfl
  refine lv_if_eq (tgt := 32) hx hb d_M_add_25 (by decide) (fun c_25 => ?_) (fun c_25 => ?_)
  · have hft := bI_f c_25
    refine lv_iconst (v := (nI 3)) hx hb d_M_add_32 (by decide) ?_
    refine va_put (D := D) (ci := 4) (v := .int (nI 3)) (ty := .int) (C := R_M) (T := T_M) (N := 12) hx hb (us_M G hW) (fun _ h => h) t_M to_M nm_M hown hK hP hD hS 0 rfl rfl 0 (by decide) (fl_M_43 G hW) (fun _ h9 => h9) rfl (by decide +kernel) rfl rfl (Nat.le_of_ble_eq_true rfl) d_M_add_33 (fun H locs hP hD hS => ?_)
    have hP : va_P D vcl [(hm, .inr (4, [.int (nI 3), .ref a1, .ref a2, .ref a3, .ref a4, .ref a5, .ref a6, .ref a7, .ref a8, .ref a9, .ref a10, .ref a11])), (a1, aN cI 4 ki), (a2, aN cI 4 ka), (a3, aN cI 4 kb), (a4, aI cI 4 zs), (a5, aI cI 4 pu), (a6, aN cI 4096 ce), (a7, aN cI 1024 pa), (a8, aN cI 1024 tr), (a9, aI cI 256 so), (a10, aN cI 6 pl), (a11, aN cI 6 ot)] H := hP
    have hD : va_D (Aa [hm, a1, a2, a3, a4, a5, a6, a7, a8, a9, a10, a11] H0.size) [(hm, .inr (4, [.int (nI 3), .ref a1, .ref a2, .ref a3, .ref a4, .ref a5, .ref a6, .ref a7, .ref a8, .ref a9, .ref a10, .ref a11])), (a1, aN cI 4 ki), (a2, aN cI 4 ka), (a3, aN cI 4 kb), (a4, aI cI 4 zs), (a5, aI cI 4 pu), (a6, aN cI 4096 ce), (a7, aN cI 1024 pa), (a8, aN cI 1024 tr), (a9, aI cI 256 so), (a10, aN cI 6 pl), (a11, aN cI 6 ot)] := hD
    refine lv_aload_n hx hb d_M_add_36 rfl (lv_at hl 0 rfl) ?_
    refine va_get (D := D) (ci := 4) (v := .int (nI 3)) (C := R_M) (T := T_M) (N := 12) hx hb (us_M G hW) (fun _ h => h) hown hK hP 0 rfl rfl 0 (by decide) (fl_M_43 G hW) (fun _ h9 => h9) rfl d_M_add_37 ?_
    refine lv_if_le (tgt := 47) hx hb d_M_add_40 (by decide) (fun c_40 => absurd c_40 (by decide)) (fun c_40 => ?_)
    refine lv_iconst (v := (nI 0)) hx hb d_M_add_43 (by decide) ?_
    refine lv_goto (tgt := 53) hx hb d_M_add_44 (by decide) ?_
    exact mx_iret hx hb hr hlk d_M_add_53 (Nat.le_of_ble_eq_true rfl) (Nat.le_of_ble_eq_true rfl) hS.2.2 (⟨by rw [hft]; rfl, by rw [hft]; exact ⟨ki, ka, kb, zs, pu, ce, pa, tr, so, pl, ot, hP, hpic⟩⟩)
  · have hft := bI_t c_25
    refine lv_iconst (v := (nI 0)) hx hb d_M_add_28 (by decide) ?_
    refine lv_goto (tgt := 33) hx hb d_M_add_29 (by decide) ?_
    refine va_put (D := D) (ci := 4) (v := .int (nI 0)) (ty := .int) (C := R_M) (T := T_M) (N := 12) hx hb (us_M G hW) (fun _ h => h) t_M to_M nm_M hown hK hP hD hS 0 rfl rfl 0 (by decide) (fl_M_43 G hW) (fun _ h9 => h9) rfl (by decide +kernel) rfl rfl (Nat.le_of_ble_eq_true rfl) d_M_add_33 (fun H locs hP hD hS => ?_)
    have hP : va_P D vcl [(hm, .inr (4, [.int (nI 0), .ref a1, .ref a2, .ref a3, .ref a4, .ref a5, .ref a6, .ref a7, .ref a8, .ref a9, .ref a10, .ref a11])), (a1, aN cI 4 ki), (a2, aN cI 4 ka), (a3, aN cI 4 kb), (a4, aI cI 4 zs), (a5, aI cI 4 pu), (a6, aN cI 4096 ce), (a7, aN cI 1024 pa), (a8, aN cI 1024 tr), (a9, aI cI 256 so), (a10, aN cI 6 pl), (a11, aN cI 6 ot)] H := hP
    have hD : va_D (Aa [hm, a1, a2, a3, a4, a5, a6, a7, a8, a9, a10, a11] H0.size) [(hm, .inr (4, [.int (nI 0), .ref a1, .ref a2, .ref a3, .ref a4, .ref a5, .ref a6, .ref a7, .ref a8, .ref a9, .ref a10, .ref a11])), (a1, aN cI 4 ki), (a2, aN cI 4 ka), (a3, aN cI 4 kb), (a4, aI cI 4 zs), (a5, aI cI 4 pu), (a6, aN cI 4096 ce), (a7, aN cI 1024 pa), (a8, aN cI 1024 tr), (a9, aI cI 256 so), (a10, aN cI 6 pl), (a11, aN cI 6 ot)] := hD
    refine lv_aload_n hx hb d_M_add_36 rfl (lv_at hl 0 rfl) ?_
    refine va_get (D := D) (ci := 4) (v := .int (nI 0)) (C := R_M) (T := T_M) (N := 12) hx hb (us_M G hW) (fun _ h => h) hown hK hP 0 rfl rfl 0 (by decide) (fl_M_43 G hW) (fun _ h9 => h9) rfl d_M_add_37 ?_
    refine lv_if_le (tgt := 47) hx hb d_M_add_40 (by decide) (fun c_40 => ?_) (fun c_40 => absurd (by decide) c_40)
    have hz := (hpic j hj).zs (by rw [va_up_self, addS_kd]; exact h0)
    rw [va_up_self] at hz
    refine lv_aload_n hx hb d_M_add_47 rfl (lv_at hl 0 rfl) ?_
    refine va_get (D := D) (ci := 4) (v := .ref a4) (C := R_M) (T := T_M) (N := 12) hx hb (us_M G hW) (fun _ h => h) hown hK hP 0 rfl rfl 4 (by decide) (fl_M_19 G hW) (fun _ h9 => h9) rfl d_M_add_48 ?_
    refine lv_iload_n hx hb d_M_add_51 rfl (lv_at hl 1 rfl) ?_
    refine ia_ld hx hb hK hP 4 (j := j) rfl (hj) (by decide) d_M_add_52 ?_
    refine tp_i (y := (addS (S j) x).2.2.2.2.1) (hz) ?_
    exact mx_iret hx hb hr hlk d_M_add_53 (Nat.le_of_ble_eq_true rfl) (Nat.le_of_ble_eq_true rfl) hS.2.2 (⟨by rw [hft]; rfl, by rw [hft]; exact ⟨ki, ka, kb, zs, pu, ce, pa, tr, so, pl, ot, hP, hpic⟩⟩)

set_option maxHeartbeats 4000000 in
set_option maxRecDepth 100000 in
theorem c_M_clear {l : Launch} {s0 : State} {D : va_G} {cI cF cJ : ClassId} (G : Gx l s0 D cI cF cJ) (hm a1 a2 a3 a4 a5 a6 a7 a8 a9 a10 a11 : Nat) (th : Int32) (S : Nat → FS) (j : Nat) {H0 : Heap} {A0 : Nat → Prop} (hM : MP D cI hm a1 a2 a3 a4 a5 a6 a7 a8 a9 a10 a11 th S H0) (hD : va_D A0 (adM hm a1 a2 a3 a4 a5 a6 a7 a8 a9 a10 a11)) (hok : ∀ i, i < 4 → okS (S i)) (hj : j < 4) (h0 : (S j).1 ≠ 0) : Mx l s0 y_M_clear (.code y_M_clear b_M_clear 3 (some .int)) { frames := 7, cells := 0, slots := 0, locals := 170 } [.ref hm, .int (nI j)] H0 (Aa [hm, a1, a2, a3, a4, a5, a6, a7, a8, a9, a10, a11] H0.size) (Rw (.int (S j).2.2.2.1) (fun H1 => MP D cI hm a1 a2 a3 a4 a5 a6 a7 a8 a9 a10 a11 (nI 0) (va_up S j (mkS (S j).1 (S j).2.1 (S j).2.2.1 (S j).2.2.2.2.2.2.2)) H1)) := by
  refine Mx.ofW (own := "FewBitsModel") rfl rfl ?_
  rintro p e s m below meth c ⟨hx, hb, hml, hr, hown, hW, hlk⟩ hnm het hH
  have hK := G.k hW
  have hD0 := hD
  obtain ⟨ki, ka, kb, zs, pu, ce, pa, tr, so, pl, ot, hP, hpic⟩ := hM
  have hD : va_D (Aa [hm, a1, a2, a3, a4, a5, a6, a7, a8, a9, a10, a11] H0.size) [(hm, .inr (4, [.int th, .ref a1, .ref a2, .ref a3, .ref a4, .ref a5, .ref a6, .ref a7, .ref a8, .ref a9, .ref a10, .ref a11])), (a1, aN cI 4 ki), (a2, aN cI 4 ka), (a3, aN cI 4 kb), (a4, aI cI 4 zs), (a5, aI cI 4 pu), (a6, aN cI 4096 ce), (a7, aN cI 1024 pa), (a8, aN cI 1024 tr), (a9, aI cI 256 so), (a10, aN cI 6 pl), (a11, aN cI 6 ot)] := va_D.same2 [hm, a1, a2, a3, a4, a5, a6, a7, a8, a9, a10, a11] (hD.aa (sz := H0.size)) rfl rfl
  have hS : va_S (Aa [hm, a1, a2, a3, a4, a5, a6, a7, a8, a9, a10, a11] H0.size) H0 H0 [] := va_S.rf
  have hl := lv_entry ([.ref hm, .int (nI j)]) (n := 3) (Nat.le_of_ble_eq_true rfl)
  rw [lg_entry_eq]
  generalize (lg_sl ([.ref hm, .int (nI j)]) ++ List.replicate (3 - (lg_sl ([.ref hm, .int (nI j)])).length) Slot.unset).toArray = ls at hl ⊢
  have hl : lv_has ls 3 [(0, .ref hm), (1, .int (nI j))] := hl
  refine lv_aload_n hx hb d_M_clear_0 rfl (lv_at hl 0 rfl) ?_
  refine lv_aload_n hx hb d_M_clear_1 rfl (lv_at hl 0 rfl) ?_
  refine lv_iload_n hx hb d_M_clear_2 rfl (lv_at hl 1 rfl) ?_
  refine mx_callR (r := .int (nI (if (S j).1 = 0 then 2 else 0))) (c_M_wrg G hm a1 a2 a3 a4 a5 a6 a7 a8 a9 a10 a11 th S j ⟨ki, ka, kb, zs, pu, ce, pa, tr, so, pl, ot, hP, hpic⟩ hD0 hok hj) hW (iv_M_clear_3 G hx hb hown hW (va_recv hK hP (ci := 4) (q0 := 0) rfl rfl) [.int (nI j)] [.ref hm] rfl) hml hl.1 (by rw [hb]; exact d_M_clear_3) (cd_M_wrong G hW) ⟨Nat.le_of_ble_eq_true rfl, Nat.le_of_ble_eq_true rfl⟩ rfl rfl (Nat.le_of_ble_eq_true rfl) (Nat.le_of_ble_eq_true rfl) (Nat.le_of_ble_eq_true rfl) ?_
  refine tp_i (y := (nI 0)) (by rw [if_neg h0]) ?_
  refine va_put (D := D) (ci := 4) (v := .int (nI 0)) (ty := .int) (C := R_M) (T := T_M) (N := 12) hx hb (us_M G hW) (fun _ h => h) t_M to_M nm_M hown hK hP hD hS 0 rfl rfl 0 (by decide) (fl_M_43 G hW) (fun _ h9 => h9) rfl (by decide +kernel) rfl rfl (Nat.le_of_ble_eq_true rfl) d_M_clear_6 (fun H locs hP hD hS => ?_)
  have hP : va_P D vcl [(hm, .inr (4, [.int (nI 0), .ref a1, .ref a2, .ref a3, .ref a4, .ref a5, .ref a6, .ref a7, .ref a8, .ref a9, .ref a10, .ref a11])), (a1, aN cI 4 ki), (a2, aN cI 4 ka), (a3, aN cI 4 kb), (a4, aI cI 4 zs), (a5, aI cI 4 pu), (a6, aN cI 4096 ce), (a7, aN cI 1024 pa), (a8, aN cI 1024 tr), (a9, aI cI 256 so), (a10, aN cI 6 pl), (a11, aN cI 6 ot)] H := hP
  have hD : va_D (Aa [hm, a1, a2, a3, a4, a5, a6, a7, a8, a9, a10, a11] H0.size) [(hm, .inr (4, [.int (nI 0), .ref a1, .ref a2, .ref a3, .ref a4, .ref a5, .ref a6, .ref a7, .ref a8, .ref a9, .ref a10, .ref a11])), (a1, aN cI 4 ki), (a2, aN cI 4 ka), (a3, aN cI 4 kb), (a4, aI cI 4 zs), (a5, aI cI 4 pu), (a6, aN cI 4096 ce), (a7, aN cI 1024 pa), (a8, aN cI 1024 tr), (a9, aI cI 256 so), (a10, aN cI 6 pl), (a11, aN cI 6 ot)] := hD
  refine lv_aload_n hx hb d_M_clear_9 rfl (lv_at hl 0 rfl) ?_
  refine va_get (D := D) (ci := 4) (v := .int (nI 0)) (C := R_M) (T := T_M) (N := 12) hx hb (us_M G hW) (fun _ h => h) hown hK hP 0 rfl rfl 0 (by decide) (fl_M_43 G hW) (fun _ h9 => h9) rfl d_M_clear_10 ?_
  refine lv_if_le (tgt := 18) hx hb d_M_clear_13 (by decide) (fun c_13 => ?_) (fun c_13 => absurd (by decide) c_13)
  refine lv_aload_n hx hb d_M_clear_18 rfl (lv_at hl 0 rfl) ?_
  refine va_get (D := D) (ci := 4) (v := .ref a4) (C := R_M) (T := T_M) (N := 12) hx hb (us_M G hW) (fun _ h => h) hown hK hP 0 rfl rfl 4 (by decide) (fl_M_19 G hW) (fun _ h9 => h9) rfl d_M_clear_19 ?_
  refine lv_iload_n hx hb d_M_clear_22 rfl (lv_at hl 1 rfl) ?_
  refine ia_ld hx hb hK hP 4 (j := j) rfl (hj) (by decide) d_M_clear_23 ?_
  refine tp_i (y := (S j).2.2.2.1) ((hpic j hj).zs h0) ?_
  refine lv_istore_n (lv' := [(2, .int (S j).2.2.2.1), (0, .ref hm), (1, .int (nI j))]) hx hb d_M_clear_24 rfl hl (by decide) rfl (fun ls hl => ?_)
  refine lv_aload_n hx hb d_M_clear_25 rfl (lv_at hl 1 rfl) ?_
  refine lv_iload_n hx hb d_M_clear_26 rfl (lv_at hl 2 rfl) ?_
  refine mx_callN (c_M_empty G hm a1 a2 a3 a4 a5 a6 a7 a8 a9 a10 a11 (nI 0) ki ka kb zs pu ce pa tr so pl ot j hP hD hj) hW (iv_M_clear_27 G hx hb hown hW (va_recv hK hP (ci := 4) (q0 := 0) rfl rfl) [.int (nI j)] [] rfl) hml hl.1 (by rw [hb]; exact d_M_clear_27) (cd_M_empty G hW) ⟨Nat.le_of_ble_eq_true rfl, Nat.le_of_ble_eq_true rfl⟩ (Nat.le_of_ble_eq_true rfl) (Nat.le_of_ble_eq_true rfl) (Nat.le_of_ble_eq_true rfl) hS (Aa.mono (fun _ h => h) hS.1) (fun H locs hP _ _ hS => ?_)
  have hP : va_P D vcl [(hm, .inr (4, [.int (nI 0), .ref a1, .ref a2, .ref a3, .ref a4, .ref a5, .ref a6, .ref a7, .ref a8, .ref a9, .ref a10, .ref a11])), (a1, aN cI 4 ki), (a2, aN cI 4 ka), (a3, aN cI 4 kb), (a4, aI cI 4 (upd zs j (nI 0))), (a5, aI cI 4 (upd pu j (nI 0))), (a6, aN cI 4096 (stO 1024 ce (1024 * j) (fun _ => 0))), (a7, aN cI 1024 pa), (a8, aN cI 1024 tr), (a9, aI cI 256 so), (a10, aN cI 6 pl), (a11, aN cI 6 ot)] H := hP
  have hD : va_D (Aa [hm, a1, a2, a3, a4, a5, a6, a7, a8, a9, a10, a11] H0.size) [(hm, .inr (4, [.int (nI 0), .ref a1, .ref a2, .ref a3, .ref a4, .ref a5, .ref a6, .ref a7, .ref a8, .ref a9, .ref a10, .ref a11])), (a1, aN cI 4 ki), (a2, aN cI 4 ka), (a3, aN cI 4 kb), (a4, aI cI 4 (upd zs j (nI 0))), (a5, aI cI 4 (upd pu j (nI 0))), (a6, aN cI 4096 (stO 1024 ce (1024 * j) (fun _ => 0))), (a7, aN cI 1024 pa), (a8, aN cI 1024 tr), (a9, aI cI 256 so), (a10, aN cI 6 pl), (a11, aN cI 6 ot)] := va_D.same2 [hm, a1, a2, a3, a4, a5, a6, a7, a8, a9, a10, a11] hD rfl rfl
  refine lv_iload_n hx hb d_M_clear_30 rfl (lv_at hl 0 rfl) ?_
  exact mx_iret hx hb hr hlk d_M_clear_31 (Nat.le_of_ble_eq_true rfl) (Nat.le_of_ble_eq_true rfl) hS.2.2 (⟨rfl, ki, ka, kb, _, _, _, pa, tr, so, pl, ot, hP, pics_up hpic hok (pic_emp (hpic j hj) h0 (hok j hj)) id_off id_off id_off upd_off upd_off offC idP⟩)

set_option maxHeartbeats 4000000 in
set_option maxRecDepth 100000 in
theorem c_M_has {l : Launch} {s0 : State} {D : va_G} {cI cF cJ : ClassId} (G : Gx l s0 D cI cF cJ) (hm a1 a2 a3 a4 a5 a6 a7 a8 a9 a10 a11 : Nat) (th : Int32) (S : Nat → FS) (j : Nat) (x : Int64) {H0 : Heap} {A0 : Nat → Prop} (hM : MP D cI hm a1 a2 a3 a4 a5 a6 a7 a8 a9 a10 a11 th S H0) (hD : va_D A0 (adM hm a1 a2 a3 a4 a5 a6 a7 a8 a9 a10 a11)) (hok : ∀ i, i < 4 → okS (S i)) (hj : j < 4) (h0 : (S j).1 ≠ 0) : Mx l s0 y_M_has (.code y_M_has b_M_has 4 (some .boolean)) { frames := 7, cells := 0, slots := 0, locals := 170 } [.ref hm, .int (nI j), .long x] H0 (Aa [hm, a1, a2, a3, a4, a5, a6, a7, a8, a9, a10, a11] H0.size) (Rw (.int (bI (hasS (S j) x))) (fun H1 => MP D cI hm a1 a2 a3 a4 a5 a6 a7 a8 a9 a10 a11 (nI 0) S H1)) := by
  refine Mx.ofW (own := "FewBitsModel") rfl rfl ?_
  rintro p e s m below meth c ⟨hx, hb, hml, hr, hown, hW, hlk⟩ hnm het hH
  have hK := G.k hW
  have hD0 := hD
  obtain ⟨ki, ka, kb, zs, pu, ce, pa, tr, so, pl, ot, hP, hpic⟩ := hM
  have hD : va_D (Aa [hm, a1, a2, a3, a4, a5, a6, a7, a8, a9, a10, a11] H0.size) [(hm, .inr (4, [.int th, .ref a1, .ref a2, .ref a3, .ref a4, .ref a5, .ref a6, .ref a7, .ref a8, .ref a9, .ref a10, .ref a11])), (a1, aN cI 4 ki), (a2, aN cI 4 ka), (a3, aN cI 4 kb), (a4, aI cI 4 zs), (a5, aI cI 4 pu), (a6, aN cI 4096 ce), (a7, aN cI 1024 pa), (a8, aN cI 1024 tr), (a9, aI cI 256 so), (a10, aN cI 6 pl), (a11, aN cI 6 ot)] := va_D.same2 [hm, a1, a2, a3, a4, a5, a6, a7, a8, a9, a10, a11] (hD.aa (sz := H0.size)) rfl rfl
  have hS : va_S (Aa [hm, a1, a2, a3, a4, a5, a6, a7, a8, a9, a10, a11] H0.size) H0 H0 [] := va_S.rf
  have hl := lv_entry ([.ref hm, .int (nI j), .long x]) (n := 4) (Nat.le_of_ble_eq_true rfl)
  rw [lg_entry_eq]
  generalize (lg_sl ([.ref hm, .int (nI j), .long x]) ++ List.replicate (4 - (lg_sl ([.ref hm, .int (nI j), .long x])).length) Slot.unset).toArray = ls at hl ⊢
  have hl : lv_has ls 4 [(0, .ref hm), (1, .int (nI j)), (2, .long x)] := hl
  refine lv_aload_n hx hb d_M_has_0 rfl (lv_at hl 0 rfl) ?_
  refine lv_aload_n hx hb d_M_has_1 rfl (lv_at hl 0 rfl) ?_
  refine lv_iload_n hx hb d_M_has_2 rfl (lv_at hl 1 rfl) ?_
  refine mx_callR (r := .int (nI (if (S j).1 = 0 then 2 else 0))) (c_M_wrg G hm a1 a2 a3 a4 a5 a6 a7 a8 a9 a10 a11 th S j ⟨ki, ka, kb, zs, pu, ce, pa, tr, so, pl, ot, hP, hpic⟩ hD0 hok hj) hW (iv_M_has_3 G hx hb hown hW (va_recv hK hP (ci := 4) (q0 := 0) rfl rfl) [.int (nI j)] [.ref hm] rfl) hml hl.1 (by rw [hb]; exact d_M_has_3) (cd_M_wrong G hW) ⟨Nat.le_of_ble_eq_true rfl, Nat.le_of_ble_eq_true rfl⟩ rfl rfl (Nat.le_of_ble_eq_true rfl) (Nat.le_of_ble_eq_true rfl) (Nat.le_of_ble_eq_true rfl) ?_
  refine tp_i (y := (nI 0)) (by rw [if_neg h0]) ?_
  refine va_put (D := D) (ci := 4) (v := .int (nI 0)) (ty := .int) (C := R_M) (T := T_M) (N := 12) hx hb (us_M G hW) (fun _ h => h) t_M to_M nm_M hown hK hP hD hS 0 rfl rfl 0 (by decide) (fl_M_43 G hW) (fun _ h9 => h9) rfl (by decide +kernel) rfl rfl (Nat.le_of_ble_eq_true rfl) d_M_has_6 (fun H locs hP hD hS => ?_)
  have hP : va_P D vcl [(hm, .inr (4, [.int (nI 0), .ref a1, .ref a2, .ref a3, .ref a4, .ref a5, .ref a6, .ref a7, .ref a8, .ref a9, .ref a10, .ref a11])), (a1, aN cI 4 ki), (a2, aN cI 4 ka), (a3, aN cI 4 kb), (a4, aI cI 4 zs), (a5, aI cI 4 pu), (a6, aN cI 4096 ce), (a7, aN cI 1024 pa), (a8, aN cI 1024 tr), (a9, aI cI 256 so), (a10, aN cI 6 pl), (a11, aN cI 6 ot)] H := hP
  have hD : va_D (Aa [hm, a1, a2, a3, a4, a5, a6, a7, a8, a9, a10, a11] H0.size) [(hm, .inr (4, [.int (nI 0), .ref a1, .ref a2, .ref a3, .ref a4, .ref a5, .ref a6, .ref a7, .ref a8, .ref a9, .ref a10, .ref a11])), (a1, aN cI 4 ki), (a2, aN cI 4 ka), (a3, aN cI 4 kb), (a4, aI cI 4 zs), (a5, aI cI 4 pu), (a6, aN cI 4096 ce), (a7, aN cI 1024 pa), (a8, aN cI 1024 tr), (a9, aI cI 256 so), (a10, aN cI 6 pl), (a11, aN cI 6 ot)] := hD
  refine lv_aload_n hx hb d_M_has_9 rfl (lv_at hl 0 rfl) ?_
  refine va_get (D := D) (ci := 4) (v := .int (nI 0)) (C := R_M) (T := T_M) (N := 12) hx hb (us_M G hW) (fun _ h => h) hown hK hP 0 rfl rfl 0 (by decide) (fl_M_43 G hW) (fun _ h9 => h9) rfl d_M_has_10 ?_
  refine lv_if_ne (tgt := 29) hx hb d_M_has_13 (by decide) (fun c_13 => absurd (by decide) c_13) (fun c_13 => ?_)
  refine lv_aload_n hx hb d_M_has_16 rfl (lv_at hl 0 rfl) ?_
  refine lv_iload_n hx hb d_M_has_17 rfl (lv_at hl 1 rfl) ?_
  refine lv_lload_n hx hb d_M_has_18 rfl (lv_at hl 2 rfl) ?_
  refine mx_callR (r := .int (bI (hasS (S j) x))) (c_M_hasM G hm a1 a2 a3 a4 a5 a6 a7 a8 a9 a10 a11 (nI 0) S j x ⟨ki, ka, kb, zs, pu, ce, pa, tr, so, pl, ot, hP, hpic⟩ hD0 hok hj h0) hW (iv_M_has_19 G hx hb hown hW (va_recv hK hP (ci := 4) (q0 := 0) rfl rfl) [.int (nI j), .long x] [] rfl) hml hl.1 (by rw [hb]; exact d_M_has_19) (cd_M_isThere G hW) ⟨Nat.le_of_ble_eq_true rfl, Nat.le_of_ble_eq_true rfl⟩ rfl rfl (Nat.le_of_ble_eq_true rfl) (Nat.le_of_ble_eq_true rfl) (Nat.le_of_ble_eq_true rfl) ?_
  refine lv_if_eq (tgt := 29) hx hb d_M_has_22 (by decide) (fun c_22 => ?_) (fun c_22 => ?_)
  · refine lv_iconst (v := (nI 0)) hx hb d_M_has_29 (by decide) ?_
    exact mx_zret hx hb hr hlk d_M_has_30 (Nat.le_of_ble_eq_true rfl) (Nat.le_of_ble_eq_true rfl) hS.2.2 (rfl) (⟨by rw [bI_f c_22]; rfl, ⟨ki, ka, kb, zs, pu, ce, pa, tr, so, pl, ot, hP, hpic⟩⟩)
  · refine lv_iconst (v := (nI 1)) hx hb d_M_has_25 (by decide) ?_
    refine lv_goto (tgt := 30) hx hb d_M_has_26 (by decide) ?_
    exact mx_zret hx hb hr hlk d_M_has_30 (Nat.le_of_ble_eq_true rfl) (Nat.le_of_ble_eq_true rfl) hS.2.2 (rfl) (⟨by rw [bI_t c_22]; rfl, ⟨ki, ka, kb, zs, pu, ce, pa, tr, so, pl, ot, hP, hpic⟩⟩)

set_option maxHeartbeats 4000000 in
set_option maxRecDepth 100000 in
theorem c_M_addAll_items {l : Launch} {s0 : State} {D : va_G} {cI cF cJ : ClassId} (G : Gx l s0 D cI cF cJ) (hm a1 a2 a3 a4 a5 a6 a7 a8 a9 a10 a11 : Nat) (th : Int32) (S : Nat → FS) (j : Nat) (x st : Int64) (v : Int32) {H0 : Heap} {A0 : Nat → Prop} (hM : MP D cI hm a1 a2 a3 a4 a5 a6 a7 a8 a9 a10 a11 th S H0) (hD : va_D A0 (adM hm a1 a2 a3 a4 a5 a6 a7 a8 a9 a10 a11)) (hok : ∀ i, i < 4 → okS (S i)) (hj : j < 4) (h0 : (S j).1 ≠ 0) (hv : wth v (nI 0) (nI 400) = false) : Mx l s0 y_M_addAll (.code y_M_addAll b_M_addAll 8 (some .int)) { frames := 7, cells := 0, slots := 0, locals := 170 } [.ref hm, .int (nI j), .long x, .long st, .int v] H0 (Aa [hm, a1, a2, a3, a4, a5, a6, a7, a8, a9, a10, a11] H0.size) (Rw (.int (nI 0)) (fun H1 => MP D cI hm a1 a2 a3 a4 a5 a6 a7 a8 a9 a10 a11 (nI 3) S H1)) := by
  refine Mx.ofW (own := "FewBitsModel") rfl rfl ?_
  rintro p e s m below meth c ⟨hx, hb, hml, hr, hown, hW, hlk⟩ hnm het hH
  have hK := G.k hW
  have hD0 := hD
  obtain ⟨ki, ka, kb, zs, pu, ce, pa, tr, so, pl, ot, hP, hpic⟩ := hM
  have hD : va_D (Aa [hm, a1, a2, a3, a4, a5, a6, a7, a8, a9, a10, a11] H0.size) [(hm, .inr (4, [.int th, .ref a1, .ref a2, .ref a3, .ref a4, .ref a5, .ref a6, .ref a7, .ref a8, .ref a9, .ref a10, .ref a11])), (a1, aN cI 4 ki), (a2, aN cI 4 ka), (a3, aN cI 4 kb), (a4, aI cI 4 zs), (a5, aI cI 4 pu), (a6, aN cI 4096 ce), (a7, aN cI 1024 pa), (a8, aN cI 1024 tr), (a9, aI cI 256 so), (a10, aN cI 6 pl), (a11, aN cI 6 ot)] := va_D.same2 [hm, a1, a2, a3, a4, a5, a6, a7, a8, a9, a10, a11] (hD.aa (sz := H0.size)) rfl rfl
  have hS : va_S (Aa [hm, a1, a2, a3, a4, a5, a6, a7, a8, a9, a10, a11] H0.size) H0 H0 [] := va_S.rf
  have hl := lv_entry ([.ref hm, .int (nI j), .long x, .long st, .int v]) (n := 8) (Nat.le_of_ble_eq_true rfl)
  rw [lg_entry_eq]
  generalize (lg_sl ([.ref hm, .int (nI j), .long x, .long st, .int v]) ++ List.replicate (8 - (lg_sl ([.ref hm, .int (nI j), .long x, .long st, .int v])).length) Slot.unset).toArray = ls at hl ⊢
  have hl : lv_has ls 8 [(0, .ref hm), (1, .int (nI j)), (2, .long x), (4, .long st), (6, .int v)] := hl
  refine lv_aload_n hx hb d_M_addAll_0 rfl (lv_at hl 0 rfl) ?_
  refine lv_aload_n hx hb d_M_addAll_1 rfl (lv_at hl 0 rfl) ?_
  refine lv_iload_n hx hb d_M_addAll_2 rfl (lv_at hl 1 rfl) ?_
  refine mx_callR (r := .int (nI (if (S j).1 = 0 then 2 else 0))) (c_M_wrg G hm a1 a2 a3 a4 a5 a6 a7 a8 a9 a10 a11 th S j ⟨ki, ka, kb, zs, pu, ce, pa, tr, so, pl, ot, hP, hpic⟩ hD0 hok hj) hW (iv_M_addAll_3 G hx hb hown hW (va_recv hK hP (ci := 4) (q0 := 0) rfl rfl) [.int (nI j)] [.ref hm] rfl) hml hl.1 (by rw [hb]; exact d_M_addAll_3) (cd_M_wrong G hW) ⟨Nat.le_of_ble_eq_true rfl, Nat.le_of_ble_eq_true rfl⟩ rfl rfl (Nat.le_of_ble_eq_true rfl) (Nat.le_of_ble_eq_true rfl) (Nat.le_of_ble_eq_true rfl) ?_
  refine tp_i (y := (nI 0)) (by rw [if_neg h0]) ?_
  refine lv_if_le (tgt := 17) hx hb d_M_addAll_6 (by decide) (fun c_6 => ?_) (fun c_6 => absurd (by decide) c_6)
  refine lv_iload hx hb d_M_addAll_17 (lv_at hl 4 rfl) ?_
  refine lv_if_lt (tgt := 30) hx hb d_M_addAll_19 (by decide) (fun c_19 => ?_) (fun c_19 => ?_)
  · refine lv_iconst (v := (nI 3)) hx hb d_M_addAll_30 (by decide) ?_
    refine lv_goto (tgt := 35) hx hb d_M_addAll_31 (by decide) ?_
    refine va_put (D := D) (ci := 4) (v := .int (nI 3)) (ty := .int) (C := R_M) (T := T_M) (N := 12) hx hb (us_M G hW) (fun _ h => h) t_M to_M nm_M hown hK hP hD hS 0 rfl rfl 0 (by decide) (fl_M_43 G hW) (fun _ h9 => h9) rfl (by decide +kernel) rfl rfl (Nat.le_of_ble_eq_true rfl) d_M_addAll_35 (fun H locs hP hD hS => ?_)
    have hP : va_P D vcl [(hm, .inr (4, [.int (nI 3), .ref a1, .ref a2, .ref a3, .ref a4, .ref a5, .ref a6, .ref a7, .ref a8, .ref a9, .ref a10, .ref a11])), (a1, aN cI 4 ki), (a2, aN cI 4 ka), (a3, aN cI 4 kb), (a4, aI cI 4 zs), (a5, aI cI 4 pu), (a6, aN cI 4096 ce), (a7, aN cI 1024 pa), (a8, aN cI 1024 tr), (a9, aI cI 256 so), (a10, aN cI 6 pl), (a11, aN cI 6 ot)] H := hP
    have hD : va_D (Aa [hm, a1, a2, a3, a4, a5, a6, a7, a8, a9, a10, a11] H0.size) [(hm, .inr (4, [.int (nI 3), .ref a1, .ref a2, .ref a3, .ref a4, .ref a5, .ref a6, .ref a7, .ref a8, .ref a9, .ref a10, .ref a11])), (a1, aN cI 4 ki), (a2, aN cI 4 ka), (a3, aN cI 4 kb), (a4, aI cI 4 zs), (a5, aI cI 4 pu), (a6, aN cI 4096 ce), (a7, aN cI 1024 pa), (a8, aN cI 1024 tr), (a9, aI cI 256 so), (a10, aN cI 6 pl), (a11, aN cI 6 ot)] := hD
    refine lv_aload_n hx hb d_M_addAll_38 rfl (lv_at hl 0 rfl) ?_
    refine va_get (D := D) (ci := 4) (v := .int (nI 3)) (C := R_M) (T := T_M) (N := 12) hx hb (us_M G hW) (fun _ h => h) hown hK hP 0 rfl rfl 0 (by decide) (fl_M_43 G hW) (fun _ h9 => h9) rfl d_M_addAll_39 ?_
    refine lv_if_le (tgt := 47) hx hb d_M_addAll_42 (by decide) (fun c_42 => absurd c_42 (by decide)) (fun c_42 => ?_)
    refine lv_iconst (v := (nI 0)) hx hb d_M_addAll_45 (by decide) ?_
    exact mx_iret hx hb hr hlk d_M_addAll_46 (Nat.le_of_ble_eq_true rfl) (Nat.le_of_ble_eq_true rfl) hS.2.2 (⟨rfl, ki, ka, kb, zs, pu, ce, pa, tr, so, pl, ot, hP, hpic⟩)
  · refine lv_iload hx hb d_M_addAll_22 (lv_at hl 4 rfl) ?_
    refine lv_sipush (v := (nI 400)) hx hb d_M_addAll_24 (by decide) ?_
    refine lv_icmp_le (tgt := 34) hx hb d_M_addAll_27 (by decide) (fun c_27 => absurd c_27 (fun h9 => wth_no hv c_19 h9)) (fun c_27 => ?_)
    refine lv_iconst (v := (nI 3)) hx hb d_M_addAll_30 (by decide) ?_
    refine lv_goto (tgt := 35) hx hb d_M_addAll_31 (by decide) ?_
    refine va_put (D := D) (ci := 4) (v := .int (nI 3)) (ty := .int) (C := R_M) (T := T_M) (N := 12) hx hb (us_M G hW) (fun _ h => h) t_M to_M nm_M hown hK hP hD hS 0 rfl rfl 0 (by decide) (fl_M_43 G hW) (fun _ h9 => h9) rfl (by decide +kernel) rfl rfl (Nat.le_of_ble_eq_true rfl) d_M_addAll_35 (fun H locs hP hD hS => ?_)
    have hP : va_P D vcl [(hm, .inr (4, [.int (nI 3), .ref a1, .ref a2, .ref a3, .ref a4, .ref a5, .ref a6, .ref a7, .ref a8, .ref a9, .ref a10, .ref a11])), (a1, aN cI 4 ki), (a2, aN cI 4 ka), (a3, aN cI 4 kb), (a4, aI cI 4 zs), (a5, aI cI 4 pu), (a6, aN cI 4096 ce), (a7, aN cI 1024 pa), (a8, aN cI 1024 tr), (a9, aI cI 256 so), (a10, aN cI 6 pl), (a11, aN cI 6 ot)] H := hP
    have hD : va_D (Aa [hm, a1, a2, a3, a4, a5, a6, a7, a8, a9, a10, a11] H0.size) [(hm, .inr (4, [.int (nI 3), .ref a1, .ref a2, .ref a3, .ref a4, .ref a5, .ref a6, .ref a7, .ref a8, .ref a9, .ref a10, .ref a11])), (a1, aN cI 4 ki), (a2, aN cI 4 ka), (a3, aN cI 4 kb), (a4, aI cI 4 zs), (a5, aI cI 4 pu), (a6, aN cI 4096 ce), (a7, aN cI 1024 pa), (a8, aN cI 1024 tr), (a9, aI cI 256 so), (a10, aN cI 6 pl), (a11, aN cI 6 ot)] := hD
    refine lv_aload_n hx hb d_M_addAll_38 rfl (lv_at hl 0 rfl) ?_
    refine va_get (D := D) (ci := 4) (v := .int (nI 3)) (C := R_M) (T := T_M) (N := 12) hx hb (us_M G hW) (fun _ h => h) hown hK hP 0 rfl rfl 0 (by decide) (fl_M_43 G hW) (fun _ h9 => h9) rfl d_M_addAll_39 ?_
    refine lv_if_le (tgt := 47) hx hb d_M_addAll_42 (by decide) (fun c_42 => absurd c_42 (by decide)) (fun c_42 => ?_)
    refine lv_iconst (v := (nI 0)) hx hb d_M_addAll_45 (by decide) ?_
    exact mx_iret hx hb hr hlk d_M_addAll_46 (Nat.le_of_ble_eq_true rfl) (Nat.le_of_ble_eq_true rfl) hS.2.2 (⟨rfl, ki, ka, kb, zs, pu, ce, pa, tr, so, pl, ot, hP, hpic⟩)

set_option maxHeartbeats 4000000 in
set_option maxRecDepth 100000 in
theorem c_M_hasAll_items {l : Launch} {s0 : State} {D : va_G} {cI cF cJ : ClassId} (G : Gx l s0 D cI cF cJ) (hm a1 a2 a3 a4 a5 a6 a7 a8 a9 a10 a11 : Nat) (th : Int32) (S : Nat → FS) (j : Nat) (x st : Int64) (v : Int32) {H0 : Heap} {A0 : Nat → Prop} (hM : MP D cI hm a1 a2 a3 a4 a5 a6 a7 a8 a9 a10 a11 th S H0) (hD : va_D A0 (adM hm a1 a2 a3 a4 a5 a6 a7 a8 a9 a10 a11)) (hok : ∀ i, i < 4 → okS (S i)) (hj : j < 4) (h0 : (S j).1 ≠ 0) (hv : wth v (nI 0) (nI 400) = false) : Mx l s0 y_M_hasAll (.code y_M_hasAll b_M_hasAll 9 (some .int)) { frames := 7, cells := 0, slots := 0, locals := 170 } [.ref hm, .int (nI j), .long x, .long st, .int v] H0 (Aa [hm, a1, a2, a3, a4, a5, a6, a7, a8, a9, a10, a11] H0.size) (Rw (.int (nI 0)) (fun H1 => MP D cI hm a1 a2 a3 a4 a5 a6 a7 a8 a9 a10 a11 (nI 3) S H1)) := by
  refine Mx.ofW (own := "FewBitsModel") rfl rfl ?_
  rintro p e s m below meth c ⟨hx, hb, hml, hr, hown, hW, hlk⟩ hnm het hH
  have hK := G.k hW
  have hD0 := hD
  obtain ⟨ki, ka, kb, zs, pu, ce, pa, tr, so, pl, ot, hP, hpic⟩ := hM
  have hD : va_D (Aa [hm, a1, a2, a3, a4, a5, a6, a7, a8, a9, a10, a11] H0.size) [(hm, .inr (4, [.int th, .ref a1, .ref a2, .ref a3, .ref a4, .ref a5, .ref a6, .ref a7, .ref a8, .ref a9, .ref a10, .ref a11])), (a1, aN cI 4 ki), (a2, aN cI 4 ka), (a3, aN cI 4 kb), (a4, aI cI 4 zs), (a5, aI cI 4 pu), (a6, aN cI 4096 ce), (a7, aN cI 1024 pa), (a8, aN cI 1024 tr), (a9, aI cI 256 so), (a10, aN cI 6 pl), (a11, aN cI 6 ot)] := va_D.same2 [hm, a1, a2, a3, a4, a5, a6, a7, a8, a9, a10, a11] (hD.aa (sz := H0.size)) rfl rfl
  have hS : va_S (Aa [hm, a1, a2, a3, a4, a5, a6, a7, a8, a9, a10, a11] H0.size) H0 H0 [] := va_S.rf
  have hl := lv_entry ([.ref hm, .int (nI j), .long x, .long st, .int v]) (n := 9) (Nat.le_of_ble_eq_true rfl)
  rw [lg_entry_eq]
  generalize (lg_sl ([.ref hm, .int (nI j), .long x, .long st, .int v]) ++ List.replicate (9 - (lg_sl ([.ref hm, .int (nI j), .long x, .long st, .int v])).length) Slot.unset).toArray = ls at hl ⊢
  have hl : lv_has ls 9 [(0, .ref hm), (1, .int (nI j)), (2, .long x), (4, .long st), (6, .int v)] := hl
  refine lv_aload_n hx hb d_M_hasAll_0 rfl (lv_at hl 0 rfl) ?_
  refine lv_aload_n hx hb d_M_hasAll_1 rfl (lv_at hl 0 rfl) ?_
  refine lv_iload_n hx hb d_M_hasAll_2 rfl (lv_at hl 1 rfl) ?_
  refine mx_callR (r := .int (nI (if (S j).1 = 0 then 2 else 0))) (c_M_wrg G hm a1 a2 a3 a4 a5 a6 a7 a8 a9 a10 a11 th S j ⟨ki, ka, kb, zs, pu, ce, pa, tr, so, pl, ot, hP, hpic⟩ hD0 hok hj) hW (iv_M_hasAll_3 G hx hb hown hW (va_recv hK hP (ci := 4) (q0 := 0) rfl rfl) [.int (nI j)] [.ref hm] rfl) hml hl.1 (by rw [hb]; exact d_M_hasAll_3) (cd_M_wrong G hW) ⟨Nat.le_of_ble_eq_true rfl, Nat.le_of_ble_eq_true rfl⟩ rfl rfl (Nat.le_of_ble_eq_true rfl) (Nat.le_of_ble_eq_true rfl) (Nat.le_of_ble_eq_true rfl) ?_
  refine tp_i (y := (nI 0)) (by rw [if_neg h0]) ?_
  refine lv_if_le (tgt := 17) hx hb d_M_hasAll_6 (by decide) (fun c_6 => ?_) (fun c_6 => absurd (by decide) c_6)
  refine lv_iload hx hb d_M_hasAll_17 (lv_at hl 4 rfl) ?_
  refine lv_if_lt (tgt := 30) hx hb d_M_hasAll_19 (by decide) (fun c_19 => ?_) (fun c_19 => ?_)
  · refine lv_iconst (v := (nI 3)) hx hb d_M_hasAll_30 (by decide) ?_
    refine lv_goto (tgt := 35) hx hb d_M_hasAll_31 (by decide) ?_
    refine va_put (D := D) (ci := 4) (v := .int (nI 3)) (ty := .int) (C := R_M) (T := T_M) (N := 12) hx hb (us_M G hW) (fun _ h => h) t_M to_M nm_M hown hK hP hD hS 0 rfl rfl 0 (by decide) (fl_M_43 G hW) (fun _ h9 => h9) rfl (by decide +kernel) rfl rfl (Nat.le_of_ble_eq_true rfl) d_M_hasAll_35 (fun H locs hP hD hS => ?_)
    have hP : va_P D vcl [(hm, .inr (4, [.int (nI 3), .ref a1, .ref a2, .ref a3, .ref a4, .ref a5, .ref a6, .ref a7, .ref a8, .ref a9, .ref a10, .ref a11])), (a1, aN cI 4 ki), (a2, aN cI 4 ka), (a3, aN cI 4 kb), (a4, aI cI 4 zs), (a5, aI cI 4 pu), (a6, aN cI 4096 ce), (a7, aN cI 1024 pa), (a8, aN cI 1024 tr), (a9, aI cI 256 so), (a10, aN cI 6 pl), (a11, aN cI 6 ot)] H := hP
    have hD : va_D (Aa [hm, a1, a2, a3, a4, a5, a6, a7, a8, a9, a10, a11] H0.size) [(hm, .inr (4, [.int (nI 3), .ref a1, .ref a2, .ref a3, .ref a4, .ref a5, .ref a6, .ref a7, .ref a8, .ref a9, .ref a10, .ref a11])), (a1, aN cI 4 ki), (a2, aN cI 4 ka), (a3, aN cI 4 kb), (a4, aI cI 4 zs), (a5, aI cI 4 pu), (a6, aN cI 4096 ce), (a7, aN cI 1024 pa), (a8, aN cI 1024 tr), (a9, aI cI 256 so), (a10, aN cI 6 pl), (a11, aN cI 6 ot)] := hD
    refine lv_iconst (v := (nI 0)) hx hb d_M_hasAll_38 (by decide) ?_
    refine lv_istore (lv' := [(7, .int (nI 0)), (0, .ref hm), (1, .int (nI j)), (2, .long x), (4, .long st), (6, .int v)]) hx hb d_M_hasAll_39 hl (by decide) rfl (fun ls hl => ?_)
    refine lv_iconst (v := (nI 0)) hx hb d_M_hasAll_41 (by decide) ?_
    refine lv_istore (lv' := [(8, .int (nI 0)), (7, .int (nI 0)), (0, .ref hm), (1, .int (nI j)), (2, .long x), (4, .long st), (6, .int v)]) hx hb d_M_hasAll_42 hl (by decide) rfl (fun ls hl => ?_)
    refine lv_aload_n hx hb d_M_hasAll_44 rfl (lv_at hl 2 rfl) ?_
    refine va_get (D := D) (ci := 4) (v := .int (nI 3)) (C := R_M) (T := T_M) (N := 12) hx hb (us_M G hW) (fun _ h => h) hown hK hP 0 rfl rfl 0 (by decide) (fl_M_43 G hW) (fun _ h9 => h9) rfl d_M_hasAll_45 ?_
    refine lv_if_ne (tgt := 91) hx hb d_M_hasAll_48 (by decide) (fun c_48 => ?_) (fun c_48 => absurd c_48 (by decide))
    refine lv_iload hx hb d_M_hasAll_91 (lv_at hl 1 rfl) ?_
    exact mx_iret hx hb hr hlk d_M_hasAll_93 (Nat.le_of_ble_eq_true rfl) (Nat.le_of_ble_eq_true rfl) hS.2.2 (⟨rfl, ki, ka, kb, zs, pu, ce, pa, tr, so, pl, ot, hP, hpic⟩)
  · refine lv_iload hx hb d_M_hasAll_22 (lv_at hl 4 rfl) ?_
    refine lv_sipush (v := (nI 400)) hx hb d_M_hasAll_24 (by decide) ?_
    refine lv_icmp_le (tgt := 34) hx hb d_M_hasAll_27 (by decide) (fun c_27 => absurd c_27 (fun h9 => wth_no hv c_19 h9)) (fun c_27 => ?_)
    refine lv_iconst (v := (nI 3)) hx hb d_M_hasAll_30 (by decide) ?_
    refine lv_goto (tgt := 35) hx hb d_M_hasAll_31 (by decide) ?_
    refine va_put (D := D) (ci := 4) (v := .int (nI 3)) (ty := .int) (C := R_M) (T := T_M) (N := 12) hx hb (us_M G hW) (fun _ h => h) t_M to_M nm_M hown hK hP hD hS 0 rfl rfl 0 (by decide) (fl_M_43 G hW) (fun _ h9 => h9) rfl (by decide +kernel) rfl rfl (Nat.le_of_ble_eq_true rfl) d_M_hasAll_35 (fun H locs hP hD hS => ?_)
    have hP : va_P D vcl [(hm, .inr (4, [.int (nI 3), .ref a1, .ref a2, .ref a3, .ref a4, .ref a5, .ref a6, .ref a7, .ref a8, .ref a9, .ref a10, .ref a11])), (a1, aN cI 4 ki), (a2, aN cI 4 ka), (a3, aN cI 4 kb), (a4, aI cI 4 zs), (a5, aI cI 4 pu), (a6, aN cI 4096 ce), (a7, aN cI 1024 pa), (a8, aN cI 1024 tr), (a9, aI cI 256 so), (a10, aN cI 6 pl), (a11, aN cI 6 ot)] H := hP
    have hD : va_D (Aa [hm, a1, a2, a3, a4, a5, a6, a7, a8, a9, a10, a11] H0.size) [(hm, .inr (4, [.int (nI 3), .ref a1, .ref a2, .ref a3, .ref a4, .ref a5, .ref a6, .ref a7, .ref a8, .ref a9, .ref a10, .ref a11])), (a1, aN cI 4 ki), (a2, aN cI 4 ka), (a3, aN cI 4 kb), (a4, aI cI 4 zs), (a5, aI cI 4 pu), (a6, aN cI 4096 ce), (a7, aN cI 1024 pa), (a8, aN cI 1024 tr), (a9, aI cI 256 so), (a10, aN cI 6 pl), (a11, aN cI 6 ot)] := hD
    refine lv_iconst (v := (nI 0)) hx hb d_M_hasAll_38 (by decide) ?_
    refine lv_istore (lv' := [(7, .int (nI 0)), (0, .ref hm), (1, .int (nI j)), (2, .long x), (4, .long st), (6, .int v)]) hx hb d_M_hasAll_39 hl (by decide) rfl (fun ls hl => ?_)
    refine lv_iconst (v := (nI 0)) hx hb d_M_hasAll_41 (by decide) ?_
    refine lv_istore (lv' := [(8, .int (nI 0)), (7, .int (nI 0)), (0, .ref hm), (1, .int (nI j)), (2, .long x), (4, .long st), (6, .int v)]) hx hb d_M_hasAll_42 hl (by decide) rfl (fun ls hl => ?_)
    refine lv_aload_n hx hb d_M_hasAll_44 rfl (lv_at hl 2 rfl) ?_
    refine va_get (D := D) (ci := 4) (v := .int (nI 3)) (C := R_M) (T := T_M) (N := 12) hx hb (us_M G hW) (fun _ h => h) hown hK hP 0 rfl rfl 0 (by decide) (fl_M_43 G hW) (fun _ h9 => h9) rfl d_M_hasAll_45 ?_
    refine lv_if_ne (tgt := 91) hx hb d_M_hasAll_48 (by decide) (fun c_48 => ?_) (fun c_48 => absurd c_48 (by decide))
    refine lv_iload hx hb d_M_hasAll_91 (lv_at hl 1 rfl) ?_
    exact mx_iret hx hb hr hlk d_M_hasAll_93 (Nat.le_of_ble_eq_true rfl) (Nat.le_of_ble_eq_true rfl) hS.2.2 (⟨rfl, ki, ka, kb, zs, pu, ce, pa, tr, so, pl, ot, hP, hpic⟩)

set_option maxHeartbeats 4000000 in
set_option maxRecDepth 100000 in
theorem c_M_hasAll {l : Launch} {s0 : State} {D : va_G} {cI cF cJ : ClassId} (G : Gx l s0 D cI cF cJ) (hm a1 a2 a3 a4 a5 a6 a7 a8 a9 a10 a11 : Nat) (th : Int32) (S : Nat → FS) (j : Nat) (x st : Int64) (nN : Nat) {H0 : Heap} {A0 : Nat → Prop} (hM : MP D cI hm a1 a2 a3 a4 a5 a6 a7 a8 a9 a10 a11 th S H0) (hD : va_D A0 (adM hm a1 a2 a3 a4 a5 a6 a7 a8 a9 a10 a11)) (hok : ∀ i, i < 4 → okS (S i)) (hj : j < 4) (h0 : (S j).1 ≠ 0) (hn4 : nN ≤ 400) : Mx l s0 y_M_hasAll (.code y_M_hasAll b_M_hasAll 9 (some .int)) { frames := 7, cells := 0, slots := 0, locals := 170 } [.ref hm, .int (nI j), .long x, .long st, .int (nI nN)] H0 (Aa [hm, a1, a2, a3, a4, a5, a6, a7, a8, a9, a10, a11] H0.size) (Rw (.int (nI (haS (S j) nN x st))) (fun H1 => MP D cI hm a1 a2 a3 a4 a5 a6 a7 a8 a9 a10 a11 (nI 0) S H1)) := by
  refine Mx.ofW (own := "FewBitsModel") rfl rfl ?_
  rintro p e s m below meth c ⟨hx, hb, hml, hr, hown, hW, hlk⟩ hnm het hH
  have hK := G.k hW
  have hD0 := hD
  obtain ⟨ki, ka, kb, zs, pu, ce, pa, tr, so, pl, ot, hP, hpic⟩ := hM
  have hD : va_D (Aa [hm, a1, a2, a3, a4, a5, a6, a7, a8, a9, a10, a11] H0.size) [(hm, .inr (4, [.int th, .ref a1, .ref a2, .ref a3, .ref a4, .ref a5, .ref a6, .ref a7, .ref a8, .ref a9, .ref a10, .ref a11])), (a1, aN cI 4 ki), (a2, aN cI 4 ka), (a3, aN cI 4 kb), (a4, aI cI 4 zs), (a5, aI cI 4 pu), (a6, aN cI 4096 ce), (a7, aN cI 1024 pa), (a8, aN cI 1024 tr), (a9, aI cI 256 so), (a10, aN cI 6 pl), (a11, aN cI 6 ot)] := va_D.same2 [hm, a1, a2, a3, a4, a5, a6, a7, a8, a9, a10, a11] (hD.aa (sz := H0.size)) rfl rfl
  have hS : va_S (Aa [hm, a1, a2, a3, a4, a5, a6, a7, a8, a9, a10, a11] H0.size) H0 H0 [] := va_S.rf
  have hl := lv_entry ([.ref hm, .int (nI j), .long x, .long st, .int (nI nN)]) (n := 9) (Nat.le_of_ble_eq_true rfl)
  rw [lg_entry_eq]
  generalize (lg_sl ([.ref hm, .int (nI j), .long x, .long st, .int (nI nN)]) ++ List.replicate (9 - (lg_sl ([.ref hm, .int (nI j), .long x, .long st, .int (nI nN)])).length) Slot.unset).toArray = ls at hl ⊢
  have hl : lv_has ls 9 [(0, .ref hm), (1, .int (nI j)), (2, .long x), (4, .long st), (6, .int (nI nN))] := hl
  refine lv_aload_n hx hb d_M_hasAll_0 rfl (lv_at hl 0 rfl) ?_
  refine lv_aload_n hx hb d_M_hasAll_1 rfl (lv_at hl 0 rfl) ?_
  refine lv_iload_n hx hb d_M_hasAll_2 rfl (lv_at hl 1 rfl) ?_
  refine mx_callR (r := .int (nI (if (S j).1 = 0 then 2 else 0))) (c_M_wrg G hm a1 a2 a3 a4 a5 a6 a7 a8 a9 a10 a11 th S j ⟨ki, ka, kb, zs, pu, ce, pa, tr, so, pl, ot, hP, hpic⟩ hD0 hok hj) hW (iv_M_hasAll_3 G hx hb hown hW (va_recv hK hP (ci := 4) (q0 := 0) rfl rfl) [.int (nI j)] [.ref hm] rfl) hml hl.1 (by rw [hb]; exact d_M_hasAll_3) (cd_M_wrong G hW) ⟨Nat.le_of_ble_eq_true rfl, Nat.le_of_ble_eq_true rfl⟩ rfl rfl (Nat.le_of_ble_eq_true rfl) (Nat.le_of_ble_eq_true rfl) (Nat.le_of_ble_eq_true rfl) ?_
  refine tp_i (y := (nI 0)) (by rw [if_neg h0]) ?_
  refine lv_if_le (tgt := 17) hx hb d_M_hasAll_6 (by decide) (fun c_6 => ?_) (fun c_6 => absurd (by decide) c_6)
  refine lv_iload hx hb d_M_hasAll_17 (lv_at hl 4 rfl) ?_
  refine lv_if_lt (tgt := 30) hx hb d_M_hasAll_19 (by decide) (fun c_19 => absurd c_19 (nI_pos (by omega))) (fun c_19 => ?_)
  refine lv_iload hx hb d_M_hasAll_22 (lv_at hl 4 rfl) ?_
  refine lv_sipush (v := (nI 400)) hx hb d_M_hasAll_24 (by decide) ?_
  refine lv_icmp_le (tgt := 34) hx hb d_M_hasAll_27 (by decide) (fun c_27 => ?_) (fun c_27 => absurd (nI_le hn4 (by omega)) c_27)
  refine lv_iconst (v := (nI 0)) hx hb d_M_hasAll_34 (by decide) ?_
  refine va_put (D := D) (ci := 4) (v := .int (nI 0)) (ty := .int) (C := R_M) (T := T_M) (N := 12) hx hb (us_M G hW) (fun _ h => h) t_M to_M nm_M hown hK hP hD hS 0 rfl rfl 0 (by decide) (fl_M_43 G hW) (fun _ h9 => h9) rfl (by decide +kernel) rfl rfl (Nat.le_of_ble_eq_true rfl) d_M_hasAll_35 (fun H locs hP hD hS => ?_)
  have hP : va_P D vcl [(hm, .inr (4, [.int (nI 0), .ref a1, .ref a2, .ref a3, .ref a4, .ref a5, .ref a6, .ref a7, .ref a8, .ref a9, .ref a10, .ref a11])), (a1, aN cI 4 ki), (a2, aN cI 4 ka), (a3, aN cI 4 kb), (a4, aI cI 4 zs), (a5, aI cI 4 pu), (a6, aN cI 4096 ce), (a7, aN cI 1024 pa), (a8, aN cI 1024 tr), (a9, aI cI 256 so), (a10, aN cI 6 pl), (a11, aN cI 6 ot)] H := hP
  have hD : va_D (Aa [hm, a1, a2, a3, a4, a5, a6, a7, a8, a9, a10, a11] H0.size) [(hm, .inr (4, [.int (nI 0), .ref a1, .ref a2, .ref a3, .ref a4, .ref a5, .ref a6, .ref a7, .ref a8, .ref a9, .ref a10, .ref a11])), (a1, aN cI 4 ki), (a2, aN cI 4 ka), (a3, aN cI 4 kb), (a4, aI cI 4 zs), (a5, aI cI 4 pu), (a6, aN cI 4096 ce), (a7, aN cI 1024 pa), (a8, aN cI 1024 tr), (a9, aI cI 256 so), (a10, aN cI 6 pl), (a11, aN cI 6 ot)] := hD
  refine lv_iconst (v := (nI 0)) hx hb d_M_hasAll_38 (by decide) ?_
  refine lv_istore (lv' := [(7, .int (nI 0)), (0, .ref hm), (1, .int (nI j)), (2, .long x), (4, .long st), (6, .int (nI nN))]) hx hb d_M_hasAll_39 hl (by decide) rfl (fun ls hl => ?_)
  refine lv_iconst (v := (nI 0)) hx hb d_M_hasAll_41 (by decide) ?_
  refine lv_istore (lv' := [(8, .int (nI 0)), (7, .int (nI 0)), (0, .ref hm), (1, .int (nI j)), (2, .long x), (4, .long st), (6, .int (nI nN))]) hx hb d_M_hasAll_42 hl (by decide) rfl (fun ls hl => ?_)
  have loop_44 : ∀ (k : Nat) (i : Nat) (tt : Nat), (i + k = nN) → (haS (S j) nN x st = tt + haS (S j) k (x + Int32.toInt64 (nI i) * st) st) → ∀ (ls : Array Slot), lv_has ls 9 [(8, .int (nI i)), (7, .int (nI tt)), (0, .ref hm), (1, .int (nI j)), (2, .long x), (4, .long st), (6, .int (nI nN))] → W p l e { frames := 7, cells := 0, slots := 0, locals := 170 } s m ([.ref hm, .int (nI j), .long x, .long st, .int (nI nN)] : List Value).toArray below meth c H locs 0 0 (MQx below (Rw (.int (nI (haS (S j) nN x st))) (fun H1 => MP D cI hm a1 a2 a3 a4 a5 a6 a7 a8 a9 a10 a11 (nI 0) S H1)) s 0 0 (Aa [hm, a1, a2, a3, a4, a5, a6, a7, a8, a9, a10, a11] H0.size)) (F0 m 44 ls []) := by
    intro k
    induction k with
    | zero =>
      intro i tt hk ht  ls hl
      refine lv_aload_n hx hb d_M_hasAll_44 rfl (lv_at hl 2 rfl) ?_
      refine va_get (D := D) (ci := 4) (v := .int (nI 0)) (C := R_M) (T := T_M) (N := 12) hx hb (us_M G hW) (fun _ h => h) hown hK hP 0 rfl rfl 0 (by decide) (fl_M_43 G hW) (fun _ h9 => h9) rfl d_M_hasAll_45 ?_
      refine lv_if_ne (tgt := 91) hx hb d_M_hasAll_48 (by decide) (fun c_48 => absurd (by decide) c_48) (fun c_48 => ?_)
      refine lv_iload hx hb d_M_hasAll_51 (lv_at hl 0 rfl) ?_
      refine lv_iload hx hb d_M_hasAll_53 (lv_at hl 6 rfl) ?_
      refine lv_icmp_ge (tgt := 91) hx hb d_M_hasAll_55 (by decide) (fun c_55 => ?_) (fun c_55 => absurd (nI_le (by omega) (by omega)) c_55)
      refine lv_iload hx hb d_M_hasAll_91 (lv_at hl 1 rfl) ?_
      exact mx_iret hx hb hr hlk d_M_hasAll_93 (Nat.le_of_ble_eq_true rfl) (Nat.le_of_ble_eq_true rfl) hS.2.2 (⟨by rw [ht]; rfl, ⟨ki, ka, kb, zs, pu, ce, pa, tr, so, pl, ot, hP, hpic⟩⟩)
    | succ k ih_44 =>
      intro i tt hk ht  ls hl
      refine lv_aload_n hx hb d_M_hasAll_44 rfl (lv_at hl 2 rfl) ?_
      refine va_get (D := D) (ci := 4) (v := .int (nI 0)) (C := R_M) (T := T_M) (N := 12) hx hb (us_M G hW) (fun _ h => h) hown hK hP 0 rfl rfl 0 (by decide) (fl_M_43 G hW) (fun _ h9 => h9) rfl d_M_hasAll_45 ?_
      refine lv_if_ne (tgt := 91) hx hb d_M_hasAll_48 (by decide) (fun c_48 => absurd (by decide) c_48) (fun c_48 => ?_)
      refine lv_iload hx hb d_M_hasAll_51 (lv_at hl 0 rfl) ?_
      refine lv_iload hx hb d_M_hasAll_53 (lv_at hl 6 rfl) ?_
      refine lv_icmp_ge (tgt := 91) hx hb d_M_hasAll_55 (by decide) (fun c_55 => absurd c_55 (nI_ge (by omega) (by omega))) (fun c_55 => ?_)
      refine lv_aload_n hx hb d_M_hasAll_58 rfl (lv_at hl 2 rfl) ?_
      refine lv_iload_n hx hb d_M_hasAll_59 rfl (lv_at hl 3 rfl) ?_
      refine lv_lload_n hx hb d_M_hasAll_60 rfl (lv_at hl 4 rfl) ?_
      refine lv_iload hx hb d_M_hasAll_61 (lv_at hl 0 rfl) ?_
      refine lv_i2l hx hb d_M_hasAll_63 rfl ?_
      refine lv_lload hx hb d_M_hasAll_64 (lv_at hl 5 rfl) ?_
      refine lv_lmul hx hb d_M_hasAll_66 ?_
      refine lv_ladd hx hb d_M_hasAll_67 ?_
      refine mx_callR (r := .int (bI (hasS (S j) (x + Int32.toInt64 (nI i) * st)))) (c_M_hasM G hm a1 a2 a3 a4 a5 a6 a7 a8 a9 a10 a11 (nI 0) S j (x + Int32.toInt64 (nI i) * st) ⟨ki, ka, kb, zs, pu, ce, pa, tr, so, pl, ot, hP, hpic⟩ hD0 hok hj h0) hW (iv_M_hasAll_68 G hx hb hown hW (va_recv hK hP (ci := 4) (q0 := 0) rfl rfl) [.int (nI j), .long (x + ((Int32.toInt64 (nI i)) * st))] [] rfl) hml hl.1 (by rw [hb]; exact d_M_hasAll_68) (cd_M_isThere G hW) ⟨Nat.le_of_ble_eq_true rfl, Nat.le_of_ble_eq_true rfl⟩ rfl rfl (Nat.le_of_ble_eq_true rfl) (Nat.le_of_ble_eq_true rfl) (Nat.le_of_ble_eq_true rfl) ?_
      refine lv_if_eq (tgt := 81) hx hb d_M_hasAll_71 (by decide) (fun c_71 => ?_) (fun c_71 => ?_)
      · refine lv_iload hx hb d_M_hasAll_81 (lv_at hl 1 rfl) ?_
        refine lv_istore (lv' := [(7, .int (nI tt)), (8, .int (nI i)), (0, .ref hm), (1, .int (nI j)), (2, .long x), (4, .long st), (6, .int (nI nN))]) hx hb d_M_hasAll_83 hl (by decide) rfl (fun ls hl => ?_)
        refine lv_iinc (v := (nI (i + 1))) (lv' := [(8, .int (nI (i + 1))), (7, .int (nI tt)), (0, .ref hm), (1, .int (nI j)), (2, .long x), (4, .long st), (6, .int (nI nN))]) hx hb d_M_hasAll_85 hl (k := 1) rfl (nI_1 _) (by decide) rfl (fun ls hl => ?_)
        refine lv_goto (tgt := 44) hx hb d_M_hasAll_88 (by decide) ?_
        exact ih_44 (i + 1) (tt) (by omega) (by rw [ht, haS_f (bI_f c_71), stp x st (by omega)]) ls (lv_sub hl [0, 1, 2, 3, 4, 5, 6] rfl)
      · refine lv_iload hx hb d_M_hasAll_74 (lv_at hl 1 rfl) ?_
        refine lv_iconst (v := (nI 1)) hx hb d_M_hasAll_76 (by decide) ?_
        refine lv_iadd hx hb d_M_hasAll_77 ?_
        refine tp_i (y := (nI (tt + 1))) (nI_add _ _) ?_
        refine lv_goto (tgt := 83) hx hb d_M_hasAll_78 (by decide) ?_
        refine lv_istore (lv' := [(7, .int (nI (tt + 1))), (8, .int (nI i)), (0, .ref hm), (1, .int (nI j)), (2, .long x), (4, .long st), (6, .int (nI nN))]) hx hb d_M_hasAll_83 hl (by decide) rfl (fun ls hl => ?_)
        refine lv_iinc (v := (nI (i + 1))) (lv' := [(8, .int (nI (i + 1))), (7, .int (nI (tt + 1))), (0, .ref hm), (1, .int (nI j)), (2, .long x), (4, .long st), (6, .int (nI nN))]) hx hb d_M_hasAll_85 hl (k := 1) rfl (nI_1 _) (by decide) rfl (fun ls hl => ?_)
        refine lv_goto (tgt := 44) hx hb d_M_hasAll_88 (by decide) ?_
        exact ih_44 (i + 1) (tt + 1) (by omega) (by rw [ht, haS_t (bI_t c_71), stp x st (by omega)]; omega) ls (lv_sub hl [0, 1, 2, 3, 4, 5, 6] rfl)
  exact loop_44 (nN) (0) (0) (by omega) (by rw [stp0]; exact (Nat.zero_add _).symm) ls (lv_sub hl [0, 1, 2, 3, 4, 5, 6] rfl)

set_option maxHeartbeats 4000000 in
set_option maxRecDepth 100000 in
theorem c_M_addAll {l : Launch} {s0 : State} {D : va_G} {cI cF cJ : ClassId} (G : Gx l s0 D cI cF cJ) (hm a1 a2 a3 a4 a5 a6 a7 a8 a9 a10 a11 : Nat) (th : Int32) (S : Nat → FS) (j : Nat) (x st : Int64) (nN : Nat) {H0 : Heap} {A0 : Nat → Prop} (hM : MP D cI hm a1 a2 a3 a4 a5 a6 a7 a8 a9 a10 a11 th S H0) (hD : va_D A0 (adM hm a1 a2 a3 a4 a5 a6 a7 a8 a9 a10 a11)) (hok : ∀ i, i < 4 → okS (S i)) (hj : j < 4) (h0 : (S j).1 ≠ 0) (hn4 : nN ≤ 400) : Mx l s0 y_M_addAll (.code y_M_addAll b_M_addAll 8 (some .int)) { frames := 7, cells := 0, slots := 0, locals := 170 } [.ref hm, .int (nI j), .long x, .long st, .int (nI nN)] H0 (Aa [hm, a1, a2, a3, a4, a5, a6, a7, a8, a9, a10, a11] H0.size) (Rw (.int (nI (aaS nN (S j) x st).1)) (fun H1 => MP D cI hm a1 a2 a3 a4 a5 a6 a7 a8 a9 a10 a11 (nI 0) (va_up S j (aaS nN (S j) x st).2) H1)) := by
  refine Mx.ofW (own := "FewBitsModel") rfl rfl ?_
  rintro p e s m below meth c ⟨hx, hb, hml, hr, hown, hW, hlk⟩ hnm het hH
  have hK := G.k hW
  have hD0 := hD
  obtain ⟨ki, ka, kb, zs, pu, ce, pa, tr, so, pl, ot, hP, hpic⟩ := hM
  have hD : va_D (Aa [hm, a1, a2, a3, a4, a5, a6, a7, a8, a9, a10, a11] H0.size) [(hm, .inr (4, [.int th, .ref a1, .ref a2, .ref a3, .ref a4, .ref a5, .ref a6, .ref a7, .ref a8, .ref a9, .ref a10, .ref a11])), (a1, aN cI 4 ki), (a2, aN cI 4 ka), (a3, aN cI 4 kb), (a4, aI cI 4 zs), (a5, aI cI 4 pu), (a6, aN cI 4096 ce), (a7, aN cI 1024 pa), (a8, aN cI 1024 tr), (a9, aI cI 256 so), (a10, aN cI 6 pl), (a11, aN cI 6 ot)] := va_D.same2 [hm, a1, a2, a3, a4, a5, a6, a7, a8, a9, a10, a11] (hD.aa (sz := H0.size)) rfl rfl
  have hS : va_S (Aa [hm, a1, a2, a3, a4, a5, a6, a7, a8, a9, a10, a11] H0.size) H0 H0 [] := va_S.rf
  have hl := lv_entry ([.ref hm, .int (nI j), .long x, .long st, .int (nI nN)]) (n := 8) (Nat.le_of_ble_eq_true rfl)
  rw [lg_entry_eq]
  generalize (lg_sl ([.ref hm, .int (nI j), .long x, .long st, .int (nI nN)]) ++ List.replicate (8 - (lg_sl ([.ref hm, .int (nI j), .long x, .long st, .int (nI nN)])).length) Slot.unset).toArray = ls at hl ⊢
  have hl : lv_has ls 8 [(0, .ref hm), (1, .int (nI j)), (2, .long x), (4, .long st), (6, .int (nI nN))] := hl
  refine lv_aload_n hx hb d_M_addAll_0 rfl (lv_at hl 0 rfl) ?_
  refine lv_aload_n hx hb d_M_addAll_1 rfl (lv_at hl 0 rfl) ?_
  refine lv_iload_n hx hb d_M_addAll_2 rfl (lv_at hl 1 rfl) ?_
  refine mx_callR (r := .int (nI (if (S j).1 = 0 then 2 else 0))) (c_M_wrg G hm a1 a2 a3 a4 a5 a6 a7 a8 a9 a10 a11 th S j ⟨ki, ka, kb, zs, pu, ce, pa, tr, so, pl, ot, hP, hpic⟩ hD0 hok hj) hW (iv_M_addAll_3 G hx hb hown hW (va_recv hK hP (ci := 4) (q0 := 0) rfl rfl) [.int (nI j)] [.ref hm] rfl) hml hl.1 (by rw [hb]; exact d_M_addAll_3) (cd_M_wrong G hW) ⟨Nat.le_of_ble_eq_true rfl, Nat.le_of_ble_eq_true rfl⟩ rfl rfl (Nat.le_of_ble_eq_true rfl) (Nat.le_of_ble_eq_true rfl) (Nat.le_of_ble_eq_true rfl) ?_
  refine tp_i (y := (nI 0)) (by rw [if_neg h0]) ?_
  refine lv_if_le (tgt := 17) hx hb d_M_addAll_6 (by decide) (fun c_6 => ?_) (fun c_6 => absurd (by decide) c_6)
  refine lv_iload hx hb d_M_addAll_17 (lv_at hl 4 rfl) ?_
  refine lv_if_lt (tgt := 30) hx hb d_M_addAll_19 (by decide) (fun c_19 => absurd c_19 (nI_pos (by omega))) (fun c_19 => ?_)
  refine lv_iload hx hb d_M_addAll_22 (lv_at hl 4 rfl) ?_
  refine lv_sipush (v := (nI 400)) hx hb d_M_addAll_24 (by decide) ?_
  refine lv_icmp_le (tgt := 34) hx hb d_M_addAll_27 (by decide) (fun c_27 => ?_) (fun c_27 => absurd (nI_le hn4 (by omega)) c_27)
  refine lv_iconst (v := (nI 0)) hx hb d_M_addAll_34 (by decide) ?_
  refine va_put (D := D) (ci := 4) (v := .int (nI 0)) (ty := .int) (C := R_M) (T := T_M) (N := 12) hx hb (us_M G hW) (fun _ h => h) t_M to_M nm_M hown hK hP hD hS 0 rfl rfl 0 (by decide) (fl_M_43 G hW) (fun _ h9 => h9) rfl (by decide +kernel) rfl rfl (Nat.le_of_ble_eq_true rfl) d_M_addAll_35 (fun H locs hP hD hS => ?_)
  have hP : va_P D vcl [(hm, .inr (4, [.int (nI 0), .ref a1, .ref a2, .ref a3, .ref a4, .ref a5, .ref a6, .ref a7, .ref a8, .ref a9, .ref a10, .ref a11])), (a1, aN cI 4 ki), (a2, aN cI 4 ka), (a3, aN cI 4 kb), (a4, aI cI 4 zs), (a5, aI cI 4 pu), (a6, aN cI 4096 ce), (a7, aN cI 1024 pa), (a8, aN cI 1024 tr), (a9, aI cI 256 so), (a10, aN cI 6 pl), (a11, aN cI 6 ot)] H := hP
  have hD : va_D (Aa [hm, a1, a2, a3, a4, a5, a6, a7, a8, a9, a10, a11] H0.size) [(hm, .inr (4, [.int (nI 0), .ref a1, .ref a2, .ref a3, .ref a4, .ref a5, .ref a6, .ref a7, .ref a8, .ref a9, .ref a10, .ref a11])), (a1, aN cI 4 ki), (a2, aN cI 4 ka), (a3, aN cI 4 kb), (a4, aI cI 4 zs), (a5, aI cI 4 pu), (a6, aN cI 4096 ce), (a7, aN cI 1024 pa), (a8, aN cI 1024 tr), (a9, aI cI 256 so), (a10, aN cI 6 pl), (a11, aN cI 6 ot)] := hD
  refine lv_aload_n hx hb d_M_addAll_38 rfl (lv_at hl 0 rfl) ?_
  refine va_get (D := D) (ci := 4) (v := .int (nI 0)) (C := R_M) (T := T_M) (N := 12) hx hb (us_M G hW) (fun _ h => h) hown hK hP 0 rfl rfl 0 (by decide) (fl_M_43 G hW) (fun _ h9 => h9) rfl d_M_addAll_39 ?_
  refine lv_if_le (tgt := 47) hx hb d_M_addAll_42 (by decide) (fun c_42 => ?_) (fun c_42 => absurd (by decide) c_42)
  refine lv_iconst (v := (nI 0)) hx hb d_M_addAll_47 (by decide) ?_
  refine lv_istore (lv' := [(7, .int (nI 0)), (0, .ref hm), (1, .int (nI j)), (2, .long x), (4, .long st), (6, .int (nI nN))]) hx hb d_M_addAll_48 hl (by decide) rfl (fun ls hl => ?_)
  have loop_50 : ∀ (k : Nat) (i : Nat) (T : FS) (ki : Nat → Nat) (ka : Nat → Nat) (kb : Nat → Nat) (zs : Nat → Int32) (pu : Nat → Int32) (ce : Nat → Nat) (pa : Nat → Nat) (tr : Nat → Nat) (so : Nat → Int32) (pl : Nat → Nat) (ot : Nat → Nat), (i + k = nN) → (okS T) → (T.1 ≠ 0) → (∀ i, i < 4 → PicM i ((va_up S j T) i) ki ka kb zs pu ce pa) → (aaS nN (S j) x st = (i + (aaS k T (x + Int32.toInt64 (nI i) * st) st).1, (aaS k T (x + Int32.toInt64 (nI i) * st) st).2)) → ∀ (H : Heap) (locs : List Loc), va_P D vcl [(hm, .inr (4, [.int (nI 0), .ref a1, .ref a2, .ref a3, .ref a4, .ref a5, .ref a6, .ref a7, .ref a8, .ref a9, .ref a10, .ref a11])), (a1, aN cI 4 ki), (a2, aN cI 4 ka), (a3, aN cI 4 kb), (a4, aI cI 4 zs), (a5, aI cI 4 pu), (a6, aN cI 4096 ce), (a7, aN cI 1024 pa), (a8, aN cI 1024 tr), (a9, aI cI 256 so), (a10, aN cI 6 pl), (a11, aN cI 6 ot)] H → va_D (Aa [hm, a1, a2, a3, a4, a5, a6, a7, a8, a9, a10, a11] H0.size) [(hm, .inr (4, [.int (nI 0), .ref a1, .ref a2, .ref a3, .ref a4, .ref a5, .ref a6, .ref a7, .ref a8, .ref a9, .ref a10, .ref a11])), (a1, aN cI 4 ki), (a2, aN cI 4 ka), (a3, aN cI 4 kb), (a4, aI cI 4 zs), (a5, aI cI 4 pu), (a6, aN cI 4096 ce), (a7, aN cI 1024 pa), (a8, aN cI 1024 tr), (a9, aI cI 256 so), (a10, aN cI 6 pl), (a11, aN cI 6 ot)] → va_S (Aa [hm, a1, a2, a3, a4, a5, a6, a7, a8, a9, a10, a11] H0.size) H0 H locs → ∀ (ls : Array Slot), lv_has ls 8 [(7, .int (nI i)), (0, .ref hm), (1, .int (nI j)), (2, .long x), (4, .long st), (6, .int (nI nN))] → W p l e { frames := 7, cells := 0, slots := 0, locals := 170 } s m ([.ref hm, .int (nI j), .long x, .long st, .int (nI nN)] : List Value).toArray below meth c H locs 0 0 (MQx below (Rw (.int (nI (aaS nN (S j) x st).1)) (fun H1 => MP D cI hm a1 a2 a3 a4 a5 a6 a7 a8 a9 a10 a11 (nI 0) (va_up S j (aaS nN (S j) x st).2) H1)) s 0 0 (Aa [hm, a1, a2, a3, a4, a5, a6, a7, a8, a9, a10, a11] H0.size)) (F0 m 50 ls []) := by
    intro k
    induction k with
    | zero =>
      intro i T ki ka kb zs pu ce pa tr so pl ot hk hT hT0 hpic haa H locs hP hD hS ls hl
      refine lv_iload hx hb d_M_addAll_50 (lv_at hl 0 rfl) ?_
      refine lv_iload hx hb d_M_addAll_52 (lv_at hl 5 rfl) ?_
      refine lv_icmp_ge (tgt := 79) hx hb d_M_addAll_54 (by decide) (fun c_54 => ?_) (fun c_54 => absurd (nI_le (by omega) (by omega)) c_54)
      refine lv_iload hx hb d_M_addAll_79 (lv_at hl 0 rfl) ?_
      exact mx_iret hx hb hr hlk d_M_addAll_81 (Nat.le_of_ble_eq_true rfl) (Nat.le_of_ble_eq_true rfl) hS.2.2 (⟨by rw [haa]; show _ = Outcome.returned (some (Value.int (nI (i + 0)))); rw [Nat.add_zero], by rw [haa]; exact ⟨ki, ka, kb, zs, pu, ce, pa, tr, so, pl, ot, hP, hpic⟩⟩)
    | succ k ih_50 =>
      intro i T ki ka kb zs pu ce pa tr so pl ot hk hT hT0 hpic haa H locs hP hD hS ls hl
      refine lv_iload hx hb d_M_addAll_50 (lv_at hl 0 rfl) ?_
      refine lv_iload hx hb d_M_addAll_52 (lv_at hl 5 rfl) ?_
      refine lv_icmp_ge (tgt := 79) hx hb d_M_addAll_54 (by decide) (fun c_54 => absurd c_54 (nI_ge (by omega) (by omega))) (fun c_54 => ?_)
      refine lv_aload_n hx hb d_M_addAll_57 rfl (lv_at hl 1 rfl) ?_
      refine lv_iload_n hx hb d_M_addAll_58 rfl (lv_at hl 2 rfl) ?_
      refine lv_lload_n hx hb d_M_addAll_59 rfl (lv_at hl 3 rfl) ?_
      refine lv_iload hx hb d_M_addAll_60 (lv_at hl 0 rfl) ?_
      refine lv_i2l hx hb d_M_addAll_62 rfl ?_
      refine lv_lload hx hb d_M_addAll_63 (lv_at hl 4 rfl) ?_
      refine lv_lmul hx hb d_M_addAll_65 ?_
      refine lv_ladd hx hb d_M_addAll_66 ?_
      refine mx_callW (r := .int (bI (addS ((va_up S j T) j) (x + Int32.toInt64 (nI i) * st)).1)) (c_M_addOne G hm a1 a2 a3 a4 a5 a6 a7 a8 a9 a10 a11 (nI 0) (va_up S j T) j (x + Int32.toInt64 (nI i) * st) ⟨ki, ka, kb, zs, pu, ce, pa, tr, so, pl, ot, hP, hpic⟩ hD0 (oks_up hok hT) hj (by rw [va_up_self]; exact hT0)) hW (iv_M_addAll_67 G hx hb hown hW (va_recv hK hP (ci := 4) (q0 := 0) rfl rfl) [.int (nI j), .long (x + ((Int32.toInt64 (nI i)) * st))] [] rfl) hml hl.1 (by rw [hb]; exact d_M_addAll_67) (cd_M_addOne G hW) ⟨Nat.le_of_ble_eq_true rfl, Nat.le_of_ble_eq_true rfl⟩ (Nat.le_of_ble_eq_true rfl) (Nat.le_of_ble_eq_true rfl) (Nat.le_of_ble_eq_true rfl) hS (Aa.mono (fun _ h => h) hS.1) (fun H locs hP _ _ hS => ?_)
      obtain ⟨ki, ka, kb, zs, pu, ce, pa, tr, so, pl, ot, hP, hpic⟩ := hP
      have hP : va_P D vcl [(hm, .inr (4, [.int (nI 0), .ref a1, .ref a2, .ref a3, .ref a4, .ref a5, .ref a6, .ref a7, .ref a8, .ref a9, .ref a10, .ref a11])), (a1, aN cI 4 ki), (a2, aN cI 4 ka), (a3, aN cI 4 kb), (a4, aI cI 4 zs), (a5, aI cI 4 pu), (a6, aN cI 4096 ce), (a7, aN cI 1024 pa), (a8, aN cI 1024 tr), (a9, aI cI 256 so), (a10, aN cI 6 pl), (a11, aN cI 6 ot)] H := hP
      have hD : va_D (Aa [hm, a1, a2, a3, a4, a5, a6, a7, a8, a9, a10, a11] H0.size) [(hm, .inr (4, [.int (nI 0), .ref a1, .ref a2, .ref a3, .ref a4, .ref a5, .ref a6, .ref a7, .ref a8, .ref a9, .ref a10, .ref a11])), (a1, aN cI 4 ki), (a2, aN cI 4 ka), (a3, aN cI 4 kb), (a4, aI cI 4 zs), (a5, aI cI 4 pu), (a6, aN cI 4096 ce), (a7, aN cI 1024 pa), (a8, aN cI 1024 tr), (a9, aI cI 256 so), (a10, aN cI 6 pl), (a11, aN cI 6 ot)] := va_D.same2 [hm, a1, a2, a3, a4, a5, a6, a7, a8, a9, a10, a11] hD rfl rfl
      refine tp_i (y := (bI (addS T (x + Int32.toInt64 (nI i) * st)).1)) (by rw [va_up_self]) ?_
      refine lv_if_eq (tgt := 79) hx hb d_M_addAll_70 (by decide) (fun c_70 => ?_) (fun c_70 => ?_)
      · refine lv_iload hx hb d_M_addAll_79 (lv_at hl 0 rfl) ?_
        exact mx_iret hx hb hr hlk d_M_addAll_81 (Nat.le_of_ble_eq_true rfl) (Nat.le_of_ble_eq_true rfl) hS.2.2 (⟨by rw [haa, aaS_f (bI_f c_70)]; rfl, by rw [haa, aaS_f (bI_f c_70)]; rw [va_up_self, va_up_two] at hpic; exact ⟨ki, ka, kb, zs, pu, ce, pa, tr, so, pl, ot, hP, hpic⟩⟩)
      · refine lv_iinc (v := (nI (i + 1))) (lv' := [(7, .int (nI (i + 1))), (0, .ref hm), (1, .int (nI j)), (2, .long x), (4, .long st), (6, .int (nI nN))]) hx hb d_M_addAll_73 hl (k := 0) rfl (nI_1 _) (by decide) rfl (fun ls hl => ?_)
        refine lv_goto (tgt := 50) hx hb d_M_addAll_76 (by decide) ?_
        exact ih_50 (i + 1) ((addS T (x + Int32.toInt64 (nI i) * st)).2) (ki) (ka) (kb) (zs) (pu) (ce) (pa) (tr) (so) (pl) (ot) (by omega) (okS_add _ hT hT0) (by rw [addS_kd]; exact hT0) (by rw [va_up_self, va_up_two] at hpic; exact hpic) (by rw [haa, aaS_t (bI_t c_70), stp x st (by omega)]; simp only [Prod.mk.injEq, and_true]; omega) H locs hP hD hS ls (lv_sub hl [0, 1, 2, 3, 4, 5] rfl)
  exact loop_50 (nN) (0) (S j) (ki) (ka) (kb) (zs) (pu) (ce) (pa) (tr) (so) (pl) (ot) (by omega) (hok j hj) (h0) (by rw [va_up_same]; exact hpic) (by rw [stp0, Nat.zero_add]) H locs hP hD hS ls (lv_sub hl [0, 1, 2, 3, 4, 5] rfl)
