/-- a row with the places from a to b moved down by one -/
def shf (g : Nat → Nat) (a b : Nat) : Nat → Nat := fun q => if a ≤ q ∧ q < b then g (q + 1) else g q
theorem shf_0 (g : Nat → Nat) (a : Nat) : shf g a a = g := by
  funext q; unfold shf; rw [if_neg (by omega)]
theorem stO_sh0 (pa : Nat → Nat) (o a : Nat) : stO 256 pa o (shf (vw pa o) a a) = pa := by rw [shf_0, stO_self]
theorem shf_s {g : Nat → Nat} {a b : Nat} (h : a ≤ b) : va_up (shf g a b) b (g (b + 1)) = shf g a (b + 1) := by
  funext q
  by_cases e : q = b
  · subst e; rw [va_up_self]; unfold shf; rw [if_pos (by omega)]
  · rw [va_up_ne _ _ e]
    unfold shf
    by_cases h1 : a ≤ q ∧ q < b
    · rw [if_pos h1, if_pos (by omega)]
    · rw [if_neg h1, if_neg (by omega)]
theorem nI_gt {a b : Nat} (h : b < a) (ha : a < 2 ^ 31) : ¬ nI a ≤ nI b := fun h9 => absurd ((nI_leI ha (by omega)).mp h9) (by omega)

set_option maxHeartbeats 4000000 in
set_option maxRecDepth 100000 in
theorem c_M_remove_1 {l : Launch} {s0 : State} {D : va_G} {cI cF cJ : ClassId} (G : Gx l s0 D cI cF cJ) (hm a1 a2 a3 a4 a5 a6 a7 a8 a9 a10 a11 : Nat) (th : Int32) (S : Nat → FS) (j A B n : Nat) (hd pv : Int32) (cs f : Nat → Nat) (x : Int64) {H0 : Heap} {A0 : Nat → Prop} (hM : MP D cI hm a1 a2 a3 a4 a5 a6 a7 a8 a9 a10 a11 th S H0) (hD : va_D A0 (adM hm a1 a2 a3 a4 a5 a6 a7 a8 a9 a10 a11)) (hok : ∀ i, i < 4 → okS (S i)) (hj : j < 4) (hSj : S j = (1, A, B, hd, pv, cs, n, f)) : Mx l s0 y_M_remove (.code y_M_remove b_M_remove 8 (some .int)) { frames := 7, cells := 0, slots := 0, locals := 170 } [.ref hm, .int (nI j), .long x] H0 (Aa [hm, a1, a2, a3, a4, a5, a6, a7, a8, a9, a10, a11] H0.size) (Rw (.int (if (remS (S j) x).1 then (remS (S j) x).2.2.2.2.1 else nI 0)) (fun H1 => MP D cI hm a1 a2 a3 a4 a5 a6 a7 a8 a9 a10 a11 (nI (if (remS (S j) x).1 then 0 else 3)) (va_up S j (remS (S j) x).2) H1)) := by
  refine Mx.ofW (own := "FewBitsModel") rfl rfl ?_
  rintro p e s m below meth c ⟨hx, hb, hml, hr, hown, hW, hlk⟩ hnm het hH
  have hK := G.k hW
  have hD0 := hD
  obtain ⟨ki, ka, kb, zs, pu, ce, pa, tr, so, pl, ot, hP, hpic⟩ := hM
  have hD : va_D (Aa [hm, a1, a2, a3, a4, a5, a6, a7, a8, a9, a10, a11] H0.size) [(hm, .inr (4, [.int th, .ref a1, .ref a2, .ref a3, .ref a4, .ref a5, .ref a6, .ref a7, .ref a8, .ref a9, .ref a10, .ref a11])), (a1, aN cI 4 ki), (a2, aN cI 4 ka), (a3, aN cI 4 kb), (a4, aI cI 4 zs), (a5, aI cI 4 pu), (a6, aN cI 4096 ce), (a7, aN cI 1024 pa), (a8, aN cI 1024 tr), (a9, aI cI 256 so), (a10, aN cI 6 pl), (a11, aN cI 6 ot)] := va_D.same2 [hm, a1, a2, a3, a4, a5, a6, a7, a8, a9, a10, a11] (hD.aa (sz := H0.size)) rfl rfl
  have hS : va_S (Aa [hm, a1, a2, a3, a4, a5, a6, a7, a8, a9, a10, a11] H0.size) H0 H0 [] := va_S.rf
  have hpj := hpic j hj
  rw [hSj] at hpj
  obtain ⟨p1, p2, p3, p4, p5, p6⟩ := hpj.f1
  have hoj := hok j hj
  rw [hSj] at hoj
  have hq := okS_1.mp hoj
  have h0 : (S j).1 ≠ 0 := by rw [hSj]; exact (by decide : 1 ≠ 0)
  have hl := lv_entry ([.ref hm, .int (nI j), .long x]) (n := 8) (Nat.le_of_ble_eq_true rfl)
  rw [lg_entry_eq]
  generalize (lg_sl ([.ref hm, .int (nI j), .long x]) ++ List.replicate (8 - (lg_sl ([.ref hm, .int (nI j), .long x])).length) Slot.unset).toArray = ls at hl ⊢
  have hl : lv_has ls 8 [(0, .ref hm), (1, .int (nI j)), (2, .long x)] := hl
  refine lv_aload_n hx hb d_M_remove_0 rfl (lv_at hl 0 rfl) ?_
  refine lv_aload_n hx hb d_M_remove_1 rfl (lv_at hl 0 rfl) ?_
  refine lv_iload_n hx hb d_M_remove_2 rfl (lv_at hl 1 rfl) ?_
  refine mx_callR (r := .int (nI (if (S j).1 = 0 then 2 else 0))) (c_M_wrg G hm a1 a2 a3 a4 a5 a6 a7 a8 a9 a10 a11 th S j ⟨ki, ka, kb, zs, pu, ce, pa, tr, so, pl, ot, hP, hpic⟩ hD0 hok hj) hW (iv_M_remove_3 G hx hb hown hW (va_recv hK hP (ci := 4) (q0 := 0) rfl rfl) [.int (nI j)] [.ref hm] rfl) hml hl.1 (by rw [hb]; exact d_M_remove_3) (cd_M_wrong G hW) ⟨Nat.le_of_ble_eq_true rfl, Nat.le_of_ble_eq_true rfl⟩ rfl rfl (Nat.le_of_ble_eq_true rfl) (Nat.le_of_ble_eq_true rfl) (Nat.le_of_ble_eq_true rfl) ?_
  refine tp_i (y := (nI 0)) (by rw [if_neg h0]) ?_
  refine va_put (D := D) (ci := 4) (v := .int (nI 0)) (ty := .int) (C := R_M) (T := T_M) (N := 12) hx hb (us_M G hW) (fun _ h => h) t_M to_M nm_M hown hK hP hD hS 0 rfl rfl 0 (by decide) (fl_M_43 G hW) (fun _ h9 => h9) rfl (by decide +kernel) rfl rfl (Nat.le_of_ble_eq_true rfl) d_M_remove_6 (fun H locs hP hD hS => ?_)
  have hP : va_P D vcl [(hm, .inr (4, [.int (nI 0), .ref a1, .ref a2, .ref a3, .ref a4, .ref a5, .ref a6, .ref a7, .ref a8, .ref a9, .ref a10, .ref a11])), (a1, aN cI 4 ki), (a2, aN cI 4 ka), (a3, aN cI 4 kb), (a4, aI cI 4 zs), (a5, aI cI 4 pu), (a6, aN cI 4096 ce), (a7, aN cI 1024 pa), (a8, aN cI 1024 tr), (a9, aI cI 256 so), (a10, aN cI 6 pl), (a11, aN cI 6 ot)] H := hP
  have hD : va_D (Aa [hm, a1, a2, a3, a4, a5, a6, a7, a8, a9, a10, a11] H0.size) [(hm, .inr (4, [.int (nI 0), .ref a1, .ref a2, .ref a3, .ref a4, .ref a5, .ref a6, .ref a7, .ref a8, .ref a9, .ref a10, .ref a11])), (a1, aN cI 4 ki), (a2, aN cI 4 ka), (a3, aN cI 4 kb), (a4, aI cI 4 zs), (a5, aI cI 4 pu), (a6, aN cI 4096 ce), (a7, aN cI 1024 pa), (a8, aN cI 1024 tr), (a9, aI cI 256 so), (a10, aN cI 6 pl), (a11, aN cI 6 ot)] := hD
  refine lv_aload_n hx hb d_M_remove_9 rfl (lv_at hl 0 rfl) ?_
  refine va_get (D := D) (ci := 4) (v := .int (nI 0)) (C := R_M) (T := T_M) (N := 12) hx hb (us_M G hW) (fun _ h => h) hown hK hP 0 rfl rfl 0 (by decide) (fl_M_43 G hW) (fun _ h9 => h9) rfl d_M_remove_10 ?_
  refine lv_if_le (tgt := 18) hx hb d_M_remove_13 (by decide) (fun c_13 => ?_) (fun c_13 => absurd (by decide) c_13)
  refine lv_iconst (v := (nI 0)) hx hb d_M_remove_18 (by decide) ?_
  refine lv_istore (lv' := [(4, .int (nI 0)), (0, .ref hm), (1, .int (nI j)), (2, .long x)]) hx hb d_M_remove_19 hl (by decide) rfl (fun ls hl => ?_)
  refine lv_aload_n hx hb d_M_remove_21 rfl (lv_at hl 1 rfl) ?_
  refine va_get (D := D) (ci := 4) (v := .ref a1) (C := R_M) (T := T_M) (N := 12) hx hb (us_M G hW) (fun _ h => h) hown hK hP 0 rfl rfl 1 (by decide) (fl_M_7 G hW) (fun _ h9 => h9) rfl d_M_remove_22 ?_
  refine lv_iload_n hx hb d_M_remove_25 rfl (lv_at hl 2 rfl) ?_
  refine ia_ld hx hb hK hP 1 (j := j) rfl (hj) (by decide) d_M_remove_26 ?_
  refine tp_i (y := (nI (ki j))) rfl ?_
  refine tp_i (y := (nI 1)) (by rw [p1]) ?_
  refine lv_iconst (v := (nI 1)) hx hb d_M_remove_27 (by decide) ?_
  refine lv_icmp_ne (tgt := 43) hx hb d_M_remove_28 (by decide) (fun c_28 => absurd (rfl) c_28) (fun c_28 => ?_)
  refine lv_aload_n hx hb d_M_remove_31 rfl (lv_at hl 1 rfl) ?_
  refine lv_iload_n hx hb d_M_remove_32 rfl (lv_at hl 2 rfl) ?_
  refine lv_lload_n hx hb d_M_remove_33 rfl (lv_at hl 3 rfl) ?_
  refine lv_iconst (v := (-1)) hx hb d_M_remove_34 (by decide) ?_
  refine mx_callW (r := .int (bI (allN (fitS (vw ce (1024 * j)) (fpr A x pl B) B) B))) (c_M_addCounted_m G hm a1 a2 a3 a4 a5 a6 a7 a8 a9 a10 a11 (nI 0) ki ka kb zs pu ce pa tr so pl ot j A B x hP hD hj p2 p3 hq.2.1 hq.2.2.2.1 (hq.ce p5)) hW (iv_M_remove_35 G hx hb hown hW (va_recv hK hP (ci := 4) (q0 := 0) rfl rfl) [.int (nI j), .long x, .int (-1)] [] rfl) hml hl.1 (by rw [hb]; exact d_M_remove_35) (cd_M_addCounted G hW) ⟨Nat.le_of_ble_eq_true rfl, Nat.le_of_ble_eq_true rfl⟩ (Nat.le_of_ble_eq_true rfl) (Nat.le_of_ble_eq_true rfl) (Nat.le_of_ble_eq_true rfl) hS (Aa.mono (fun _ h => h) hS.1) (fun H locs hP _ _ hS => ?_)
  have hP : va_P D vcl [(hm, .inr (4, [.int (nI 0), .ref a1, .ref a2, .ref a3, .ref a4, .ref a5, .ref a6, .ref a7, .ref a8, .ref a9, .ref a10, .ref a11])), (a1, aN cI 4 ki), (a2, aN cI 4 ka), (a3, aN cI 4 kb), (a4, aI cI 4 zs), (a5, aI cI 4 pu), (a6, aN cI 4096 (if (allN (fitS (vw ce (1024 * j)) (fpr A x pl B) B) B) then (stO 1024 ce (1024 * j) (subC (vw ce (1024 * j)) (fpr A x pl B) B)) else ce)), (a7, aN cI 1024 pa), (a8, aN cI 1024 tr), (a9, aI cI 256 so), (a10, aN cI 6 (fpr A x pl B)), (a11, aN cI 6 ot)] H := hP
  have hD : va_D (Aa [hm, a1, a2, a3, a4, a5, a6, a7, a8, a9, a10, a11] H0.size) [(hm, .inr (4, [.int (nI 0), .ref a1, .ref a2, .ref a3, .ref a4, .ref a5, .ref a6, .ref a7, .ref a8, .ref a9, .ref a10, .ref a11])), (a1, aN cI 4 ki), (a2, aN cI 4 ka), (a3, aN cI 4 kb), (a4, aI cI 4 zs), (a5, aI cI 4 pu), (a6, aN cI 4096 (if (allN (fitS (vw ce (1024 * j)) (fpr A x pl B) B) B) then (stO 1024 ce (1024 * j) (subC (vw ce (1024 * j)) (fpr A x pl B) B)) else ce)), (a7, aN cI 1024 pa), (a8, aN cI 1024 tr), (a9, aI cI 256 so), (a10, aN cI 6 (fpr A x pl B)), (a11, aN cI 6 ot)] := va_D.same2 [hm, a1, a2, a3, a4, a5, a6, a7, a8, a9, a10, a11] hD rfl rfl
  refine tp_i (y := (bI (allN (fitS cs (plx A x) B) B))) (by rw [fitS_m hq.2.1 p5]) ?_
  refine lv_istore (lv' := [(4, .int (bI (allN (fitS cs (plx A x) B) B))), (0, .ref hm), (1, .int (nI j)), (2, .long x)]) hx hb d_M_remove_38 hl (by decide) rfl (fun ls hl => ?_)
  refine lv_goto (tgt := 233) hx hb d_M_remove_40 (by decide) ?_
  refine lv_aload_n hx hb d_M_remove_233 rfl (lv_at hl 1 rfl) ?_
  refine lv_iload hx hb d_M_remove_234 (lv_at hl 0 rfl) ?_
  refine lv_if_eq (tgt := 243) hx hb d_M_remove_236 (by decide) (fun c_236 => ?_) (fun c_236 => ?_)
  · have hft := bI_f c_236
    refine lv_iconst (v := (nI 3)) hx hb d_M_remove_243 (by decide) ?_
    refine va_put (D := D) (ci := 4) (v := .int (nI 3)) (ty := .int) (C := R_M) (T := T_M) (N := 12) hx hb (us_M G hW) (fun _ h => h) t_M to_M nm_M hown hK hP hD hS 0 rfl rfl 0 (by decide) (fl_M_43 G hW) (fun _ h9 => h9) rfl (by decide +kernel) rfl rfl (Nat.le_of_ble_eq_true rfl) d_M_remove_244 (fun H locs hP hD hS => ?_)
    have hP : va_P D vcl [(hm, .inr (4, [.int (nI 3), .ref a1, .ref a2, .ref a3, .ref a4, .ref a5, .ref a6, .ref a7, .ref a8, .ref a9, .ref a10, .ref a11])), (a1, aN cI 4 ki), (a2, aN cI 4 ka), (a3, aN cI 4 kb), (a4, aI cI 4 zs), (a5, aI cI 4 pu), (a6, aN cI 4096 (if (allN (fitS (vw ce (1024 * j)) (fpr A x pl B) B) B) then (stO 1024 ce (1024 * j) (subC (vw ce (1024 * j)) (fpr A x pl B) B)) else ce)), (a7, aN cI 1024 pa), (a8, aN cI 1024 tr), (a9, aI cI 256 so), (a10, aN cI 6 (fpr A x pl B)), (a11, aN cI 6 ot)] H := hP
    have hD : va_D (Aa [hm, a1, a2, a3, a4, a5, a6, a7, a8, a9, a10, a11] H0.size) [(hm, .inr (4, [.int (nI 3), .ref a1, .ref a2, .ref a3, .ref a4, .ref a5, .ref a6, .ref a7, .ref a8, .ref a9, .ref a10, .ref a11])), (a1, aN cI 4 ki), (a2, aN cI 4 ka), (a3, aN cI 4 kb), (a4, aI cI 4 zs), (a5, aI cI 4 pu), (a6, aN cI 4096 (if (allN (fitS (vw ce (1024 * j)) (fpr A x pl B) B) B) then (stO 1024 ce (1024 * j) (subC (vw ce (1024 * j)) (fpr A x pl B) B)) else ce)), (a7, aN cI 1024 pa), (a8, aN cI 1024 tr), (a9, aI cI 256 so), (a10, aN cI 6 (fpr A x pl B)), (a11, aN cI 6 ot)] := hD
    refine lv_aload_n hx hb d_M_remove_247 rfl (lv_at hl 1 rfl) ?_
    refine va_get (D := D) (ci := 4) (v := .ref a4) (C := R_M) (T := T_M) (N := 12) hx hb (us_M G hW) (fun _ h => h) hown hK hP 0 rfl rfl 4 (by decide) (fl_M_19 G hW) (fun _ h9 => h9) rfl d_M_remove_248 ?_
    refine lv_iload_n hx hb d_M_remove_251 rfl (lv_at hl 2 rfl) ?_
    refine lv_iload hx hb d_M_remove_252 (lv_at hl 0 rfl) ?_
    refine lv_if_eq (tgt := 268) hx hb d_M_remove_254 (by decide) (fun c_254 => ?_) (fun c_254 => absurd (c_236) c_254)
    refine lv_aload_n hx hb d_M_remove_268 rfl (lv_at hl 1 rfl) ?_
    refine va_get (D := D) (ci := 4) (v := .ref a4) (C := R_M) (T := T_M) (N := 12) hx hb (us_M G hW) (fun _ h => h) hown hK hP 0 rfl rfl 4 (by decide) (fl_M_19 G hW) (fun _ h9 => h9) rfl d_M_remove_269 ?_
    refine lv_iload_n hx hb d_M_remove_272 rfl (lv_at hl 2 rfl) ?_
    refine ia_ld hx hb hK hP 4 (j := j) rfl (hj) (by decide) d_M_remove_273 ?_
    refine ia_st hx hb hK hP hD hS 4 (j := j) rfl (hj) (by decide) d_M_remove_274 (fun H locs hP hD hS => ?_)
    have hP : va_P D vcl [(hm, .inr (4, [.int (nI 3), .ref a1, .ref a2, .ref a3, .ref a4, .ref a5, .ref a6, .ref a7, .ref a8, .ref a9, .ref a10, .ref a11])), (a1, aN cI 4 ki), (a2, aN cI 4 ka), (a3, aN cI 4 kb), (a4, aI cI 4 (upd zs j (zs j))), (a5, aI cI 4 pu), (a6, aN cI 4096 (if (allN (fitS (vw ce (1024 * j)) (fpr A x pl B) B) B) then (stO 1024 ce (1024 * j) (subC (vw ce (1024 * j)) (fpr A x pl B) B)) else ce)), (a7, aN cI 1024 pa), (a8, aN cI 1024 tr), (a9, aI cI 256 so), (a10, aN cI 6 (fpr A x pl B)), (a11, aN cI 6 ot)] H := hP
    have hD : va_D (Aa [hm, a1, a2, a3, a4, a5, a6, a7, a8, a9, a10, a11] H0.size) [(hm, .inr (4, [.int (nI 3), .ref a1, .ref a2, .ref a3, .ref a4, .ref a5, .ref a6, .ref a7, .ref a8, .ref a9, .ref a10, .ref a11])), (a1, aN cI 4 ki), (a2, aN cI 4 ka), (a3, aN cI 4 kb), (a4, aI cI 4 (upd zs j (zs j))), (a5, aI cI 4 pu), (a6, aN cI 4096 (if (allN (fitS (vw ce (1024 * j)) (fpr A x pl B) B) B) then (stO 1024 ce (1024 * j) (subC (vw ce (1024 * j)) (fpr A x pl B) B)) else ce)), (a7, aN cI 1024 pa), (a8, aN cI 1024 tr), (a9, aI cI 256 so), (a10, aN cI 6 (fpr A x pl B)), (a11, aN cI 6 ot)] := hD
    refine lv_iload hx hb d_M_remove_275 (lv_at hl 0 rfl) ?_
    refine lv_if_eq (tgt := 289) hx hb d_M_remove_277 (by decide) (fun c_277 => ?_) (fun c_277 => absurd (c_236) c_277)
    refine lv_iconst (v := (nI 0)) hx hb d_M_remove_289 (by decide) ?_
    exact mx_iret hx hb hr hlk d_M_remove_290 (Nat.le_of_ble_eq_true rfl) (Nat.le_of_ble_eq_true rfl) hS.2.2 (⟨by rw [hSj, remS_1, hft]; rfl, by rw [fitS_m hq.2.1 p5, hft] at hP; rw [show (nI (if (remS (S j) x).1 then 0 else 3)) = nI 3 by rw [hSj, remS_1, hft]; rfl]; exact ⟨ki, ka, kb, _, pu, ce, pa, tr, so, _, ot, hP, pics_up hpic hok (by rw [hSj, remS_1, hft]; exact PicM.k1 p1 p2 p3 (by rw [upd_eq, p4]; rfl) p5 p6) id_off id_off id_off upd_off id_off idC idP⟩⟩)
  · have hft := bI_t c_236
    refine lv_iconst (v := (nI 0)) hx hb d_M_remove_239 (by decide) ?_
    refine lv_goto (tgt := 244) hx hb d_M_remove_240 (by decide) ?_
    refine va_put (D := D) (ci := 4) (v := .int (nI 0)) (ty := .int) (C := R_M) (T := T_M) (N := 12) hx hb (us_M G hW) (fun _ h => h) t_M to_M nm_M hown hK hP hD hS 0 rfl rfl 0 (by decide) (fl_M_43 G hW) (fun _ h9 => h9) rfl (by decide +kernel) rfl rfl (Nat.le_of_ble_eq_true rfl) d_M_remove_244 (fun H locs hP hD hS => ?_)
    have hP : va_P D vcl [(hm, .inr (4, [.int (nI 0), .ref a1, .ref a2, .ref a3, .ref a4, .ref a5, .ref a6, .ref a7, .ref a8, .ref a9, .ref a10, .ref a11])), (a1, aN cI 4 ki), (a2, aN cI 4 ka), (a3, aN cI 4 kb), (a4, aI cI 4 zs), (a5, aI cI 4 pu), (a6, aN cI 4096 (if (allN (fitS (vw ce (1024 * j)) (fpr A x pl B) B) B) then (stO 1024 ce (1024 * j) (subC (vw ce (1024 * j)) (fpr A x pl B) B)) else ce)), (a7, aN cI 1024 pa), (a8, aN cI 1024 tr), (a9, aI cI 256 so), (a10, aN cI 6 (fpr A x pl B)), (a11, aN cI 6 ot)] H := hP
    have hD : va_D (Aa [hm, a1, a2, a3, a4, a5, a6, a7, a8, a9, a10, a11] H0.size) [(hm, .inr (4, [.int (nI 0), .ref a1, .ref a2, .ref a3, .ref a4, .ref a5, .ref a6, .ref a7, .ref a8, .ref a9, .ref a10, .ref a11])), (a1, aN cI 4 ki), (a2, aN cI 4 ka), (a3, aN cI 4 kb), (a4, aI cI 4 zs), (a5, aI cI 4 pu), (a6, aN cI 4096 (if (allN (fitS (vw ce (1024 * j)) (fpr A x pl B) B) B) then (stO 1024 ce (1024 * j) (subC (vw ce (1024 * j)) (fpr A x pl B) B)) else ce)), (a7, aN cI 1024 pa), (a8, aN cI 1024 tr), (a9, aI cI 256 so), (a10, aN cI 6 (fpr A x pl B)), (a11, aN cI 6 ot)] := hD
    refine lv_aload_n hx hb d_M_remove_247 rfl (lv_at hl 1 rfl) ?_
    refine va_get (D := D) (ci := 4) (v := .ref a4) (C := R_M) (T := T_M) (N := 12) hx hb (us_M G hW) (fun _ h => h) hown hK hP 0 rfl rfl 4 (by decide) (fl_M_19 G hW) (fun _ h9 => h9) rfl d_M_remove_248 ?_
    refine lv_iload_n hx hb d_M_remove_251 rfl (lv_at hl 2 rfl) ?_
    refine lv_iload hx hb d_M_remove_252 (lv_at hl 0 rfl) ?_
    refine lv_if_eq (tgt := 268) hx hb d_M_remove_254 (by decide) (fun c_254 => absurd c_254 (c_236)) (fun c_254 => ?_)
    refine lv_aload_n hx hb d_M_remove_257 rfl (lv_at hl 1 rfl) ?_
    refine va_get (D := D) (ci := 4) (v := .ref a4) (C := R_M) (T := T_M) (N := 12) hx hb (us_M G hW) (fun _ h => h) hown hK hP 0 rfl rfl 4 (by decide) (fl_M_19 G hW) (fun _ h9 => h9) rfl d_M_remove_258 ?_
    refine lv_iload_n hx hb d_M_remove_261 rfl (lv_at hl 2 rfl) ?_
    refine ia_ld hx hb hK hP 4 (j := j) rfl (hj) (by decide) d_M_remove_262 ?_
    refine lv_iconst (v := (nI 1)) hx hb d_M_remove_263 (by decide) ?_
    refine lv_isub hx hb d_M_remove_264 ?_
    refine lv_goto (tgt := 274) hx hb d_M_remove_265 (by decide) ?_
    refine ia_st hx hb hK hP hD hS 4 (j := j) rfl (hj) (by decide) d_M_remove_274 (fun H locs hP hD hS => ?_)
    have hP : va_P D vcl [(hm, .inr (4, [.int (nI 0), .ref a1, .ref a2, .ref a3, .ref a4, .ref a5, .ref a6, .ref a7, .ref a8, .ref a9, .ref a10, .ref a11])), (a1, aN cI 4 ki), (a2, aN cI 4 ka), (a3, aN cI 4 kb), (a4, aI cI 4 (upd zs j ((zs j) - (nI 1)))), (a5, aI cI 4 pu), (a6, aN cI 4096 (if (allN (fitS (vw ce (1024 * j)) (fpr A x pl B) B) B) then (stO 1024 ce (1024 * j) (subC (vw ce (1024 * j)) (fpr A x pl B) B)) else ce)), (a7, aN cI 1024 pa), (a8, aN cI 1024 tr), (a9, aI cI 256 so), (a10, aN cI 6 (fpr A x pl B)), (a11, aN cI 6 ot)] H := hP
    have hD : va_D (Aa [hm, a1, a2, a3, a4, a5, a6, a7, a8, a9, a10, a11] H0.size) [(hm, .inr (4, [.int (nI 0), .ref a1, .ref a2, .ref a3, .ref a4, .ref a5, .ref a6, .ref a7, .ref a8, .ref a9, .ref a10, .ref a11])), (a1, aN cI 4 ki), (a2, aN cI 4 ka), (a3, aN cI 4 kb), (a4, aI cI 4 (upd zs j ((zs j) - (nI 1)))), (a5, aI cI 4 pu), (a6, aN cI 4096 (if (allN (fitS (vw ce (1024 * j)) (fpr A x pl B) B) B) then (stO 1024 ce (1024 * j) (subC (vw ce (1024 * j)) (fpr A x pl B) B)) else ce)), (a7, aN cI 1024 pa), (a8, aN cI 1024 tr), (a9, aI cI 256 so), (a10, aN cI 6 (fpr A x pl B)), (a11, aN cI 6 ot)] := hD
    refine lv_iload hx hb d_M_remove_275 (lv_at hl 0 rfl) ?_
    refine lv_if_eq (tgt := 289) hx hb d_M_remove_277 (by decide) (fun c_277 => absurd c_277 (c_236)) (fun c_277 => ?_)
    refine lv_aload_n hx hb d_M_remove_280 rfl (lv_at hl 1 rfl) ?_
    refine va_get (D := D) (ci := 4) (v := .ref a4) (C := R_M) (T := T_M) (N := 12) hx hb (us_M G hW) (fun _ h => h) hown hK hP 0 rfl rfl 4 (by decide) (fl_M_19 G hW) (fun _ h9 => h9) rfl d_M_remove_281 ?_
    refine lv_iload_n hx hb d_M_remove_284 rfl (lv_at hl 2 rfl) ?_
    refine ia_ld hx hb hK hP 4 (j := j) rfl (hj) (by decide) d_M_remove_285 ?_
    refine tp_i (y := (remS (S j) x).2.2.2.2.1) (by rw [hSj, remS_1, hft, upd_eq, p4]; rfl) ?_
    refine lv_goto (tgt := 290) hx hb d_M_remove_286 (by decide) ?_
    exact mx_iret hx hb hr hlk d_M_remove_290 (Nat.le_of_ble_eq_true rfl) (Nat.le_of_ble_eq_true rfl) hS.2.2 (⟨by rw [hSj, remS_1, hft]; rfl, by rw [fitS_m hq.2.1 p5, hft] at hP; rw [show (nI (if (remS (S j) x).1 then 0 else 3)) = nI 0 by rw [hSj, remS_1, hft]; rfl]; exact ⟨ki, ka, kb, _, pu, stO 1024 ce (1024 * j) (subC (vw ce (1024 * j)) (fpr A x pl B) B), pa, tr, so, _, ot, hP, pics_up hpic hok (by rw [hSj, remS_1, hft]; exact PicM.k1 p1 p2 p3 (by rw [upd_eq, p4]; rfl) (fun q h9 => by rw [vw_stO h9, subC_fpr]; exact subC_agr p5 q h9) p6) id_off id_off id_off upd_off id_off offC idP⟩⟩)

set_option maxHeartbeats 4000000 in
set_option maxRecDepth 100000 in
theorem c_M_remove_2 {l : Launch} {s0 : State} {D : va_G} {cI cF cJ : ClassId} (G : Gx l s0 D cI cF cJ) (hm a1 a2 a3 a4 a5 a6 a7 a8 a9 a10 a11 : Nat) (th : Int32) (S : Nat → FS) (j A B n : Nat) (hd pv : Int32) (cs f : Nat → Nat) (x : Int64) {H0 : Heap} {A0 : Nat → Prop} (hM : MP D cI hm a1 a2 a3 a4 a5 a6 a7 a8 a9 a10 a11 th S H0) (hD : va_D A0 (adM hm a1 a2 a3 a4 a5 a6 a7 a8 a9 a10 a11)) (hok : ∀ i, i < 4 → okS (S i)) (hj : j < 4) (hSj : S j = (2, A, B, hd, pv, cs, n, f)) : Mx l s0 y_M_remove (.code y_M_remove b_M_remove 8 (some .int)) { frames := 7, cells := 0, slots := 0, locals := 170 } [.ref hm, .int (nI j), .long x] H0 (Aa [hm, a1, a2, a3, a4, a5, a6, a7, a8, a9, a10, a11] H0.size) (Rw (.int (if (remS (S j) x).1 then (remS (S j) x).2.2.2.2.1 else nI 0)) (fun H1 => MP D cI hm a1 a2 a3 a4 a5 a6 a7 a8 a9 a10 a11 (nI (if (remS (S j) x).1 then 0 else 3)) (va_up S j (remS (S j) x).2) H1)) := by
  refine Mx.ofW (own := "FewBitsModel") rfl rfl ?_
  rintro p e s m below meth c ⟨hx, hb, hml, hr, hown, hW, hlk⟩ hnm het hH
  have hK := G.k hW
  have hD0 := hD
  obtain ⟨ki, ka, kb, zs, pu, ce, pa, tr, so, pl, ot, hP, hpic⟩ := hM
  have hD : va_D (Aa [hm, a1, a2, a3, a4, a5, a6, a7, a8, a9, a10, a11] H0.size) [(hm, .inr (4, [.int th, .ref a1, .ref a2, .ref a3, .ref a4, .ref a5, .ref a6, .ref a7, .ref a8, .ref a9, .ref a10, .ref a11])), (a1, aN cI 4 ki), (a2, aN cI 4 ka), (a3, aN cI 4 kb), (a4, aI cI 4 zs), (a5, aI cI 4 pu), (a6, aN cI 4096 ce), (a7, aN cI 1024 pa), (a8, aN cI 1024 tr), (a9, aI cI 256 so), (a10, aN cI 6 pl), (a11, aN cI 6 ot)] := va_D.same2 [hm, a1, a2, a3, a4, a5, a6, a7, a8, a9, a10, a11] (hD.aa (sz := H0.size)) rfl rfl
  have hS : va_S (Aa [hm, a1, a2, a3, a4, a5, a6, a7, a8, a9, a10, a11] H0.size) H0 H0 [] := va_S.rf
  have hpj := hpic j hj
  rw [hSj] at hpj
  obtain ⟨p1, p2, p3, p4, p5, p7, p6⟩ := hpj.f2
  have hoj := hok j hj
  rw [hSj] at hoj
  have hq := okS_2.mp hoj
  have h0 : (S j).1 ≠ 0 := by rw [hSj]; exact (by decide : 2 ≠ 0)
  have hA : A ≤ 8 := hq.2.1
  have hB4 : 4 ≤ B := hq.2.2.1
  have hB : B ≤ 16 := hq.2.2.2.1
  have hs := hq.ce p5
  have h8 := p2_le hA
  have hl := lv_entry ([.ref hm, .int (nI j), .long x]) (n := 8) (Nat.le_of_ble_eq_true rfl)
  rw [lg_entry_eq]
  generalize (lg_sl ([.ref hm, .int (nI j), .long x]) ++ List.replicate (8 - (lg_sl ([.ref hm, .int (nI j), .long x])).length) Slot.unset).toArray = ls at hl ⊢
  have hl : lv_has ls 8 [(0, .ref hm), (1, .int (nI j)), (2, .long x)] := hl
  refine lv_aload_n hx hb d_M_remove_0 rfl (lv_at hl 0 rfl) ?_
  refine lv_aload_n hx hb d_M_remove_1 rfl (lv_at hl 0 rfl) ?_
  refine lv_iload_n hx hb d_M_remove_2 rfl (lv_at hl 1 rfl) ?_
  refine mx_callR (r := .int (nI (if (S j).1 = 0 then 2 else 0))) (c_M_wrg G hm a1 a2 a3 a4 a5 a6 a7 a8 a9 a10 a11 th S j ⟨ki, ka, kb, zs, pu, ce, pa, tr, so, pl, ot, hP, hpic⟩ hD0 hok hj) hW (iv_M_remove_3 G hx hb hown hW (va_recv hK hP (ci := 4) (q0 := 0) rfl rfl) [.int (nI j)] [.ref hm] rfl) hml hl.1 (by rw [hb]; exact d_M_remove_3) (cd_M_wrong G hW) ⟨Nat.le_of_ble_eq_true rfl, Nat.le_of_ble_eq_true rfl⟩ rfl rfl (Nat.le_of_ble_eq_true rfl) (Nat.le_of_ble_eq_true rfl) (Nat.le_of_ble_eq_true rfl) ?_
  refine tp_i (y := (nI 0)) (by rw [if_neg h0]) ?_
  refine va_put (D := D) (ci := 4) (v := .int (nI 0)) (ty := .int) (C := R_M) (T := T_M) (N := 12) hx hb (us_M G hW) (fun _ h => h) t_M to_M nm_M hown hK hP hD hS 0 rfl rfl 0 (by decide) (fl_M_43 G hW) (fun _ h9 => h9) rfl (by decide +kernel) rfl rfl (Nat.le_of_ble_eq_true rfl) d_M_remove_6 (fun H locs hP hD hS => ?_)
  have hP : va_P D vcl [(hm, .inr (4, [.int (nI 0), .ref a1, .ref a2, .ref a3, .ref a4, .ref a5, .ref a6, .ref a7, .ref a8, .ref a9, .ref a10, .ref a11])), (a1, aN cI 4 ki), (a2, aN cI 4 ka), (a3, aN cI 4 kb), (a4, aI cI 4 zs), (a5, aI cI 4 pu), (a6, aN cI 4096 ce), (a7, aN cI 1024 pa), (a8, aN cI 1024 tr), (a9, aI cI 256 so), (a10, aN cI 6 pl), (a11, aN cI 6 ot)] H := hP
  have hD : va_D (Aa [hm, a1, a2, a3, a4, a5, a6, a7, a8, a9, a10, a11] H0.size) [(hm, .inr (4, [.int (nI 0), .ref a1, .ref a2, .ref a3, .ref a4, .ref a5, .ref a6, .ref a7, .ref a8, .ref a9, .ref a10, .ref a11])), (a1, aN cI 4 ki), (a2, aN cI 4 ka), (a3, aN cI 4 kb), (a4, aI cI 4 zs), (a5, aI cI 4 pu), (a6, aN cI 4096 ce), (a7, aN cI 1024 pa), (a8, aN cI 1024 tr), (a9, aI cI 256 so), (a10, aN cI 6 pl), (a11, aN cI 6 ot)] := hD
  refine lv_aload_n hx hb d_M_remove_9 rfl (lv_at hl 0 rfl) ?_
  refine va_get (D := D) (ci := 4) (v := .int (nI 0)) (C := R_M) (T := T_M) (N := 12) hx hb (us_M G hW) (fun _ h => h) hown hK hP 0 rfl rfl 0 (by decide) (fl_M_43 G hW) (fun _ h9 => h9) rfl d_M_remove_10 ?_
  refine lv_if_le (tgt := 18) hx hb d_M_remove_13 (by decide) (fun c_13 => ?_) (fun c_13 => absurd (by decide) c_13)
  refine lv_iconst (v := (nI 0)) hx hb d_M_remove_18 (by decide) ?_
  refine lv_istore (lv' := [(4, .int (nI 0)), (0, .ref hm), (1, .int (nI j)), (2, .long x)]) hx hb d_M_remove_19 hl (by decide) rfl (fun ls hl => ?_)
  refine lv_aload_n hx hb d_M_remove_21 rfl (lv_at hl 1 rfl) ?_
  refine va_get (D := D) (ci := 4) (v := .ref a1) (C := R_M) (T := T_M) (N := 12) hx hb (us_M G hW) (fun _ h => h) hown hK hP 0 rfl rfl 1 (by decide) (fl_M_7 G hW) (fun _ h9 => h9) rfl d_M_remove_22 ?_
  refine lv_iload_n hx hb d_M_remove_25 rfl (lv_at hl 2 rfl) ?_
  refine ia_ld hx hb hK hP 1 (j := j) rfl (hj) (by decide) d_M_remove_26 ?_
  refine tp_i (y := (nI (ki j))) rfl ?_
  refine tp_i (y := (nI 2)) (by rw [p1]) ?_
  refine lv_iconst (v := (nI 1)) hx hb d_M_remove_27 (by decide) ?_
  refine lv_icmp_ne (tgt := 43) hx hb d_M_remove_28 (by decide) (fun c_28 => ?_) (fun c_28 => absurd c_28 (by decide))
  refine lv_aload_n hx hb d_M_remove_43 rfl (lv_at hl 1 rfl) ?_
  refine va_get (D := D) (ci := 4) (v := .ref a1) (C := R_M) (T := T_M) (N := 12) hx hb (us_M G hW) (fun _ h => h) hown hK hP 0 rfl rfl 1 (by decide) (fl_M_7 G hW) (fun _ h9 => h9) rfl d_M_remove_44 ?_
  refine lv_iload_n hx hb d_M_remove_47 rfl (lv_at hl 2 rfl) ?_
  refine ia_ld hx hb hK hP 1 (j := j) rfl (hj) (by decide) d_M_remove_48 ?_
  refine tp_i (y := (nI (ki j))) rfl ?_
  refine tp_i (y := (nI 2)) (by rw [p1]) ?_
  refine lv_iconst (v := (nI 2)) hx hb d_M_remove_49 (by decide) ?_
  refine lv_icmp_ne (tgt := 152) hx hb d_M_remove_50 (by decide) (fun c_50 => absurd (rfl) c_50) (fun c_50 => ?_)
  refine lv_aload_n hx hb d_M_remove_53 rfl (lv_at hl 1 rfl) ?_
  refine lv_iload_n hx hb d_M_remove_54 rfl (lv_at hl 2 rfl) ?_
  refine lv_lload_n hx hb d_M_remove_55 rfl (lv_at hl 3 rfl) ?_
  refine mx_callR (r := .int (nI (fpN B x))) (c_M_fingerprint G hm a1 a2 a3 a4 a5 a6 a7 a8 a9 a10 a11 (nI 0) ki ka kb zs pu ce pa tr so pl ot j A B x hP hj p2 p3 hB4 hB) hW (iv_M_remove_56 G hx hb hown hW (va_recv hK hP (ci := 4) (q0 := 0) rfl rfl) [.int (nI j), .long x] [] rfl) hml hl.1 (by rw [hb]; exact d_M_remove_56) (cd_M_fingerprint G hW) ⟨Nat.le_of_ble_eq_true rfl, Nat.le_of_ble_eq_true rfl⟩ rfl rfl (Nat.le_of_ble_eq_true rfl) (Nat.le_of_ble_eq_true rfl) (Nat.le_of_ble_eq_true rfl) ?_
  refine lv_istore (lv' := [(5, .int (nI (fpN B x))), (4, .int (nI 0)), (0, .ref hm), (1, .int (nI j)), (2, .long x)]) hx hb d_M_remove_59 hl (by decide) rfl (fun ls hl => ?_)
  refine lv_aload_n hx hb d_M_remove_61 rfl (lv_at hl 2 rfl) ?_
  refine lv_iload_n hx hb d_M_remove_62 rfl (lv_at hl 3 rfl) ?_
  refine lv_lload_n hx hb d_M_remove_63 rfl (lv_at hl 4 rfl) ?_
  refine mx_callR (r := .int (nI (fbN A x))) (c_M_firstBucket G hm a1 a2 a3 a4 a5 a6 a7 a8 a9 a10 a11 (nI 0) ki ka kb zs pu ce pa tr so pl ot j A B x hP hj p2 p3 (by omega)) hW (iv_M_remove_64 G hx hb hown hW (va_recv hK hP (ci := 4) (q0 := 0) rfl rfl) [.int (nI j), .long x] [] rfl) hml hl.1 (by rw [hb]; exact d_M_remove_64) (cd_M_firstBucket G hW) ⟨Nat.le_of_ble_eq_true rfl, Nat.le_of_ble_eq_true rfl⟩ rfl rfl (Nat.le_of_ble_eq_true rfl) (Nat.le_of_ble_eq_true rfl) (Nat.le_of_ble_eq_true rfl) ?_
  refine lv_istore (lv' := [(6, .int (nI (fbN A x))), (5, .int (nI (fpN B x))), (4, .int (nI 0)), (0, .ref hm), (1, .int (nI j)), (2, .long x)]) hx hb d_M_remove_67 hl (by decide) rfl (fun ls hl => ?_)
  refine lv_aload_n hx hb d_M_remove_69 rfl (lv_at hl 3 rfl) ?_
  refine lv_aload_n hx hb d_M_remove_70 rfl (lv_at hl 3 rfl) ?_
  refine va_get (D := D) (ci := 4) (v := .ref a6) (C := R_M) (T := T_M) (N := 12) hx hb (us_M G hW) (fun _ h => h) hown hK hP 0 rfl rfl 6 (by decide) (fl_M_25 G hW) (fun _ h9 => h9) rfl d_M_remove_71 ?_
  refine lv_sipush (v := (nI 1024)) hx hb d_M_remove_74 (by decide) ?_
  refine lv_iload_n hx hb d_M_remove_77 rfl (lv_at hl 4 rfl) ?_
  refine lv_imul hx hb d_M_remove_78 ?_
  refine tp_i (y := (nI (1024 * j))) (pk_mul _ _) ?_
  refine lv_iload hx hb d_M_remove_79 (lv_at hl 0 rfl) ?_
  refine lv_iload hx hb d_M_remove_81 (lv_at hl 1 rfl) ?_
  refine mx_callR (r := .int (oI (fnd ce (fpN B x) ((1024 * j) + 4 * (fbN A x)) 4))) (c_M_slotWith_6 G hm a1 a2 a3 a4 a5 a6 a7 a8 a9 a10 a11 (nI 0) ki ka kb zs pu ce pa tr so pl ot j (fbN A x) (fpN B x) hP hj (by have := fbN_lt A x; omega) (fpN_lt hB4 hB x) (fun q hq9 => by rw [Nat.add_assoc]; exact hs (4 * (fbN A x) + q) (by have := fbN_lt A x; have := obN_lt (fbN_lt A x) (fpN B x); omega))) hW (iv_M_remove_83 G hx hb hown hW (va_recv hK hP (ci := 4) (q0 := 0) rfl rfl) [.ref a6, .int (nI (1024 * j)), .int (nI (fbN A x)), .int (nI (fpN B x))] [] rfl) hml hl.1 (by rw [hb]; exact d_M_remove_83) (cd_M_slotWith G hW) ⟨Nat.le_of_ble_eq_true rfl, Nat.le_of_ble_eq_true rfl⟩ rfl rfl (Nat.le_of_ble_eq_true rfl) (Nat.le_of_ble_eq_true rfl) (Nat.le_of_ble_eq_true rfl) ?_
  refine lv_istore (lv' := [(7, .int (oI (fnd ce (fpN B x) ((1024 * j) + 4 * (fbN A x)) 4))), (6, .int (nI (fbN A x))), (5, .int (nI (fpN B x))), (4, .int (nI 0)), (0, .ref hm), (1, .int (nI j)), (2, .long x)]) hx hb d_M_remove_86 hl (by decide) rfl (fun ls hl => ?_)
  refine lv_iload hx hb d_M_remove_88 (lv_at hl 0 rfl) ?_
  refine lv_if_lt (tgt := 98) hx hb d_M_remove_90 (by decide) (fun c_90 => ?_) (fun c_90 => ?_)
  · have hn1 : fnd (vw ce (1024 * j)) (fpN B x) (4 * (fbN A x)) 4 = none := by have h9 := (oI_lt (fun q hq9 => by have := fnd_in hq9; have := fbN_lt A x; have := obN_lt (fbN_lt A x) (fpN B x); omega)).mp c_90; rw [fnd_vw] at h9; exact map_none h9
    refine lv_aload_n hx hb d_M_remove_98 rfl (lv_at hl 4 rfl) ?_
    refine lv_aload_n hx hb d_M_remove_99 rfl (lv_at hl 4 rfl) ?_
    refine va_get (D := D) (ci := 4) (v := .ref a6) (C := R_M) (T := T_M) (N := 12) hx hb (us_M G hW) (fun _ h => h) hown hK hP 0 rfl rfl 6 (by decide) (fl_M_25 G hW) (fun _ h9 => h9) rfl d_M_remove_100 ?_
    refine lv_sipush (v := (nI 1024)) hx hb d_M_remove_103 (by decide) ?_
    refine lv_iload_n hx hb d_M_remove_106 rfl (lv_at hl 5 rfl) ?_
    refine lv_imul hx hb d_M_remove_107 ?_
    refine tp_i (y := (nI (1024 * j))) (pk_mul _ _) ?_
    refine lv_aload_n hx hb d_M_remove_108 rfl (lv_at hl 4 rfl) ?_
    refine lv_iload_n hx hb d_M_remove_109 rfl (lv_at hl 5 rfl) ?_
    refine lv_iload hx hb d_M_remove_110 (lv_at hl 2 rfl) ?_
    refine lv_iload hx hb d_M_remove_112 (lv_at hl 1 rfl) ?_
    refine mx_callR (r := .int (nI (obN A (fbN A x) (fpN B x)))) (c_M_otherBucket G hm a1 a2 a3 a4 a5 a6 a7 a8 a9 a10 a11 (nI 0) ki ka kb zs pu ce pa tr so pl ot j A B (fbN A x) (fpN B x) hP hj p2 p3 (by omega)) hW (iv_M_remove_114 G hx hb hown hW (va_recv hK hP (ci := 4) (q0 := 0) rfl rfl) [.int (nI j), .int (nI (fpN B x)), .int (nI (fbN A x))] [.int (nI (1024 * j)), .ref a6, .ref hm] rfl) hml hl.1 (by rw [hb]; exact d_M_remove_114) (cd_M_otherBucket G hW) ⟨Nat.le_of_ble_eq_true rfl, Nat.le_of_ble_eq_true rfl⟩ rfl rfl (Nat.le_of_ble_eq_true rfl) (Nat.le_of_ble_eq_true rfl) (Nat.le_of_ble_eq_true rfl) ?_
    refine lv_iload hx hb d_M_remove_117 (lv_at hl 2 rfl) ?_
    refine mx_callR (r := .int (oI (fnd ce (fpN B x) ((1024 * j) + 4 * (obN A (fbN A x) (fpN B x))) 4))) (c_M_slotWith_6 G hm a1 a2 a3 a4 a5 a6 a7 a8 a9 a10 a11 (nI 0) ki ka kb zs pu ce pa tr so pl ot j (obN A (fbN A x) (fpN B x)) (fpN B x) hP hj (by have := obN_lt (fbN_lt A x) (fpN B x); omega) (fpN_lt hB4 hB x) (fun q hq9 => by rw [Nat.add_assoc]; exact hs (4 * (obN A (fbN A x) (fpN B x)) + q) (by have := fbN_lt A x; have := obN_lt (fbN_lt A x) (fpN B x); omega))) hW (iv_M_remove_119 G hx hb hown hW (va_recv hK hP (ci := 4) (q0 := 0) rfl rfl) [.ref a6, .int (nI (1024 * j)), .int (nI (obN A (fbN A x) (fpN B x))), .int (nI (fpN B x))] [] rfl) hml hl.1 (by rw [hb]; exact d_M_remove_119) (cd_M_slotWith G hW) ⟨Nat.le_of_ble_eq_true rfl, Nat.le_of_ble_eq_true rfl⟩ rfl rfl (Nat.le_of_ble_eq_true rfl) (Nat.le_of_ble_eq_true rfl) (Nat.le_of_ble_eq_true rfl) ?_
    refine lv_istore (lv' := [(7, .int (oI (fnd ce (fpN B x) ((1024 * j) + 4 * (obN A (fbN A x) (fpN B x))) 4))), (6, .int (nI (fbN A x))), (5, .int (nI (fpN B x))), (4, .int (nI 0)), (0, .ref hm), (1, .int (nI j)), (2, .long x)]) hx hb d_M_remove_122 hl (by decide) rfl (fun ls hl => ?_)
    refine lv_iload hx hb d_M_remove_124 (lv_at hl 0 rfl) ?_
    refine lv_if_lt (tgt := 133) hx hb d_M_remove_126 (by decide) (fun c_126 => ?_) (fun c_126 => ?_)
    · have hft : (slotB A B x cs).isSome = false := by have h9 := (oI_lt (fun q hq9 => by have := fnd_in hq9; have := fbN_lt A x; have := obN_lt (fbN_lt A x) (fpN B x); omega)).mp c_126; rw [fnd_vw] at h9; rw [← slotB_agr hA p5, slotB_2 hn1, map_none h9]; rfl
      have htk : tkB A B x cs = cs := tkB_n (sm_f hft)
      refine lv_iconst (v := (bI false)) hx hb d_M_remove_133 (by decide) ?_
      refine lv_istore (lv' := [(4, .int (bI false)), (7, .int (oI (fnd ce (fpN B x) ((1024 * j) + 4 * (obN A (fbN A x) (fpN B x))) 4))), (6, .int (nI (fbN A x))), (5, .int (nI (fpN B x))), (0, .ref hm), (1, .int (nI j)), (2, .long x)]) hx hb d_M_remove_134 hl (by decide) rfl (fun ls hl => ?_)
      refine lv_iload hx hb d_M_remove_136 (lv_at hl 0 rfl) ?_
      refine lv_if_eq (tgt := 149) hx hb d_M_remove_138 (by decide) (fun c_138 => ?_) (fun c_138 => absurd (by decide) c_138)
      refine lv_goto (tgt := 233) hx hb d_M_remove_149 (by decide) ?_
      refine lv_aload_n hx hb d_M_remove_233 rfl (lv_at hl 4 rfl) ?_
      refine lv_iload hx hb d_M_remove_234 (lv_at hl 0 rfl) ?_
      refine lv_if_eq (tgt := 243) hx hb d_M_remove_236 (by decide) (fun c_236 => ?_) (fun c_236 => absurd (by decide) c_236)
      refine lv_iconst (v := (nI 3)) hx hb d_M_remove_243 (by decide) ?_
      refine va_put (D := D) (ci := 4) (v := .int (nI 3)) (ty := .int) (C := R_M) (T := T_M) (N := 12) hx hb (us_M G hW) (fun _ h => h) t_M to_M nm_M hown hK hP hD hS 0 rfl rfl 0 (by decide) (fl_M_43 G hW) (fun _ h9 => h9) rfl (by decide +kernel) rfl rfl (Nat.le_of_ble_eq_true rfl) d_M_remove_244 (fun H locs hP hD hS => ?_)
      have hP : va_P D vcl [(hm, .inr (4, [.int (nI 3), .ref a1, .ref a2, .ref a3, .ref a4, .ref a5, .ref a6, .ref a7, .ref a8, .ref a9, .ref a10, .ref a11])), (a1, aN cI 4 ki), (a2, aN cI 4 ka), (a3, aN cI 4 kb), (a4, aI cI 4 zs), (a5, aI cI 4 pu), (a6, aN cI 4096 ce), (a7, aN cI 1024 pa), (a8, aN cI 1024 tr), (a9, aI cI 256 so), (a10, aN cI 6 pl), (a11, aN cI 6 ot)] H := hP
      have hD : va_D (Aa [hm, a1, a2, a3, a4, a5, a6, a7, a8, a9, a10, a11] H0.size) [(hm, .inr (4, [.int (nI 3), .ref a1, .ref a2, .ref a3, .ref a4, .ref a5, .ref a6, .ref a7, .ref a8, .ref a9, .ref a10, .ref a11])), (a1, aN cI 4 ki), (a2, aN cI 4 ka), (a3, aN cI 4 kb), (a4, aI cI 4 zs), (a5, aI cI 4 pu), (a6, aN cI 4096 ce), (a7, aN cI 1024 pa), (a8, aN cI 1024 tr), (a9, aI cI 256 so), (a10, aN cI 6 pl), (a11, aN cI 6 ot)] := hD
      refine lv_aload_n hx hb d_M_remove_247 rfl (lv_at hl 4 rfl) ?_
      refine va_get (D := D) (ci := 4) (v := .ref a4) (C := R_M) (T := T_M) (N := 12) hx hb (us_M G hW) (fun _ h => h) hown hK hP 0 rfl rfl 4 (by decide) (fl_M_19 G hW) (fun _ h9 => h9) rfl d_M_remove_248 ?_
      refine lv_iload_n hx hb d_M_remove_251 rfl (lv_at hl 5 rfl) ?_
      refine lv_iload hx hb d_M_remove_252 (lv_at hl 0 rfl) ?_
      refine lv_if_eq (tgt := 268) hx hb d_M_remove_254 (by decide) (fun c_254 => ?_) (fun c_254 => absurd (by decide) c_254)
      refine lv_aload_n hx hb d_M_remove_268 rfl (lv_at hl 4 rfl) ?_
      refine va_get (D := D) (ci := 4) (v := .ref a4) (C := R_M) (T := T_M) (N := 12) hx hb (us_M G hW) (fun _ h => h) hown hK hP 0 rfl rfl 4 (by decide) (fl_M_19 G hW) (fun _ h9 => h9) rfl d_M_remove_269 ?_
      refine lv_iload_n hx hb d_M_remove_272 rfl (lv_at hl 5 rfl) ?_
      refine ia_ld hx hb hK hP 4 (j := j) rfl (hj) (by decide) d_M_remove_273 ?_
      refine ia_st hx hb hK hP hD hS 4 (j := j) rfl (hj) (by decide) d_M_remove_274 (fun H locs hP hD hS => ?_)
      have hP : va_P D vcl [(hm, .inr (4, [.int (nI 3), .ref a1, .ref a2, .ref a3, .ref a4, .ref a5, .ref a6, .ref a7, .ref a8, .ref a9, .ref a10, .ref a11])), (a1, aN cI 4 ki), (a2, aN cI 4 ka), (a3, aN cI 4 kb), (a4, aI cI 4 (upd zs j (zs j))), (a5, aI cI 4 pu), (a6, aN cI 4096 ce), (a7, aN cI 1024 pa), (a8, aN cI 1024 tr), (a9, aI cI 256 so), (a10, aN cI 6 pl), (a11, aN cI 6 ot)] H := hP
      have hD : va_D (Aa [hm, a1, a2, a3, a4, a5, a6, a7, a8, a9, a10, a11] H0.size) [(hm, .inr (4, [.int (nI 3), .ref a1, .ref a2, .ref a3, .ref a4, .ref a5, .ref a6, .ref a7, .ref a8, .ref a9, .ref a10, .ref a11])), (a1, aN cI 4 ki), (a2, aN cI 4 ka), (a3, aN cI 4 kb), (a4, aI cI 4 (upd zs j (zs j))), (a5, aI cI 4 pu), (a6, aN cI 4096 ce), (a7, aN cI 1024 pa), (a8, aN cI 1024 tr), (a9, aI cI 256 so), (a10, aN cI 6 pl), (a11, aN cI 6 ot)] := hD
      refine lv_iload hx hb d_M_remove_275 (lv_at hl 0 rfl) ?_
      refine lv_if_eq (tgt := 289) hx hb d_M_remove_277 (by decide) (fun c_277 => ?_) (fun c_277 => absurd (by decide) c_277)
      refine lv_iconst (v := (nI 0)) hx hb d_M_remove_289 (by decide) ?_
      exact mx_iret hx hb hr hlk d_M_remove_290 (Nat.le_of_ble_eq_true rfl) (Nat.le_of_ble_eq_true rfl) hS.2.2 (⟨by rw [hSj, remS_2, hft]; rfl, by rw [show (nI (if (remS (S j) x).1 then 0 else 3)) = nI 3 by rw [hSj, remS_2, hft]; rfl]; exact ⟨ki, ka, kb, _, pu, ce, pa, tr, so, pl, ot, hP, pics_up hpic hok (by rw [hSj, remS_2, hft, htk]; exact PicM.k2 p1 p2 p3 (by rw [upd_eq, p4]; rfl) p5 p7 p6) id_off id_off id_off upd_off id_off idC idP⟩⟩)
    · obtain ⟨jj, hjj⟩ : ∃ jj, fnd (vw ce (1024 * j)) (fpN B x) (4 * (obN A (fbN A x) (fpN B x))) 4 = some jj := by cases e9 : fnd ce (fpN B x) ((1024 * j) + 4 * (obN A (fbN A x) (fpN B x))) 4 with | none => exact absurd ((oI_lt (fun q hq9 => by have := fnd_in hq9; have := fbN_lt A x; have := obN_lt (fbN_lt A x) (fpN B x); omega)).mpr e9) c_126 | some q => (rw [fnd_vw] at e9; obtain ⟨i, hi, -⟩ := map_some e9; exact ⟨i, hi⟩)
      have hj2 := fnd_in hjj
      have hb1 := fbN_lt A x
      have hb2 := obN_lt (fbN_lt A x) (fpN B x)
      have hfj : fnd ce (fpN B x) ((1024 * j) + 4 * (obN A (fbN A x) (fpN B x))) 4 = some ((1024 * j) + jj) := by rw [fnd_vw, hjj]; rfl
      rw [hfj] at hl
      have hsl : slotB A B x (vw ce (1024 * j)) = some jj := by rw [slotB_2 hn1]; exact hjj
      have hft : (slotB A B x cs).isSome = true := by rw [← slotB_agr hA p5, hsl]; rfl
      have hl : lv_has ls 8 [(7, .int (nI ((1024 * j) + jj))), (6, .int (nI (fbN A x))), (5, .int (nI (fpN B x))), (4, .int (nI 0)), (0, .ref hm), (1, .int (nI j)), (2, .long x)] := hl
      refine lv_iconst (v := (bI true)) hx hb d_M_remove_129 (by decide) ?_
      refine lv_goto (tgt := 134) hx hb d_M_remove_130 (by decide) ?_
      refine lv_istore (lv' := [(4, .int (bI true)), (7, .int (nI ((1024 * j) + jj))), (6, .int (nI (fbN A x))), (5, .int (nI (fpN B x))), (0, .ref hm), (1, .int (nI j)), (2, .long x)]) hx hb d_M_remove_134 hl (by decide) rfl (fun ls hl => ?_)
      refine lv_iload hx hb d_M_remove_136 (lv_at hl 0 rfl) ?_
      refine lv_if_eq (tgt := 149) hx hb d_M_remove_138 (by decide) (fun c_138 => absurd c_138 (by decide)) (fun c_138 => ?_)
      refine lv_aload_n hx hb d_M_remove_141 rfl (lv_at hl 4 rfl) ?_
      refine va_get (D := D) (ci := 4) (v := .ref a6) (C := R_M) (T := T_M) (N := 12) hx hb (us_M G hW) (fun _ h => h) hown hK hP 0 rfl rfl 6 (by decide) (fl_M_25 G hW) (fun _ h9 => h9) rfl d_M_remove_142 ?_
      refine lv_iload hx hb d_M_remove_145 (lv_at hl 1 rfl) ?_
      refine lv_iconst (v := (nI 0)) hx hb d_M_remove_147 (by decide) ?_
      refine ia_stN hx hb hK hP hD hS 6 (j := ((1024 * j) + jj)) (x := 0) (f := ce) rfl (by omega) (by decide) d_M_remove_148 (fun H locs hP hD hS => ?_)
      have hP : va_P D vcl [(hm, .inr (4, [.int (nI 0), .ref a1, .ref a2, .ref a3, .ref a4, .ref a5, .ref a6, .ref a7, .ref a8, .ref a9, .ref a10, .ref a11])), (a1, aN cI 4 ki), (a2, aN cI 4 ka), (a3, aN cI 4 kb), (a4, aI cI 4 zs), (a5, aI cI 4 pu), (a6, aN cI 4096 (va_up ce ((1024 * j) + jj) 0)), (a7, aN cI 1024 pa), (a8, aN cI 1024 tr), (a9, aI cI 256 so), (a10, aN cI 6 pl), (a11, aN cI 6 ot)] H := hP
      have hD : va_D (Aa [hm, a1, a2, a3, a4, a5, a6, a7, a8, a9, a10, a11] H0.size) [(hm, .inr (4, [.int (nI 0), .ref a1, .ref a2, .ref a3, .ref a4, .ref a5, .ref a6, .ref a7, .ref a8, .ref a9, .ref a10, .ref a11])), (a1, aN cI 4 ki), (a2, aN cI 4 ka), (a3, aN cI 4 kb), (a4, aI cI 4 zs), (a5, aI cI 4 pu), (a6, aN cI 4096 (va_up ce ((1024 * j) + jj) 0)), (a7, aN cI 1024 pa), (a8, aN cI 1024 tr), (a9, aI cI 256 so), (a10, aN cI 6 pl), (a11, aN cI 6 ot)] := hD
      refine lv_goto (tgt := 233) hx hb d_M_remove_149 (by decide) ?_
      refine lv_aload_n hx hb d_M_remove_233 rfl (lv_at hl 4 rfl) ?_
      refine lv_iload hx hb d_M_remove_234 (lv_at hl 0 rfl) ?_
      refine lv_if_eq (tgt := 243) hx hb d_M_remove_236 (by decide) (fun c_236 => absurd c_236 (by decide)) (fun c_236 => ?_)
      refine lv_iconst (v := (nI 0)) hx hb d_M_remove_239 (by decide) ?_
      refine lv_goto (tgt := 244) hx hb d_M_remove_240 (by decide) ?_
      refine va_put (D := D) (ci := 4) (v := .int (nI 0)) (ty := .int) (C := R_M) (T := T_M) (N := 12) hx hb (us_M G hW) (fun _ h => h) t_M to_M nm_M hown hK hP hD hS 0 rfl rfl 0 (by decide) (fl_M_43 G hW) (fun _ h9 => h9) rfl (by decide +kernel) rfl rfl (Nat.le_of_ble_eq_true rfl) d_M_remove_244 (fun H locs hP hD hS => ?_)
      have hP : va_P D vcl [(hm, .inr (4, [.int (nI 0), .ref a1, .ref a2, .ref a3, .ref a4, .ref a5, .ref a6, .ref a7, .ref a8, .ref a9, .ref a10, .ref a11])), (a1, aN cI 4 ki), (a2, aN cI 4 ka), (a3, aN cI 4 kb), (a4, aI cI 4 zs), (a5, aI cI 4 pu), (a6, aN cI 4096 (va_up ce ((1024 * j) + jj) 0)), (a7, aN cI 1024 pa), (a8, aN cI 1024 tr), (a9, aI cI 256 so), (a10, aN cI 6 pl), (a11, aN cI 6 ot)] H := hP
      have hD : va_D (Aa [hm, a1, a2, a3, a4, a5, a6, a7, a8, a9, a10, a11] H0.size) [(hm, .inr (4, [.int (nI 0), .ref a1, .ref a2, .ref a3, .ref a4, .ref a5, .ref a6, .ref a7, .ref a8, .ref a9, .ref a10, .ref a11])), (a1, aN cI 4 ki), (a2, aN cI 4 ka), (a3, aN cI 4 kb), (a4, aI cI 4 zs), (a5, aI cI 4 pu), (a6, aN cI 4096 (va_up ce ((1024 * j) + jj) 0)), (a7, aN cI 1024 pa), (a8, aN cI 1024 tr), (a9, aI cI 256 so), (a10, aN cI 6 pl), (a11, aN cI 6 ot)] := hD
      refine lv_aload_n hx hb d_M_remove_247 rfl (lv_at hl 4 rfl) ?_
      refine va_get (D := D) (ci := 4) (v := .ref a4) (C := R_M) (T := T_M) (N := 12) hx hb (us_M G hW) (fun _ h => h) hown hK hP 0 rfl rfl 4 (by decide) (fl_M_19 G hW) (fun _ h9 => h9) rfl d_M_remove_248 ?_
      refine lv_iload_n hx hb d_M_remove_251 rfl (lv_at hl 5 rfl) ?_
      refine lv_iload hx hb d_M_remove_252 (lv_at hl 0 rfl) ?_
      refine lv_if_eq (tgt := 268) hx hb d_M_remove_254 (by decide) (fun c_254 => absurd c_254 (by decide)) (fun c_254 => ?_)
      refine lv_aload_n hx hb d_M_remove_257 rfl (lv_at hl 4 rfl) ?_
      refine va_get (D := D) (ci := 4) (v := .ref a4) (C := R_M) (T := T_M) (N := 12) hx hb (us_M G hW) (fun _ h => h) hown hK hP 0 rfl rfl 4 (by decide) (fl_M_19 G hW) (fun _ h9 => h9) rfl d_M_remove_258 ?_
      refine lv_iload_n hx hb d_M_remove_261 rfl (lv_at hl 5 rfl) ?_
      refine ia_ld hx hb hK hP 4 (j := j) rfl (hj) (by decide) d_M_remove_262 ?_
      refine lv_iconst (v := (nI 1)) hx hb d_M_remove_263 (by decide) ?_
      refine lv_isub hx hb d_M_remove_264 ?_
      refine lv_goto (tgt := 274) hx hb d_M_remove_265 (by decide) ?_
      refine ia_st hx hb hK hP hD hS 4 (j := j) rfl (hj) (by decide) d_M_remove_274 (fun H locs hP hD hS => ?_)
      have hP : va_P D vcl [(hm, .inr (4, [.int (nI 0), .ref a1, .ref a2, .ref a3, .ref a4, .ref a5, .ref a6, .ref a7, .ref a8, .ref a9, .ref a10, .ref a11])), (a1, aN cI 4 ki), (a2, aN cI 4 ka), (a3, aN cI 4 kb), (a4, aI cI 4 (upd zs j ((zs j) - (nI 1)))), (a5, aI cI 4 pu), (a6, aN cI 4096 (va_up ce ((1024 * j) + jj) 0)), (a7, aN cI 1024 pa), (a8, aN cI 1024 tr), (a9, aI cI 256 so), (a10, aN cI 6 pl), (a11, aN cI 6 ot)] H := hP
      have hD : va_D (Aa [hm, a1, a2, a3, a4, a5, a6, a7, a8, a9, a10, a11] H0.size) [(hm, .inr (4, [.int (nI 0), .ref a1, .ref a2, .ref a3, .ref a4, .ref a5, .ref a6, .ref a7, .ref a8, .ref a9, .ref a10, .ref a11])), (a1, aN cI 4 ki), (a2, aN cI 4 ka), (a3, aN cI 4 kb), (a4, aI cI 4 (upd zs j ((zs j) - (nI 1)))), (a5, aI cI 4 pu), (a6, aN cI 4096 (va_up ce ((1024 * j) + jj) 0)), (a7, aN cI 1024 pa), (a8, aN cI 1024 tr), (a9, aI cI 256 so), (a10, aN cI 6 pl), (a11, aN cI 6 ot)] := hD
      refine lv_iload hx hb d_M_remove_275 (lv_at hl 0 rfl) ?_
      refine lv_if_eq (tgt := 289) hx hb d_M_remove_277 (by decide) (fun c_277 => absurd c_277 (by decide)) (fun c_277 => ?_)
      refine lv_aload_n hx hb d_M_remove_280 rfl (lv_at hl 4 rfl) ?_
      refine va_get (D := D) (ci := 4) (v := .ref a4) (C := R_M) (T := T_M) (N := 12) hx hb (us_M G hW) (fun _ h => h) hown hK hP 0 rfl rfl 4 (by decide) (fl_M_19 G hW) (fun _ h9 => h9) rfl d_M_remove_281 ?_
      refine lv_iload_n hx hb d_M_remove_284 rfl (lv_at hl 5 rfl) ?_
      refine ia_ld hx hb hK hP 4 (j := j) rfl (hj) (by decide) d_M_remove_285 ?_
      refine tp_i (y := (remS (S j) x).2.2.2.2.1) (by rw [hSj, remS_2, hft, upd_eq, p4]; rfl) ?_
      refine lv_goto (tgt := 290) hx hb d_M_remove_286 (by decide) ?_
      exact mx_iret hx hb hr hlk d_M_remove_290 (Nat.le_of_ble_eq_true rfl) (Nat.le_of_ble_eq_true rfl) hS.2.2 (⟨by rw [hSj, remS_2, hft]; rfl, by rw [show (nI (if (remS (S j) x).1 then 0 else 3)) = nI 0 by rw [hSj, remS_2, hft]; rfl]; exact ⟨ki, ka, kb, _, pu, (stO 1024 ce (1024 * j) (va_up (vw ce (1024 * j)) jj 0)), pa, tr, so, pl, ot, (by rw [← stO_up (show jj < 1024 by omega), stO_self]; exact hP), pics_up hpic hok (by rw [hSj, remS_2, hft]; exact PicM.k2 p1 p2 p3 (by rw [upd_eq, p4]; rfl) (fun q h9 => by rw [vw_stO h9, ← tkB_s hsl]; exact tkB_agr hA p5 q h9) p7 p6) id_off id_off id_off upd_off id_off offC idP⟩⟩)
  · obtain ⟨jj, hjj⟩ : ∃ jj, fnd (vw ce (1024 * j)) (fpN B x) (4 * (fbN A x)) 4 = some jj := by cases e9 : fnd ce (fpN B x) ((1024 * j) + 4 * (fbN A x)) 4 with | none => exact absurd ((oI_lt (fun q hq9 => by have := fnd_in hq9; have := fbN_lt A x; have := obN_lt (fbN_lt A x) (fpN B x); omega)).mpr e9) c_90 | some q => (rw [fnd_vw] at e9; obtain ⟨i, hi, -⟩ := map_some e9; exact ⟨i, hi⟩)
    have hj2 := fnd_in hjj
    have hb1 := fbN_lt A x
    have hb2 := obN_lt (fbN_lt A x) (fpN B x)
    have hfj : fnd ce (fpN B x) ((1024 * j) + 4 * (fbN A x)) 4 = some ((1024 * j) + jj) := by rw [fnd_vw, hjj]; rfl
    rw [hfj] at hl
    have hsl : slotB A B x (vw ce (1024 * j)) = some jj := slotB_1 hjj
    have hft : (slotB A B x cs).isSome = true := by rw [← slotB_agr hA p5, hsl]; rfl
    have hl : lv_has ls 8 [(7, .int (nI ((1024 * j) + jj))), (6, .int (nI (fbN A x))), (5, .int (nI (fpN B x))), (4, .int (nI 0)), (0, .ref hm), (1, .int (nI j)), (2, .long x)] := hl
    refine lv_iload hx hb d_M_remove_93 (lv_at hl 0 rfl) ?_
    refine lv_goto (tgt := 122) hx hb d_M_remove_95 (by decide) ?_
    refine lv_istore (lv' := [(7, .int (nI ((1024 * j) + jj))), (6, .int (nI (fbN A x))), (5, .int (nI (fpN B x))), (4, .int (nI 0)), (0, .ref hm), (1, .int (nI j)), (2, .long x)]) hx hb d_M_remove_122 hl (by decide) rfl (fun ls hl => ?_)
    refine lv_iload hx hb d_M_remove_124 (lv_at hl 0 rfl) ?_
    refine lv_if_lt (tgt := 133) hx hb d_M_remove_126 (by decide) (fun c_126 => absurd c_126 (nI_pos (by omega))) (fun c_126 => ?_)
    refine lv_iconst (v := (bI true)) hx hb d_M_remove_129 (by decide) ?_
    refine lv_goto (tgt := 134) hx hb d_M_remove_130 (by decide) ?_
    refine lv_istore (lv' := [(4, .int (bI true)), (7, .int (nI ((1024 * j) + jj))), (6, .int (nI (fbN A x))), (5, .int (nI (fpN B x))), (0, .ref hm), (1, .int (nI j)), (2, .long x)]) hx hb d_M_remove_134 hl (by decide) rfl (fun ls hl => ?_)
    refine lv_iload hx hb d_M_remove_136 (lv_at hl 0 rfl) ?_
    refine lv_if_eq (tgt := 149) hx hb d_M_remove_138 (by decide) (fun c_138 => absurd c_138 (by decide)) (fun c_138 => ?_)
    refine lv_aload_n hx hb d_M_remove_141 rfl (lv_at hl 4 rfl) ?_
    refine va_get (D := D) (ci := 4) (v := .ref a6) (C := R_M) (T := T_M) (N := 12) hx hb (us_M G hW) (fun _ h => h) hown hK hP 0 rfl rfl 6 (by decide) (fl_M_25 G hW) (fun _ h9 => h9) rfl d_M_remove_142 ?_
    refine lv_iload hx hb d_M_remove_145 (lv_at hl 1 rfl) ?_
    refine lv_iconst (v := (nI 0)) hx hb d_M_remove_147 (by decide) ?_
    refine ia_stN hx hb hK hP hD hS 6 (j := ((1024 * j) + jj)) (x := 0) (f := ce) rfl (by omega) (by decide) d_M_remove_148 (fun H locs hP hD hS => ?_)
    have hP : va_P D vcl [(hm, .inr (4, [.int (nI 0), .ref a1, .ref a2, .ref a3, .ref a4, .ref a5, .ref a6, .ref a7, .ref a8, .ref a9, .ref a10, .ref a11])), (a1, aN cI 4 ki), (a2, aN cI 4 ka), (a3, aN cI 4 kb), (a4, aI cI 4 zs), (a5, aI cI 4 pu), (a6, aN cI 4096 (va_up ce ((1024 * j) + jj) 0)), (a7, aN cI 1024 pa), (a8, aN cI 1024 tr), (a9, aI cI 256 so), (a10, aN cI 6 pl), (a11, aN cI 6 ot)] H := hP
    have hD : va_D (Aa [hm, a1, a2, a3, a4, a5, a6, a7, a8, a9, a10, a11] H0.size) [(hm, .inr (4, [.int (nI 0), .ref a1, .ref a2, .ref a3, .ref a4, .ref a5, .ref a6, .ref a7, .ref a8, .ref a9, .ref a10, .ref a11])), (a1, aN cI 4 ki), (a2, aN cI 4 ka), (a3, aN cI 4 kb), (a4, aI cI 4 zs), (a5, aI cI 4 pu), (a6, aN cI 4096 (va_up ce ((1024 * j) + jj) 0)), (a7, aN cI 1024 pa), (a8, aN cI 1024 tr), (a9, aI cI 256 so), (a10, aN cI 6 pl), (a11, aN cI 6 ot)] := hD
    refine lv_goto (tgt := 233) hx hb d_M_remove_149 (by decide) ?_
    refine lv_aload_n hx hb d_M_remove_233 rfl (lv_at hl 4 rfl) ?_
    refine lv_iload hx hb d_M_remove_234 (lv_at hl 0 rfl) ?_
    refine lv_if_eq (tgt := 243) hx hb d_M_remove_236 (by decide) (fun c_236 => absurd c_236 (by decide)) (fun c_236 => ?_)
    refine lv_iconst (v := (nI 0)) hx hb d_M_remove_239 (by decide) ?_
    refine lv_goto (tgt := 244) hx hb d_M_remove_240 (by decide) ?_
    refine va_put (D := D) (ci := 4) (v := .int (nI 0)) (ty := .int) (C := R_M) (T := T_M) (N := 12) hx hb (us_M G hW) (fun _ h => h) t_M to_M nm_M hown hK hP hD hS 0 rfl rfl 0 (by decide) (fl_M_43 G hW) (fun _ h9 => h9) rfl (by decide +kernel) rfl rfl (Nat.le_of_ble_eq_true rfl) d_M_remove_244 (fun H locs hP hD hS => ?_)
    have hP : va_P D vcl [(hm, .inr (4, [.int (nI 0), .ref a1, .ref a2, .ref a3, .ref a4, .ref a5, .ref a6, .ref a7, .ref a8, .ref a9, .ref a10, .ref a11])), (a1, aN cI 4 ki), (a2, aN cI 4 ka), (a3, aN cI 4 kb), (a4, aI cI 4 zs), (a5, aI cI 4 pu), (a6, aN cI 4096 (va_up ce ((1024 * j) + jj) 0)), (a7, aN cI 1024 pa), (a8, aN cI 1024 tr), (a9, aI cI 256 so), (a10, aN cI 6 pl), (a11, aN cI 6 ot)] H := hP
    have hD : va_D (Aa [hm, a1, a2, a3, a4, a5, a6, a7, a8, a9, a10, a11] H0.size) [(hm, .inr (4, [.int (nI 0), .ref a1, .ref a2, .ref a3, .ref a4, .ref a5, .ref a6, .ref a7, .ref a8, .ref a9, .ref a10, .ref a11])), (a1, aN cI 4 ki), (a2, aN cI 4 ka), (a3, aN cI 4 kb), (a4, aI cI 4 zs), (a5, aI cI 4 pu), (a6, aN cI 4096 (va_up ce ((1024 * j) + jj) 0)), (a7, aN cI 1024 pa), (a8, aN cI 1024 tr), (a9, aI cI 256 so), (a10, aN cI 6 pl), (a11, aN cI 6 ot)] := hD
    refine lv_aload_n hx hb d_M_remove_247 rfl (lv_at hl 4 rfl) ?_
    refine va_get (D := D) (ci := 4) (v := .ref a4) (C := R_M) (T := T_M) (N := 12) hx hb (us_M G hW) (fun _ h => h) hown hK hP 0 rfl rfl 4 (by decide) (fl_M_19 G hW) (fun _ h9 => h9) rfl d_M_remove_248 ?_
    refine lv_iload_n hx hb d_M_remove_251 rfl (lv_at hl 5 rfl) ?_
    refine lv_iload hx hb d_M_remove_252 (lv_at hl 0 rfl) ?_
    refine lv_if_eq (tgt := 268) hx hb d_M_remove_254 (by decide) (fun c_254 => absurd c_254 (by decide)) (fun c_254 => ?_)
    refine lv_aload_n hx hb d_M_remove_257 rfl (lv_at hl 4 rfl) ?_
    refine va_get (D := D) (ci := 4) (v := .ref a4) (C := R_M) (T := T_M) (N := 12) hx hb (us_M G hW) (fun _ h => h) hown hK hP 0 rfl rfl 4 (by decide) (fl_M_19 G hW) (fun _ h9 => h9) rfl d_M_remove_258 ?_
    refine lv_iload_n hx hb d_M_remove_261 rfl (lv_at hl 5 rfl) ?_
    refine ia_ld hx hb hK hP 4 (j := j) rfl (hj) (by decide) d_M_remove_262 ?_
    refine lv_iconst (v := (nI 1)) hx hb d_M_remove_263 (by decide) ?_
    refine lv_isub hx hb d_M_remove_264 ?_
    refine lv_goto (tgt := 274) hx hb d_M_remove_265 (by decide) ?_
    refine ia_st hx hb hK hP hD hS 4 (j := j) rfl (hj) (by decide) d_M_remove_274 (fun H locs hP hD hS => ?_)
    have hP : va_P D vcl [(hm, .inr (4, [.int (nI 0), .ref a1, .ref a2, .ref a3, .ref a4, .ref a5, .ref a6, .ref a7, .ref a8, .ref a9, .ref a10, .ref a11])), (a1, aN cI 4 ki), (a2, aN cI 4 ka), (a3, aN cI 4 kb), (a4, aI cI 4 (upd zs j ((zs j) - (nI 1)))), (a5, aI cI 4 pu), (a6, aN cI 4096 (va_up ce ((1024 * j) + jj) 0)), (a7, aN cI 1024 pa), (a8, aN cI 1024 tr), (a9, aI cI 256 so), (a10, aN cI 6 pl), (a11, aN cI 6 ot)] H := hP
    have hD : va_D (Aa [hm, a1, a2, a3, a4, a5, a6, a7, a8, a9, a10, a11] H0.size) [(hm, .inr (4, [.int (nI 0), .ref a1, .ref a2, .ref a3, .ref a4, .ref a5, .ref a6, .ref a7, .ref a8, .ref a9, .ref a10, .ref a11])), (a1, aN cI 4 ki), (a2, aN cI 4 ka), (a3, aN cI 4 kb), (a4, aI cI 4 (upd zs j ((zs j) - (nI 1)))), (a5, aI cI 4 pu), (a6, aN cI 4096 (va_up ce ((1024 * j) + jj) 0)), (a7, aN cI 1024 pa), (a8, aN cI 1024 tr), (a9, aI cI 256 so), (a10, aN cI 6 pl), (a11, aN cI 6 ot)] := hD
    refine lv_iload hx hb d_M_remove_275 (lv_at hl 0 rfl) ?_
    refine lv_if_eq (tgt := 289) hx hb d_M_remove_277 (by decide) (fun c_277 => absurd c_277 (by decide)) (fun c_277 => ?_)
    refine lv_aload_n hx hb d_M_remove_280 rfl (lv_at hl 4 rfl) ?_
    refine va_get (D := D) (ci := 4) (v := .ref a4) (C := R_M) (T := T_M) (N := 12) hx hb (us_M G hW) (fun _ h => h) hown hK hP 0 rfl rfl 4 (by decide) (fl_M_19 G hW) (fun _ h9 => h9) rfl d_M_remove_281 ?_
    refine lv_iload_n hx hb d_M_remove_284 rfl (lv_at hl 5 rfl) ?_
    refine ia_ld hx hb hK hP 4 (j := j) rfl (hj) (by decide) d_M_remove_285 ?_
    refine tp_i (y := (remS (S j) x).2.2.2.2.1) (by rw [hSj, remS_2, hft, upd_eq, p4]; rfl) ?_
    refine lv_goto (tgt := 290) hx hb d_M_remove_286 (by decide) ?_
    exact mx_iret hx hb hr hlk d_M_remove_290 (Nat.le_of_ble_eq_true rfl) (Nat.le_of_ble_eq_true rfl) hS.2.2 (⟨by rw [hSj, remS_2, hft]; rfl, by rw [show (nI (if (remS (S j) x).1 then 0 else 3)) = nI 0 by rw [hSj, remS_2, hft]; rfl]; exact ⟨ki, ka, kb, _, pu, (stO 1024 ce (1024 * j) (va_up (vw ce (1024 * j)) jj 0)), pa, tr, so, pl, ot, (by rw [← stO_up (show jj < 1024 by omega), stO_self]; exact hP), pics_up hpic hok (by rw [hSj, remS_2, hft]; exact PicM.k2 p1 p2 p3 (by rw [upd_eq, p4]; rfl) (fun q h9 => by rw [vw_stO h9, ← tkB_s hsl]; exact tkB_agr hA p5 q h9) p7 p6) id_off id_off id_off upd_off id_off offC idP⟩⟩)

set_option maxHeartbeats 4000000 in
set_option maxRecDepth 100000 in
theorem c_M_remove_3 {l : Launch} {s0 : State} {D : va_G} {cI cF cJ : ClassId} (G : Gx l s0 D cI cF cJ) (hm a1 a2 a3 a4 a5 a6 a7 a8 a9 a10 a11 : Nat) (th : Int32) (S : Nat → FS) (j A B n : Nat) (hd pv : Int32) (cs f : Nat → Nat) (x : Int64) {H0 : Heap} {A0 : Nat → Prop} (hM : MP D cI hm a1 a2 a3 a4 a5 a6 a7 a8 a9 a10 a11 th S H0) (hD : va_D A0 (adM hm a1 a2 a3 a4 a5 a6 a7 a8 a9 a10 a11)) (hok : ∀ i, i < 4 → okS (S i)) (hj : j < 4) (hSj : S j = (3, A, B, hd, pv, cs, n, f)) : Mx l s0 y_M_remove (.code y_M_remove b_M_remove 8 (some .int)) { frames := 7, cells := 0, slots := 0, locals := 170 } [.ref hm, .int (nI j), .long x] H0 (Aa [hm, a1, a2, a3, a4, a5, a6, a7, a8, a9, a10, a11] H0.size) (Rw (.int (if (remS (S j) x).1 then (remS (S j) x).2.2.2.2.1 else nI 0)) (fun H1 => MP D cI hm a1 a2 a3 a4 a5 a6 a7 a8 a9 a10 a11 (nI (if (remS (S j) x).1 then 0 else 3)) (va_up S j (remS (S j) x).2) H1)) := by
  refine Mx.ofW (own := "FewBitsModel") rfl rfl ?_
  rintro p e s m below meth c ⟨hx, hb, hml, hr, hown, hW, hlk⟩ hnm het hH
  have hK := G.k hW
  have hD0 := hD
  obtain ⟨ki, ka, kb, zs, pu, ce, pa, tr, so, pl, ot, hP, hpic⟩ := hM
  have hD : va_D (Aa [hm, a1, a2, a3, a4, a5, a6, a7, a8, a9, a10, a11] H0.size) [(hm, .inr (4, [.int th, .ref a1, .ref a2, .ref a3, .ref a4, .ref a5, .ref a6, .ref a7, .ref a8, .ref a9, .ref a10, .ref a11])), (a1, aN cI 4 ki), (a2, aN cI 4 ka), (a3, aN cI 4 kb), (a4, aI cI 4 zs), (a5, aI cI 4 pu), (a6, aN cI 4096 ce), (a7, aN cI 1024 pa), (a8, aN cI 1024 tr), (a9, aI cI 256 so), (a10, aN cI 6 pl), (a11, aN cI 6 ot)] := va_D.same2 [hm, a1, a2, a3, a4, a5, a6, a7, a8, a9, a10, a11] (hD.aa (sz := H0.size)) rfl rfl
  have hS : va_S (Aa [hm, a1, a2, a3, a4, a5, a6, a7, a8, a9, a10, a11] H0.size) H0 H0 [] := va_S.rf
  have hpj := hpic j hj
  rw [hSj] at hpj
  obtain ⟨p1, p2, p3, p4, p5, p6⟩ := hpj.f3
  have hoj := hok j hj
  rw [hSj] at hoj
  have hq := (okS_3.mp hoj).1
  have hhd := (okS_3.mp hoj).2
  have p4n : zs j = nI n := by rw [p4, hhd]
  have hqA : A ≤ 8 := hq.2.1
  have hqB : B ≤ 20 := hq.2.2.2.1
  have h0 : (S j).1 ≠ 0 := by rw [hSj]; exact (by decide : 3 ≠ 0)
  have h8 := p2_le hqA
  have hnn := hq.n
  have hsr := hq.2.2.2.2.2.1
  have hl := lv_entry ([.ref hm, .int (nI j), .long x]) (n := 8) (Nat.le_of_ble_eq_true rfl)
  rw [lg_entry_eq]
  generalize (lg_sl ([.ref hm, .int (nI j), .long x]) ++ List.replicate (8 - (lg_sl ([.ref hm, .int (nI j), .long x])).length) Slot.unset).toArray = ls at hl ⊢
  have hl : lv_has ls 8 [(0, .ref hm), (1, .int (nI j)), (2, .long x)] := hl
  refine lv_aload_n hx hb d_M_remove_0 rfl (lv_at hl 0 rfl) ?_
  refine lv_aload_n hx hb d_M_remove_1 rfl (lv_at hl 0 rfl) ?_
  refine lv_iload_n hx hb d_M_remove_2 rfl (lv_at hl 1 rfl) ?_
  refine mx_callR (r := .int (nI (if (S j).1 = 0 then 2 else 0))) (c_M_wrg G hm a1 a2 a3 a4 a5 a6 a7 a8 a9 a10 a11 th S j ⟨ki, ka, kb, zs, pu, ce, pa, tr, so, pl, ot, hP, hpic⟩ hD0 hok hj) hW (iv_M_remove_3 G hx hb hown hW (va_recv hK hP (ci := 4) (q0 := 0) rfl rfl) [.int (nI j)] [.ref hm] rfl) hml hl.1 (by rw [hb]; exact d_M_remove_3) (cd_M_wrong G hW) ⟨Nat.le_of_ble_eq_true rfl, Nat.le_of_ble_eq_true rfl⟩ rfl rfl (Nat.le_of_ble_eq_true rfl) (Nat.le_of_ble_eq_true rfl) (Nat.le_of_ble_eq_true rfl) ?_
  refine tp_i (y := (nI 0)) (by rw [if_neg h0]) ?_
  refine va_put (D := D) (ci := 4) (v := .int (nI 0)) (ty := .int) (C := R_M) (T := T_M) (N := 12) hx hb (us_M G hW) (fun _ h => h) t_M to_M nm_M hown hK hP hD hS 0 rfl rfl 0 (by decide) (fl_M_43 G hW) (fun _ h9 => h9) rfl (by decide +kernel) rfl rfl (Nat.le_of_ble_eq_true rfl) d_M_remove_6 (fun H locs hP hD hS => ?_)
  have hP : va_P D vcl [(hm, .inr (4, [.int (nI 0), .ref a1, .ref a2, .ref a3, .ref a4, .ref a5, .ref a6, .ref a7, .ref a8, .ref a9, .ref a10, .ref a11])), (a1, aN cI 4 ki), (a2, aN cI 4 ka), (a3, aN cI 4 kb), (a4, aI cI 4 zs), (a5, aI cI 4 pu), (a6, aN cI 4096 ce), (a7, aN cI 1024 pa), (a8, aN cI 1024 tr), (a9, aI cI 256 so), (a10, aN cI 6 pl), (a11, aN cI 6 ot)] H := hP
  have hD : va_D (Aa [hm, a1, a2, a3, a4, a5, a6, a7, a8, a9, a10, a11] H0.size) [(hm, .inr (4, [.int (nI 0), .ref a1, .ref a2, .ref a3, .ref a4, .ref a5, .ref a6, .ref a7, .ref a8, .ref a9, .ref a10, .ref a11])), (a1, aN cI 4 ki), (a2, aN cI 4 ka), (a3, aN cI 4 kb), (a4, aI cI 4 zs), (a5, aI cI 4 pu), (a6, aN cI 4096 ce), (a7, aN cI 1024 pa), (a8, aN cI 1024 tr), (a9, aI cI 256 so), (a10, aN cI 6 pl), (a11, aN cI 6 ot)] := hD
  refine lv_aload_n hx hb d_M_remove_9 rfl (lv_at hl 0 rfl) ?_
  refine va_get (D := D) (ci := 4) (v := .int (nI 0)) (C := R_M) (T := T_M) (N := 12) hx hb (us_M G hW) (fun _ h => h) hown hK hP 0 rfl rfl 0 (by decide) (fl_M_43 G hW) (fun _ h9 => h9) rfl d_M_remove_10 ?_
  refine lv_if_le (tgt := 18) hx hb d_M_remove_13 (by decide) (fun c_13 => ?_) (fun c_13 => absurd (by decide) c_13)
  refine lv_iconst (v := (nI 0)) hx hb d_M_remove_18 (by decide) ?_
  refine lv_istore (lv' := [(4, .int (nI 0)), (0, .ref hm), (1, .int (nI j)), (2, .long x)]) hx hb d_M_remove_19 hl (by decide) rfl (fun ls hl => ?_)
  refine lv_aload_n hx hb d_M_remove_21 rfl (lv_at hl 1 rfl) ?_
  refine va_get (D := D) (ci := 4) (v := .ref a1) (C := R_M) (T := T_M) (N := 12) hx hb (us_M G hW) (fun _ h => h) hown hK hP 0 rfl rfl 1 (by decide) (fl_M_7 G hW) (fun _ h9 => h9) rfl d_M_remove_22 ?_
  refine lv_iload_n hx hb d_M_remove_25 rfl (lv_at hl 2 rfl) ?_
  refine ia_ld hx hb hK hP 1 (j := j) rfl (hj) (by decide) d_M_remove_26 ?_
  refine tp_i (y := (nI (ki j))) rfl ?_
  refine tp_i (y := (nI 3)) (by rw [p1]) ?_
  refine lv_iconst (v := (nI 1)) hx hb d_M_remove_27 (by decide) ?_
  refine lv_icmp_ne (tgt := 43) hx hb d_M_remove_28 (by decide) (fun c_28 => ?_) (fun c_28 => absurd c_28 (by decide))
  refine lv_aload_n hx hb d_M_remove_43 rfl (lv_at hl 1 rfl) ?_
  refine va_get (D := D) (ci := 4) (v := .ref a1) (C := R_M) (T := T_M) (N := 12) hx hb (us_M G hW) (fun _ h => h) hown hK hP 0 rfl rfl 1 (by decide) (fl_M_7 G hW) (fun _ h9 => h9) rfl d_M_remove_44 ?_
  refine lv_iload_n hx hb d_M_remove_47 rfl (lv_at hl 2 rfl) ?_
  refine ia_ld hx hb hK hP 1 (j := j) rfl (hj) (by decide) d_M_remove_48 ?_
  refine tp_i (y := (nI (ki j))) rfl ?_
  refine tp_i (y := (nI 3)) (by rw [p1]) ?_
  refine lv_iconst (v := (nI 2)) hx hb d_M_remove_49 (by decide) ?_
  refine lv_icmp_ne (tgt := 152) hx hb d_M_remove_50 (by decide) (fun c_50 => ?_) (fun c_50 => absurd c_50 (by decide))
  refine lv_aload_n hx hb d_M_remove_152 rfl (lv_at hl 1 rfl) ?_
  refine lv_iload_n hx hb d_M_remove_153 rfl (lv_at hl 2 rfl) ?_
  refine lv_aload_n hx hb d_M_remove_154 rfl (lv_at hl 1 rfl) ?_
  refine lv_iload_n hx hb d_M_remove_155 rfl (lv_at hl 2 rfl) ?_
  refine lv_lload_n hx hb d_M_remove_156 rfl (lv_at hl 3 rfl) ?_
  refine mx_callR (r := .int (nI (enc B (prN A B x)))) (c_M_pair G hm a1 a2 a3 a4 a5 a6 a7 a8 a9 a10 a11 (nI 0) ki ka kb zs pu ce pa tr so pl ot j A B x hP hj p2 p3 hq.1 hqA hq.2.2.1 hqB) hW (iv_M_remove_157 G hx hb hown hW (va_recv hK hP (ci := 4) (q0 := 0) rfl rfl) [.int (nI j), .long x] [.int (nI j), .ref hm] rfl) hml hl.1 (by rw [hb]; exact d_M_remove_157) (cd_M_pair G hW) ⟨Nat.le_of_ble_eq_true rfl, Nat.le_of_ble_eq_true rfl⟩ rfl rfl (Nat.le_of_ble_eq_true rfl) (Nat.le_of_ble_eq_true rfl) (Nat.le_of_ble_eq_true rfl) ?_
  refine mx_callR (r := .int (oI (fnd (vw pa (256 * j)) (enc B (prN A B x)) 0 n))) (c_M_findPair G hm a1 a2 a3 a4 a5 a6 a7 a8 a9 a10 a11 (nI 0) ki ka kb zs pu ce pa tr so pl ot j n (enc B (prN A B x)) hP hj p4n hnn (enc_lt hqA hqB (prN_lt hqA hqB x)) (fun i hi => p6 i (by omega))) hW (iv_M_remove_160 G hx hb hown hW (va_recv hK hP (ci := 4) (q0 := 0) rfl rfl) [.int (nI j), .int (nI (enc B (prN A B x)))] [] rfl) hml hl.1 (by rw [hb]; exact d_M_remove_160) (cd_M_findPair G hW) ⟨Nat.le_of_ble_eq_true rfl, Nat.le_of_ble_eq_true rfl⟩ rfl rfl (Nat.le_of_ble_eq_true rfl) (Nat.le_of_ble_eq_true rfl) (Nat.le_of_ble_eq_true rfl) ?_
  refine tp_i (y := (oI (if inF f n (prN A B x) then some (lo f (prN A B x) n) else none))) (by rw [has_enc (g := vw pa (256 * j)) hqB hsr p5]) ?_
  refine lv_istore (lv' := [(5, .int (oI (if inF f n (prN A B x) then some (lo f (prN A B x) n) else none))), (4, .int (nI 0)), (0, .ref hm), (1, .int (nI j)), (2, .long x)]) hx hb d_M_remove_163 hl (by decide) rfl (fun ls hl => ?_)
  refine lv_iload hx hb d_M_remove_165 (lv_at hl 0 rfl) ?_
  refine lv_if_lt (tgt := 174) hx hb d_M_remove_167 (by decide) (fun c_167 => ?_) (fun c_167 => ?_)
  · have hft : inF f n (prN A B x) = false := by cases e9 : inF f n (prN A B x) with | false => rfl | true => (rw [e9] at c_167; exact absurd c_167 (nI_pos (by have := lo_le f (prN A B x) n; omega)))
    refine lv_iconst (v := (bI false)) hx hb d_M_remove_174 (by decide) ?_
    refine lv_istore (lv' := [(4, .int (bI false)), (5, .int (oI (if inF f n (prN A B x) then some (lo f (prN A B x) n) else none))), (0, .ref hm), (1, .int (nI j)), (2, .long x)]) hx hb d_M_remove_175 hl (by decide) rfl (fun ls hl => ?_)
    refine lv_iload hx hb d_M_remove_177 (lv_at hl 1 rfl) ?_
    refine lv_istore (lv' := [(6, .int (oI (if inF f n (prN A B x) then some (lo f (prN A B x) n) else none))), (4, .int (bI false)), (5, .int (oI (if inF f n (prN A B x) then some (lo f (prN A B x) n) else none))), (0, .ref hm), (1, .int (nI j)), (2, .long x)]) hx hb d_M_remove_179 hl (by decide) rfl (fun ls hl => ?_)
    refine lv_iload hx hb d_M_remove_181 (lv_at hl 1 rfl) ?_
    refine lv_if_eq (tgt := 233) hx hb d_M_remove_183 (by decide) (fun c_183 => ?_) (fun c_183 => absurd (by decide) c_183)
    refine lv_aload_n hx hb d_M_remove_233 rfl (lv_at hl 3 rfl) ?_
    refine lv_iload hx hb d_M_remove_234 (lv_at hl 1 rfl) ?_
    refine lv_if_eq (tgt := 243) hx hb d_M_remove_236 (by decide) (fun c_236 => ?_) (fun c_236 => absurd (by decide) c_236)
    refine lv_iconst (v := (nI 3)) hx hb d_M_remove_243 (by decide) ?_
    refine va_put (D := D) (ci := 4) (v := .int (nI 3)) (ty := .int) (C := R_M) (T := T_M) (N := 12) hx hb (us_M G hW) (fun _ h => h) t_M to_M nm_M hown hK hP hD hS 0 rfl rfl 0 (by decide) (fl_M_43 G hW) (fun _ h9 => h9) rfl (by decide +kernel) rfl rfl (Nat.le_of_ble_eq_true rfl) d_M_remove_244 (fun H locs hP hD hS => ?_)
    have hP : va_P D vcl [(hm, .inr (4, [.int (nI 3), .ref a1, .ref a2, .ref a3, .ref a4, .ref a5, .ref a6, .ref a7, .ref a8, .ref a9, .ref a10, .ref a11])), (a1, aN cI 4 ki), (a2, aN cI 4 ka), (a3, aN cI 4 kb), (a4, aI cI 4 zs), (a5, aI cI 4 pu), (a6, aN cI 4096 ce), (a7, aN cI 1024 pa), (a8, aN cI 1024 tr), (a9, aI cI 256 so), (a10, aN cI 6 pl), (a11, aN cI 6 ot)] H := hP
    have hD : va_D (Aa [hm, a1, a2, a3, a4, a5, a6, a7, a8, a9, a10, a11] H0.size) [(hm, .inr (4, [.int (nI 3), .ref a1, .ref a2, .ref a3, .ref a4, .ref a5, .ref a6, .ref a7, .ref a8, .ref a9, .ref a10, .ref a11])), (a1, aN cI 4 ki), (a2, aN cI 4 ka), (a3, aN cI 4 kb), (a4, aI cI 4 zs), (a5, aI cI 4 pu), (a6, aN cI 4096 ce), (a7, aN cI 1024 pa), (a8, aN cI 1024 tr), (a9, aI cI 256 so), (a10, aN cI 6 pl), (a11, aN cI 6 ot)] := hD
    refine lv_aload_n hx hb d_M_remove_247 rfl (lv_at hl 3 rfl) ?_
    refine va_get (D := D) (ci := 4) (v := .ref a4) (C := R_M) (T := T_M) (N := 12) hx hb (us_M G hW) (fun _ h => h) hown hK hP 0 rfl rfl 4 (by decide) (fl_M_19 G hW) (fun _ h9 => h9) rfl d_M_remove_248 ?_
    refine lv_iload_n hx hb d_M_remove_251 rfl (lv_at hl 4 rfl) ?_
    refine lv_iload hx hb d_M_remove_252 (lv_at hl 1 rfl) ?_
    refine lv_if_eq (tgt := 268) hx hb d_M_remove_254 (by decide) (fun c_254 => ?_) (fun c_254 => absurd (by decide) c_254)
    refine lv_aload_n hx hb d_M_remove_268 rfl (lv_at hl 3 rfl) ?_
    refine va_get (D := D) (ci := 4) (v := .ref a4) (C := R_M) (T := T_M) (N := 12) hx hb (us_M G hW) (fun _ h => h) hown hK hP 0 rfl rfl 4 (by decide) (fl_M_19 G hW) (fun _ h9 => h9) rfl d_M_remove_269 ?_
    refine lv_iload_n hx hb d_M_remove_272 rfl (lv_at hl 4 rfl) ?_
    refine ia_ld hx hb hK hP 4 (j := j) rfl (hj) (by decide) d_M_remove_273 ?_
    refine ia_st hx hb hK hP hD hS 4 (j := j) rfl (hj) (by decide) d_M_remove_274 (fun H locs hP hD hS => ?_)
    have hP : va_P D vcl [(hm, .inr (4, [.int (nI 3), .ref a1, .ref a2, .ref a3, .ref a4, .ref a5, .ref a6, .ref a7, .ref a8, .ref a9, .ref a10, .ref a11])), (a1, aN cI 4 ki), (a2, aN cI 4 ka), (a3, aN cI 4 kb), (a4, aI cI 4 (upd zs j (zs j))), (a5, aI cI 4 pu), (a6, aN cI 4096 ce), (a7, aN cI 1024 pa), (a8, aN cI 1024 tr), (a9, aI cI 256 so), (a10, aN cI 6 pl), (a11, aN cI 6 ot)] H := hP
    have hD : va_D (Aa [hm, a1, a2, a3, a4, a5, a6, a7, a8, a9, a10, a11] H0.size) [(hm, .inr (4, [.int (nI 3), .ref a1, .ref a2, .ref a3, .ref a4, .ref a5, .ref a6, .ref a7, .ref a8, .ref a9, .ref a10, .ref a11])), (a1, aN cI 4 ki), (a2, aN cI 4 ka), (a3, aN cI 4 kb), (a4, aI cI 4 (upd zs j (zs j))), (a5, aI cI 4 pu), (a6, aN cI 4096 ce), (a7, aN cI 1024 pa), (a8, aN cI 1024 tr), (a9, aI cI 256 so), (a10, aN cI 6 pl), (a11, aN cI 6 ot)] := hD
    refine lv_iload hx hb d_M_remove_275 (lv_at hl 1 rfl) ?_
    refine lv_if_eq (tgt := 289) hx hb d_M_remove_277 (by decide) (fun c_277 => ?_) (fun c_277 => absurd (by decide) c_277)
    refine lv_iconst (v := (nI 0)) hx hb d_M_remove_289 (by decide) ?_
    exact mx_iret hx hb hr hlk d_M_remove_290 (Nat.le_of_ble_eq_true rfl) (Nat.le_of_ble_eq_true rfl) hS.2.2 (⟨by rw [hSj, remS_3, hft]; rfl, by rw [show (nI (if (remS (S j) x).1 then 0 else 3)) = nI 3 by rw [hSj, remS_3, hft]; rfl]; exact ⟨ki, ka, kb, _, pu, ce, pa, tr, so, pl, ot, hP, pics_up hpic hok (by rw [hSj, remS_3, hft]; exact PicM.k3 p1 p2 p3 (by rw [upd_eq, p4]; rfl) p5 p6) id_off id_off id_off upd_off id_off idC idP⟩⟩)
  · have hft : inF f n (prN A B x) = true := by cases e9 : inF f n (prN A B x) with | true => rfl | false => (rw [e9] at c_167; exact absurd (show (-1 : Int32) < 0 by decide) c_167)
    have hlo : (lo f (prN A B x) n) < n := by have h9 := hft; unfold inF at h9; rw [Bool.and_eq_true] at h9; exact of_decide_eq_true h9.1
    rw [hft] at hl
    have hl : lv_has ls 8 [(5, .int (nI (lo f (prN A B x) n))), (4, .int (nI 0)), (0, .ref hm), (1, .int (nI j)), (2, .long x)] := hl
    refine lv_iconst (v := (bI true)) hx hb d_M_remove_170 (by decide) ?_
    refine lv_goto (tgt := 175) hx hb d_M_remove_171 (by decide) ?_
    refine lv_istore (lv' := [(4, .int (bI true)), (5, .int (nI (lo f (prN A B x) n))), (0, .ref hm), (1, .int (nI j)), (2, .long x)]) hx hb d_M_remove_175 hl (by decide) rfl (fun ls hl => ?_)
    refine lv_iload hx hb d_M_remove_177 (lv_at hl 1 rfl) ?_
    refine lv_istore (lv' := [(6, .int (nI (lo f (prN A B x) n))), (4, .int (bI true)), (5, .int (nI (lo f (prN A B x) n))), (0, .ref hm), (1, .int (nI j)), (2, .long x)]) hx hb d_M_remove_179 hl (by decide) rfl (fun ls hl => ?_)
    have loop_181 : ∀ (k : Nat) (J : Nat), (J + k + 1 = n) → ((lo f (prN A B x) n) ≤ J) → ∀ (H : Heap) (locs : List Loc), va_P D vcl [(hm, .inr (4, [.int (nI 0), .ref a1, .ref a2, .ref a3, .ref a4, .ref a5, .ref a6, .ref a7, .ref a8, .ref a9, .ref a10, .ref a11])), (a1, aN cI 4 ki), (a2, aN cI 4 ka), (a3, aN cI 4 kb), (a4, aI cI 4 zs), (a5, aI cI 4 pu), (a6, aN cI 4096 ce), (a7, aN cI 1024 (stO 256 pa (256 * j) (shf (vw pa (256 * j)) (lo f (prN A B x) n) J))), (a8, aN cI 1024 tr), (a9, aI cI 256 so), (a10, aN cI 6 pl), (a11, aN cI 6 ot)] H → va_D (Aa [hm, a1, a2, a3, a4, a5, a6, a7, a8, a9, a10, a11] H0.size) [(hm, .inr (4, [.int (nI 0), .ref a1, .ref a2, .ref a3, .ref a4, .ref a5, .ref a6, .ref a7, .ref a8, .ref a9, .ref a10, .ref a11])), (a1, aN cI 4 ki), (a2, aN cI 4 ka), (a3, aN cI 4 kb), (a4, aI cI 4 zs), (a5, aI cI 4 pu), (a6, aN cI 4096 ce), (a7, aN cI 1024 (stO 256 pa (256 * j) (shf (vw pa (256 * j)) (lo f (prN A B x) n) J))), (a8, aN cI 1024 tr), (a9, aI cI 256 so), (a10, aN cI 6 pl), (a11, aN cI 6 ot)] → va_S (Aa [hm, a1, a2, a3, a4, a5, a6, a7, a8, a9, a10, a11] H0.size) H0 H locs → ∀ (ls : Array Slot), lv_has ls 8 [(6, .int (nI J)), (4, .int (bI true)), (5, .int (nI (lo f (prN A B x) n))), (0, .ref hm), (1, .int (nI j)), (2, .long x)] → W p l e { frames := 7, cells := 0, slots := 0, locals := 170 } s m ([.ref hm, .int (nI j), .long x] : List Value).toArray below meth c H locs 0 0 (MQx below (Rw (.int (if (remS (S j) x).1 then (remS (S j) x).2.2.2.2.1 else nI 0)) (fun H1 => MP D cI hm a1 a2 a3 a4 a5 a6 a7 a8 a9 a10 a11 (nI (if (remS (S j) x).1 then 0 else 3)) (va_up S j (remS (S j) x).2) H1)) s 0 0 (Aa [hm, a1, a2, a3, a4, a5, a6, a7, a8, a9, a10, a11] H0.size)) (F0 m 181 ls []) := by
      intro k
      induction k with
      | zero =>
        intro J hk hJ H locs hP hD hS ls hl
        refine lv_iload hx hb d_M_remove_181 (lv_at hl 1 rfl) ?_
        refine lv_if_eq (tgt := 233) hx hb d_M_remove_183 (by decide) (fun c_183 => absurd c_183 (by decide)) (fun c_183 => ?_)
        refine lv_iload hx hb d_M_remove_186 (lv_at hl 0 rfl) ?_
        refine lv_iconst (v := (nI 1)) hx hb d_M_remove_188 (by decide) ?_
        refine lv_iadd hx hb d_M_remove_189 ?_
        refine tp_i (y := (nI (J + 1))) (nI_add _ _) ?_
        refine lv_aload_n hx hb d_M_remove_190 rfl (lv_at hl 3 rfl) ?_
        refine va_get (D := D) (ci := 4) (v := .ref a4) (C := R_M) (T := T_M) (N := 12) hx hb (us_M G hW) (fun _ h => h) hown hK hP 0 rfl rfl 4 (by decide) (fl_M_19 G hW) (fun _ h9 => h9) rfl d_M_remove_191 ?_
        refine lv_iload_n hx hb d_M_remove_194 rfl (lv_at hl 4 rfl) ?_
        refine ia_ld hx hb hK hP 4 (j := j) rfl (hj) (by decide) d_M_remove_195 ?_
        refine tp_i (y := (nI n)) (p4n) ?_
        refine lv_icmp_ge (tgt := 233) hx hb d_M_remove_196 (by decide) (fun c_196 => ?_) (fun c_196 => absurd (nI_le (by omega) (by omega)) c_196)
        refine lv_aload_n hx hb d_M_remove_233 rfl (lv_at hl 3 rfl) ?_
        refine lv_iload hx hb d_M_remove_234 (lv_at hl 1 rfl) ?_
        refine lv_if_eq (tgt := 243) hx hb d_M_remove_236 (by decide) (fun c_236 => absurd c_236 (by decide)) (fun c_236 => ?_)
        refine lv_iconst (v := (nI 0)) hx hb d_M_remove_239 (by decide) ?_
        refine lv_goto (tgt := 244) hx hb d_M_remove_240 (by decide) ?_
        refine va_put (D := D) (ci := 4) (v := .int (nI 0)) (ty := .int) (C := R_M) (T := T_M) (N := 12) hx hb (us_M G hW) (fun _ h => h) t_M to_M nm_M hown hK hP hD hS 0 rfl rfl 0 (by decide) (fl_M_43 G hW) (fun _ h9 => h9) rfl (by decide +kernel) rfl rfl (Nat.le_of_ble_eq_true rfl) d_M_remove_244 (fun H locs hP hD hS => ?_)
        have hP : va_P D vcl [(hm, .inr (4, [.int (nI 0), .ref a1, .ref a2, .ref a3, .ref a4, .ref a5, .ref a6, .ref a7, .ref a8, .ref a9, .ref a10, .ref a11])), (a1, aN cI 4 ki), (a2, aN cI 4 ka), (a3, aN cI 4 kb), (a4, aI cI 4 zs), (a5, aI cI 4 pu), (a6, aN cI 4096 ce), (a7, aN cI 1024 (stO 256 pa (256 * j) (shf (vw pa (256 * j)) (lo f (prN A B x) n) J))), (a8, aN cI 1024 tr), (a9, aI cI 256 so), (a10, aN cI 6 pl), (a11, aN cI 6 ot)] H := hP
        have hD : va_D (Aa [hm, a1, a2, a3, a4, a5, a6, a7, a8, a9, a10, a11] H0.size) [(hm, .inr (4, [.int (nI 0), .ref a1, .ref a2, .ref a3, .ref a4, .ref a5, .ref a6, .ref a7, .ref a8, .ref a9, .ref a10, .ref a11])), (a1, aN cI 4 ki), (a2, aN cI 4 ka), (a3, aN cI 4 kb), (a4, aI cI 4 zs), (a5, aI cI 4 pu), (a6, aN cI 4096 ce), (a7, aN cI 1024 (stO 256 pa (256 * j) (shf (vw pa (256 * j)) (lo f (prN A B x) n) J))), (a8, aN cI 1024 tr), (a9, aI cI 256 so), (a10, aN cI 6 pl), (a11, aN cI 6 ot)] := hD
        refine lv_aload_n hx hb d_M_remove_247 rfl (lv_at hl 3 rfl) ?_
        refine va_get (D := D) (ci := 4) (v := .ref a4) (C := R_M) (T := T_M) (N := 12) hx hb (us_M G hW) (fun _ h => h) hown hK hP 0 rfl rfl 4 (by decide) (fl_M_19 G hW) (fun _ h9 => h9) rfl d_M_remove_248 ?_
        refine lv_iload_n hx hb d_M_remove_251 rfl (lv_at hl 4 rfl) ?_
        refine lv_iload hx hb d_M_remove_252 (lv_at hl 1 rfl) ?_
        refine lv_if_eq (tgt := 268) hx hb d_M_remove_254 (by decide) (fun c_254 => absurd c_254 (by decide)) (fun c_254 => ?_)
        refine lv_aload_n hx hb d_M_remove_257 rfl (lv_at hl 3 rfl) ?_
        refine va_get (D := D) (ci := 4) (v := .ref a4) (C := R_M) (T := T_M) (N := 12) hx hb (us_M G hW) (fun _ h => h) hown hK hP 0 rfl rfl 4 (by decide) (fl_M_19 G hW) (fun _ h9 => h9) rfl d_M_remove_258 ?_
        refine lv_iload_n hx hb d_M_remove_261 rfl (lv_at hl 4 rfl) ?_
        refine ia_ld hx hb hK hP 4 (j := j) rfl (hj) (by decide) d_M_remove_262 ?_
        refine lv_iconst (v := (nI 1)) hx hb d_M_remove_263 (by decide) ?_
        refine lv_isub hx hb d_M_remove_264 ?_
        refine lv_goto (tgt := 274) hx hb d_M_remove_265 (by decide) ?_
        refine ia_st hx hb hK hP hD hS 4 (j := j) rfl (hj) (by decide) d_M_remove_274 (fun H locs hP hD hS => ?_)
        have hP : va_P D vcl [(hm, .inr (4, [.int (nI 0), .ref a1, .ref a2, .ref a3, .ref a4, .ref a5, .ref a6, .ref a7, .ref a8, .ref a9, .ref a10, .ref a11])), (a1, aN cI 4 ki), (a2, aN cI 4 ka), (a3, aN cI 4 kb), (a4, aI cI 4 (upd zs j ((zs j) - (nI 1)))), (a5, aI cI 4 pu), (a6, aN cI 4096 ce), (a7, aN cI 1024 (stO 256 pa (256 * j) (shf (vw pa (256 * j)) (lo f (prN A B x) n) J))), (a8, aN cI 1024 tr), (a9, aI cI 256 so), (a10, aN cI 6 pl), (a11, aN cI 6 ot)] H := hP
        have hD : va_D (Aa [hm, a1, a2, a3, a4, a5, a6, a7, a8, a9, a10, a11] H0.size) [(hm, .inr (4, [.int (nI 0), .ref a1, .ref a2, .ref a3, .ref a4, .ref a5, .ref a6, .ref a7, .ref a8, .ref a9, .ref a10, .ref a11])), (a1, aN cI 4 ki), (a2, aN cI 4 ka), (a3, aN cI 4 kb), (a4, aI cI 4 (upd zs j ((zs j) - (nI 1)))), (a5, aI cI 4 pu), (a6, aN cI 4096 ce), (a7, aN cI 1024 (stO 256 pa (256 * j) (shf (vw pa (256 * j)) (lo f (prN A B x) n) J))), (a8, aN cI 1024 tr), (a9, aI cI 256 so), (a10, aN cI 6 pl), (a11, aN cI 6 ot)] := hD
        refine lv_iload hx hb d_M_remove_275 (lv_at hl 1 rfl) ?_
        refine lv_if_eq (tgt := 289) hx hb d_M_remove_277 (by decide) (fun c_277 => absurd c_277 (by decide)) (fun c_277 => ?_)
        refine lv_aload_n hx hb d_M_remove_280 rfl (lv_at hl 3 rfl) ?_
        refine va_get (D := D) (ci := 4) (v := .ref a4) (C := R_M) (T := T_M) (N := 12) hx hb (us_M G hW) (fun _ h => h) hown hK hP 0 rfl rfl 4 (by decide) (fl_M_19 G hW) (fun _ h9 => h9) rfl d_M_remove_281 ?_
        refine lv_iload_n hx hb d_M_remove_284 rfl (lv_at hl 4 rfl) ?_
        refine ia_ld hx hb hK hP 4 (j := j) rfl (hj) (by decide) d_M_remove_285 ?_
        refine tp_i (y := (remS (S j) x).2.2.2.2.1) (by rw [hSj, remS_3, hft, upd_eq, p4]; rfl) ?_
        refine lv_goto (tgt := 290) hx hb d_M_remove_286 (by decide) ?_
        exact mx_iret hx hb hr hlk d_M_remove_290 (Nat.le_of_ble_eq_true rfl) (Nat.le_of_ble_eq_true rfl) hS.2.2 (⟨by rw [hSj, remS_3, hft]; rfl, by rw [show (nI (if (remS (S j) x).1 then 0 else 3)) = nI 0 by rw [hSj, remS_3, hft]; rfl]; exact ⟨ki, ka, kb, _, pu, ce, _, tr, so, pl, ot, hP, pics_up hpic hok (by rw [hSj, remS_3, hft]; exact PicM.k3 p1 p2 p3 (by rw [upd_eq, p4]; rfl) (fun i hi => by have hi9 : i < n - 1 := hi; rw [stO_at (by omega), if_pos rfl, delF_at hlo hi9]; unfold shf; by_cases h7 : i < (lo f (prN A B x) n); (rw [if_pos h7, if_neg (by omega)]; exact p5 i (by omega)); (rw [if_neg h7, if_pos (by omega)]; exact p5 (i + 1) (by omega))) (fun q hq9 => by rw [vw_stO hq9]; unfold shf; split; (exact p6 _ (by omega)); (exact p6 _ hq9))) id_off id_off id_off upd_off id_off idC offP⟩⟩)
      | succ k ih_181 =>
        intro J hk hJ H locs hP hD hS ls hl
        refine lv_iload hx hb d_M_remove_181 (lv_at hl 1 rfl) ?_
        refine lv_if_eq (tgt := 233) hx hb d_M_remove_183 (by decide) (fun c_183 => absurd c_183 (by decide)) (fun c_183 => ?_)
        refine lv_iload hx hb d_M_remove_186 (lv_at hl 0 rfl) ?_
        refine lv_iconst (v := (nI 1)) hx hb d_M_remove_188 (by decide) ?_
        refine lv_iadd hx hb d_M_remove_189 ?_
        refine tp_i (y := (nI (J + 1))) (nI_add _ _) ?_
        refine lv_aload_n hx hb d_M_remove_190 rfl (lv_at hl 3 rfl) ?_
        refine va_get (D := D) (ci := 4) (v := .ref a4) (C := R_M) (T := T_M) (N := 12) hx hb (us_M G hW) (fun _ h => h) hown hK hP 0 rfl rfl 4 (by decide) (fl_M_19 G hW) (fun _ h9 => h9) rfl d_M_remove_191 ?_
        refine lv_iload_n hx hb d_M_remove_194 rfl (lv_at hl 4 rfl) ?_
        refine ia_ld hx hb hK hP 4 (j := j) rfl (hj) (by decide) d_M_remove_195 ?_
        refine tp_i (y := (nI n)) (p4n) ?_
        refine lv_icmp_ge (tgt := 233) hx hb d_M_remove_196 (by decide) (fun c_196 => absurd c_196 (nI_ge (by omega) (by omega))) (fun c_196 => ?_)
        refine lv_aload_n hx hb d_M_remove_199 rfl (lv_at hl 3 rfl) ?_
        refine va_get (D := D) (ci := 4) (v := .ref a7) (C := R_M) (T := T_M) (N := 12) hx hb (us_M G hW) (fun _ h => h) hown hK hP 0 rfl rfl 7 (by decide) (fl_M_28 G hW) (fun _ h9 => h9) rfl d_M_remove_200 ?_
        refine lv_sipush (v := (nI 256)) hx hb d_M_remove_203 (by decide) ?_
        refine lv_iload_n hx hb d_M_remove_206 rfl (lv_at hl 4 rfl) ?_
        refine lv_imul hx hb d_M_remove_207 ?_
        refine tp_i (y := (nI (256 * j))) (pk_mul _ _) ?_
        refine lv_iload hx hb d_M_remove_208 (lv_at hl 0 rfl) ?_
        refine lv_iadd hx hb d_M_remove_210 ?_
        refine tp_i (y := (nI ((256 * j) + J))) (nI_add _ _) ?_
        refine lv_aload_n hx hb d_M_remove_211 rfl (lv_at hl 3 rfl) ?_
        refine va_get (D := D) (ci := 4) (v := .ref a7) (C := R_M) (T := T_M) (N := 12) hx hb (us_M G hW) (fun _ h => h) hown hK hP 0 rfl rfl 7 (by decide) (fl_M_28 G hW) (fun _ h9 => h9) rfl d_M_remove_212 ?_
        refine lv_sipush (v := (nI 256)) hx hb d_M_remove_215 (by decide) ?_
        refine lv_iload_n hx hb d_M_remove_218 rfl (lv_at hl 4 rfl) ?_
        refine lv_imul hx hb d_M_remove_219 ?_
        refine tp_i (y := (nI (256 * j))) (pk_mul _ _) ?_
        refine lv_iload hx hb d_M_remove_220 (lv_at hl 0 rfl) ?_
        refine lv_iadd hx hb d_M_remove_222 ?_
        refine tp_i (y := (nI ((256 * j) + J))) (nI_add _ _) ?_
        refine lv_iconst (v := (nI 1)) hx hb d_M_remove_223 (by decide) ?_
        refine lv_iadd hx hb d_M_remove_224 ?_
        refine tp_i (y := (nI ((256 * j) + (J + 1)))) (by rw [nI_add, Nat.add_assoc]) ?_
        refine ia_ld hx hb hK hP 7 (j := ((256 * j) + (J + 1))) rfl (by omega) (by decide) d_M_remove_225 ?_
        refine tp_i (y := (nI ((stO 256 pa (256 * j) (shf (vw pa (256 * j)) (lo f (prN A B x) n) J)) ((256 * j) + (J + 1))))) rfl ?_
        refine tp_i (y := (nI (vw pa (256 * j) (J + 1)))) (by rw [stO_at (by omega)]; unfold shf; rw [if_neg (by omega)]) ?_
        refine ia_stN hx hb hK hP hD hS 7 (j := ((256 * j) + J)) (x := (vw pa (256 * j) (J + 1))) (f := (stO 256 pa (256 * j) (shf (vw pa (256 * j)) (lo f (prN A B x) n) J))) rfl (by omega) (by decide) d_M_remove_226 (fun H locs hP hD hS => ?_)
        have hP : va_P D vcl [(hm, .inr (4, [.int (nI 0), .ref a1, .ref a2, .ref a3, .ref a4, .ref a5, .ref a6, .ref a7, .ref a8, .ref a9, .ref a10, .ref a11])), (a1, aN cI 4 ki), (a2, aN cI 4 ka), (a3, aN cI 4 kb), (a4, aI cI 4 zs), (a5, aI cI 4 pu), (a6, aN cI 4096 ce), (a7, aN cI 1024 (va_up (stO 256 pa (256 * j) (shf (vw pa (256 * j)) (lo f (prN A B x) n) J)) ((256 * j) + J) (vw pa (256 * j) (J + 1)))), (a8, aN cI 1024 tr), (a9, aI cI 256 so), (a10, aN cI 6 pl), (a11, aN cI 6 ot)] H := hP
        have hD : va_D (Aa [hm, a1, a2, a3, a4, a5, a6, a7, a8, a9, a10, a11] H0.size) [(hm, .inr (4, [.int (nI 0), .ref a1, .ref a2, .ref a3, .ref a4, .ref a5, .ref a6, .ref a7, .ref a8, .ref a9, .ref a10, .ref a11])), (a1, aN cI 4 ki), (a2, aN cI 4 ka), (a3, aN cI 4 kb), (a4, aI cI 4 zs), (a5, aI cI 4 pu), (a6, aN cI 4096 ce), (a7, aN cI 1024 (va_up (stO 256 pa (256 * j) (shf (vw pa (256 * j)) (lo f (prN A B x) n) J)) ((256 * j) + J) (vw pa (256 * j) (J + 1)))), (a8, aN cI 1024 tr), (a9, aI cI 256 so), (a10, aN cI 6 pl), (a11, aN cI 6 ot)] := hD
        rw [stO_up (by omega), shf_s hJ] at hP hD
        refine lv_iinc (v := (nI (J + 1))) (lv' := [(6, .int (nI (J + 1))), (4, .int (bI true)), (5, .int (nI (lo f (prN A B x) n))), (0, .ref hm), (1, .int (nI j)), (2, .long x)]) hx hb d_M_remove_227 hl (k := 0) rfl (nI_1 _) (by decide) rfl (fun ls hl => ?_)
        refine lv_goto (tgt := 181) hx hb d_M_remove_230 (by decide) ?_
        exact ih_181 (J + 1) (by omega) (by omega) H locs hP hD hS ls (lv_sub hl [0, 1, 2, 3, 4, 5] rfl)
    rw [← stO_sh0 pa (256 * j) (lo f (prN A B x) n)] at hP hD
    exact loop_181 (n - 1 - (lo f (prN A B x) n)) ((lo f (prN A B x) n)) (by omega) (Nat.le_refl _) H locs hP hD hS ls (lv_sub hl [0, 1, 2, 3, 4, 5] rfl)

theorem c_M_remove {l : Launch} {s0 : State} {D : va_G} {cI cF cJ : ClassId} (G : Gx l s0 D cI cF cJ) (hm a1 a2 a3 a4 a5 a6 a7 a8 a9 a10 a11 : Nat) (th : Int32) (S : Nat → FS) (j : Nat) (x : Int64) {H0 : Heap} {A0 : Nat → Prop} (hM : MP D cI hm a1 a2 a3 a4 a5 a6 a7 a8 a9 a10 a11 th S H0) (hD : va_D A0 (adM hm a1 a2 a3 a4 a5 a6 a7 a8 a9 a10 a11)) (hok : ∀ i, i < 4 → okS (S i)) (hj : j < 4) (h0 : (S j).1 ≠ 0) : Mx l s0 y_M_remove (.code y_M_remove b_M_remove 8 (some .int)) { frames := 7, cells := 0, slots := 0, locals := 170 } [.ref hm, .int (nI j), .long x] H0 (Aa [hm, a1, a2, a3, a4, a5, a6, a7, a8, a9, a10, a11] H0.size) (Rw (.int (if (remS (S j) x).1 then (remS (S j) x).2.2.2.2.1 else nI 0)) (fun H1 => MP D cI hm a1 a2 a3 a4 a5 a6 a7 a8 a9 a10 a11 (nI (if (remS (S j) x).1 then 0 else 3)) (va_up S j (remS (S j) x).2) H1)) := by
  rcases hSj : S j with ⟨kd, A, B, hd, pv, cs, n, f⟩
  rw [← hSj]
  have hoj := hok j hj
  rw [hSj] at hoj h0
  rcases hoj with h9 | h9 | h9 | h9
  · exact absurd h9 h0
  · obtain ⟨rfl, -⟩ := h9; exact c_M_remove_1 G hm a1 a2 a3 a4 a5 a6 a7 a8 a9 a10 a11 th S j A B n hd pv cs f x hM hD hok hj hSj
  · obtain ⟨rfl, -⟩ := h9; exact c_M_remove_2 G hm a1 a2 a3 a4 a5 a6 a7 a8 a9 a10 a11 th S j A B n hd pv cs f x hM hD hok hj hSj
  · obtain ⟨rfl, -⟩ := h9; exact c_M_remove_3 G hm a1 a2 a3 a4 a5 a6 a7 a8 a9 a10 a11 th S j A B n hd pv cs f x hM hD hok hj hSj
