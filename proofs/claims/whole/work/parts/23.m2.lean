set_option maxHeartbeats 4000000 in
set_option maxRecDepth 100000 in
theorem c_M_empty {l : Launch} {s0 : State} {D : va_G} {cI cF cJ : ClassId} (G : Gx l s0 D cI cF cJ) (hm a1 a2 a3 a4 a5 a6 a7 a8 a9 a10 a11 : Nat) (th : Int32) (ki ka kb : Nat → Nat) (zs pu : Nat → Int32) (ce pa tr : Nat → Nat) (so : Nat → Int32) (pl ot : Nat → Nat) (fN : Nat) {H0 : Heap} {A0 : Nat → Prop} (hP : va_P D vcl [(hm, .inr (4, [.int th, .ref a1, .ref a2, .ref a3, .ref a4, .ref a5, .ref a6, .ref a7, .ref a8, .ref a9, .ref a10, .ref a11])), (a1, aN cI 4 ki), (a2, aN cI 4 ka), (a3, aN cI 4 kb), (a4, aI cI 4 zs), (a5, aI cI 4 pu), (a6, aN cI 4096 ce), (a7, aN cI 1024 pa), (a8, aN cI 1024 tr), (a9, aI cI 256 so), (a10, aN cI 6 pl), (a11, aN cI 6 ot)] H0) (hD : va_D A0 [(hm, .inr (4, [.int th, .ref a1, .ref a2, .ref a3, .ref a4, .ref a5, .ref a6, .ref a7, .ref a8, .ref a9, .ref a10, .ref a11])), (a1, aN cI 4 ki), (a2, aN cI 4 ka), (a3, aN cI 4 kb), (a4, aI cI 4 zs), (a5, aI cI 4 pu), (a6, aN cI 4096 ce), (a7, aN cI 1024 pa), (a8, aN cI 1024 tr), (a9, aI cI 256 so), (a10, aN cI 6 pl), (a11, aN cI 6 ot)]) (hF : fN < 4) : Mx l s0 y_M_empty (.code y_M_empty b_M_empty 3 none) { frames := 0, cells := 0, slots := 0, locals := 0 } [.ref hm, .int (nI fN)] H0 (Aa [hm, a1, a2, a3, a4, a5, a6, a7, a8, a9, a10, a11] H0.size) (Rn (fun H1 => va_P D vcl [(hm, .inr (4, [.int th, .ref a1, .ref a2, .ref a3, .ref a4, .ref a5, .ref a6, .ref a7, .ref a8, .ref a9, .ref a10, .ref a11])), (a1, aN cI 4 ki), (a2, aN cI 4 ka), (a3, aN cI 4 kb), (a4, aI cI 4 (upd zs fN (nI 0))), (a5, aI cI 4 (upd pu fN (nI 0))), (a6, aN cI 4096 (stO 1024 ce (1024 * fN) (fun _ => 0))), (a7, aN cI 1024 pa), (a8, aN cI 1024 tr), (a9, aI cI 256 so), (a10, aN cI 6 pl), (a11, aN cI 6 ot)] H1)) := by
  refine Mx.ofW (own := "FewBitsModel") rfl rfl ?_
  rintro p e s m below meth c ⟨hx, hb, hml, hr, hown, hW, hlk⟩ hnm het hH
  have hK := G.k hW
  have hD := hD.aa (sz := H0.size)
  have hD : va_D (Aa [hm, a1, a2, a3, a4, a5, a6, a7, a8, a9, a10, a11] H0.size) [(hm, .inr (4, [.int th, .ref a1, .ref a2, .ref a3, .ref a4, .ref a5, .ref a6, .ref a7, .ref a8, .ref a9, .ref a10, .ref a11])), (a1, aN cI 4 ki), (a2, aN cI 4 ka), (a3, aN cI 4 kb), (a4, aI cI 4 zs), (a5, aI cI 4 pu), (a6, aN cI 4096 ce), (a7, aN cI 1024 pa), (a8, aN cI 1024 tr), (a9, aI cI 256 so), (a10, aN cI 6 pl), (a11, aN cI 6 ot)] := hD
  have hS : va_S (Aa [hm, a1, a2, a3, a4, a5, a6, a7, a8, a9, a10, a11] H0.size) H0 H0 [] := va_S.rf
  have hl := lv_entry ([.ref hm, .int (nI fN)]) (n := 3) (Nat.le_of_ble_eq_true rfl)
  rw [lg_entry_eq]
  generalize (lg_sl ([.ref hm, .int (nI fN)]) ++ List.replicate (3 - (lg_sl ([.ref hm, .int (nI fN)])).length) Slot.unset).toArray = ls at hl ⊢
  have hl : lv_has ls 3 [(0, .ref hm), (1, .int (nI fN))] := hl
  refine lv_aload_n hx hb d_M_empty_0 rfl (lv_at hl 0 rfl) ?_
  refine va_get (D := D) (ci := 4) (v := .ref a4) (C := R_M) (T := T_M) (N := 12) hx hb (us_M G hW) (fun _ h => h) hown hK hP 0 rfl rfl 4 (by decide) (fl_M_19 G hW) (fun _ h9 => h9) rfl d_M_empty_1 ?_
  refine lv_iload_n hx hb d_M_empty_4 rfl (lv_at hl 1 rfl) ?_
  refine lv_iconst (v := (nI 0)) hx hb d_M_empty_5 (by decide) ?_
  refine ia_st hx hb hK hP hD hS 4 (j := fN) rfl (hF) (by decide) d_M_empty_6 (fun H locs hP hD hS => ?_)
  have hP : va_P D vcl [(hm, .inr (4, [.int th, .ref a1, .ref a2, .ref a3, .ref a4, .ref a5, .ref a6, .ref a7, .ref a8, .ref a9, .ref a10, .ref a11])), (a1, aN cI 4 ki), (a2, aN cI 4 ka), (a3, aN cI 4 kb), (a4, aI cI 4 (upd zs fN (nI 0))), (a5, aI cI 4 pu), (a6, aN cI 4096 ce), (a7, aN cI 1024 pa), (a8, aN cI 1024 tr), (a9, aI cI 256 so), (a10, aN cI 6 pl), (a11, aN cI 6 ot)] H := hP
  have hD : va_D (Aa [hm, a1, a2, a3, a4, a5, a6, a7, a8, a9, a10, a11] H0.size) [(hm, .inr (4, [.int th, .ref a1, .ref a2, .ref a3, .ref a4, .ref a5, .ref a6, .ref a7, .ref a8, .ref a9, .ref a10, .ref a11])), (a1, aN cI 4 ki), (a2, aN cI 4 ka), (a3, aN cI 4 kb), (a4, aI cI 4 (upd zs fN (nI 0))), (a5, aI cI 4 pu), (a6, aN cI 4096 ce), (a7, aN cI 1024 pa), (a8, aN cI 1024 tr), (a9, aI cI 256 so), (a10, aN cI 6 pl), (a11, aN cI 6 ot)] := hD
  refine lv_aload_n hx hb d_M_empty_7 rfl (lv_at hl 0 rfl) ?_
  refine va_get (D := D) (ci := 4) (v := .ref a5) (C := R_M) (T := T_M) (N := 12) hx hb (us_M G hW) (fun _ h => h) hown hK hP 0 rfl rfl 5 (by decide) (fl_M_22 G hW) (fun _ h9 => h9) rfl d_M_empty_8 ?_
  refine lv_iload_n hx hb d_M_empty_11 rfl (lv_at hl 1 rfl) ?_
  refine lv_iconst (v := (nI 0)) hx hb d_M_empty_12 (by decide) ?_
  refine ia_st hx hb hK hP hD hS 5 (j := fN) rfl (hF) (by decide) d_M_empty_13 (fun H locs hP hD hS => ?_)
  have hP : va_P D vcl [(hm, .inr (4, [.int th, .ref a1, .ref a2, .ref a3, .ref a4, .ref a5, .ref a6, .ref a7, .ref a8, .ref a9, .ref a10, .ref a11])), (a1, aN cI 4 ki), (a2, aN cI 4 ka), (a3, aN cI 4 kb), (a4, aI cI 4 (upd zs fN (nI 0))), (a5, aI cI 4 (upd pu fN (nI 0))), (a6, aN cI 4096 ce), (a7, aN cI 1024 pa), (a8, aN cI 1024 tr), (a9, aI cI 256 so), (a10, aN cI 6 pl), (a11, aN cI 6 ot)] H := hP
  have hD : va_D (Aa [hm, a1, a2, a3, a4, a5, a6, a7, a8, a9, a10, a11] H0.size) [(hm, .inr (4, [.int th, .ref a1, .ref a2, .ref a3, .ref a4, .ref a5, .ref a6, .ref a7, .ref a8, .ref a9, .ref a10, .ref a11])), (a1, aN cI 4 ki), (a2, aN cI 4 ka), (a3, aN cI 4 kb), (a4, aI cI 4 (upd zs fN (nI 0))), (a5, aI cI 4 (upd pu fN (nI 0))), (a6, aN cI 4096 ce), (a7, aN cI 1024 pa), (a8, aN cI 1024 tr), (a9, aI cI 256 so), (a10, aN cI 6 pl), (a11, aN cI 6 ot)] := hD
  refine lv_iconst (v := (nI 0)) hx hb d_M_empty_14 (by decide) ?_
  refine lv_istore_n (lv' := [(2, .int (nI 0)), (0, .ref hm), (1, .int (nI fN))]) hx hb d_M_empty_15 rfl hl (by decide) rfl (fun ls hl => ?_)
  have loop_16 : ∀ (k : Nat) (i : Nat), (i + k = 1024) → ∀ (H : Heap) (locs : List Loc), va_P D vcl [(hm, .inr (4, [.int th, .ref a1, .ref a2, .ref a3, .ref a4, .ref a5, .ref a6, .ref a7, .ref a8, .ref a9, .ref a10, .ref a11])), (a1, aN cI 4 ki), (a2, aN cI 4 ka), (a3, aN cI 4 kb), (a4, aI cI 4 (upd zs fN (nI 0))), (a5, aI cI 4 (upd pu fN (nI 0))), (a6, aN cI 4096 (zer ce (1024 * fN) i)), (a7, aN cI 1024 pa), (a8, aN cI 1024 tr), (a9, aI cI 256 so), (a10, aN cI 6 pl), (a11, aN cI 6 ot)] H → va_D (Aa [hm, a1, a2, a3, a4, a5, a6, a7, a8, a9, a10, a11] H0.size) [(hm, .inr (4, [.int th, .ref a1, .ref a2, .ref a3, .ref a4, .ref a5, .ref a6, .ref a7, .ref a8, .ref a9, .ref a10, .ref a11])), (a1, aN cI 4 ki), (a2, aN cI 4 ka), (a3, aN cI 4 kb), (a4, aI cI 4 (upd zs fN (nI 0))), (a5, aI cI 4 (upd pu fN (nI 0))), (a6, aN cI 4096 (zer ce (1024 * fN) i)), (a7, aN cI 1024 pa), (a8, aN cI 1024 tr), (a9, aI cI 256 so), (a10, aN cI 6 pl), (a11, aN cI 6 ot)] → va_S (Aa [hm, a1, a2, a3, a4, a5, a6, a7, a8, a9, a10, a11] H0.size) H0 H locs → ∀ (ls : Array Slot), lv_has ls 3 [(2, .int (nI i)), (0, .ref hm), (1, .int (nI fN))] → W p l e { frames := 0, cells := 0, slots := 0, locals := 0 } s m ([.ref hm, .int (nI fN)] : List Value).toArray below meth c H locs 0 0 (MQx below (Rn (fun H1 => va_P D vcl [(hm, .inr (4, [.int th, .ref a1, .ref a2, .ref a3, .ref a4, .ref a5, .ref a6, .ref a7, .ref a8, .ref a9, .ref a10, .ref a11])), (a1, aN cI 4 ki), (a2, aN cI 4 ka), (a3, aN cI 4 kb), (a4, aI cI 4 (upd zs fN (nI 0))), (a5, aI cI 4 (upd pu fN (nI 0))), (a6, aN cI 4096 (stO 1024 ce (1024 * fN) (fun _ => 0))), (a7, aN cI 1024 pa), (a8, aN cI 1024 tr), (a9, aI cI 256 so), (a10, aN cI 6 pl), (a11, aN cI 6 ot)] H1)) s 0 0 (Aa [hm, a1, a2, a3, a4, a5, a6, a7, a8, a9, a10, a11] H0.size)) (F0 m 16 ls []) := by
    intro k
    induction k with
    | zero =>
      intro i hk H locs hP hD hS ls hl
      refine lv_iload_n hx hb d_M_empty_16 rfl (lv_at hl 0 rfl) ?_
      refine lv_sipush (v := (nI 1024)) hx hb d_M_empty_17 (by decide) ?_
      refine lv_icmp_ge (tgt := 42) hx hb d_M_empty_20 (by decide) (fun c_20 => ?_) (fun c_20 => absurd (nI_le (by omega) (by omega)) c_20)
      exact mx_vret hx hb hr hlk d_M_empty_42 (Nat.le_of_ble_eq_true rfl) (Nat.le_of_ble_eq_true rfl) hS.2.2 (⟨rfl, by rw [show i = 1024 by omega, zer_end] at hP; exact hP⟩)
    | succ k ih_16 =>
      intro i hk H locs hP hD hS ls hl
      refine lv_iload_n hx hb d_M_empty_16 rfl (lv_at hl 0 rfl) ?_
      refine lv_sipush (v := (nI 1024)) hx hb d_M_empty_17 (by decide) ?_
      refine lv_icmp_ge (tgt := 42) hx hb d_M_empty_20 (by decide) (fun c_20 => absurd c_20 (nI_ge (by omega) (by omega))) (fun c_20 => ?_)
      refine lv_aload_n hx hb d_M_empty_23 rfl (lv_at hl 1 rfl) ?_
      refine va_get (D := D) (ci := 4) (v := .ref a6) (C := R_M) (T := T_M) (N := 12) hx hb (us_M G hW) (fun _ h => h) hown hK hP 0 rfl rfl 6 (by decide) (fl_M_25 G hW) (fun _ h9 => h9) rfl d_M_empty_24 ?_
      refine lv_sipush (v := (nI 1024)) hx hb d_M_empty_27 (by decide) ?_
      refine lv_iload_n hx hb d_M_empty_30 rfl (lv_at hl 2 rfl) ?_
      refine lv_imul hx hb d_M_empty_31 ?_
      refine tp_i (y := (nI (1024 * fN))) (pk_mul _ _) ?_
      refine lv_iload_n hx hb d_M_empty_32 rfl (lv_at hl 0 rfl) ?_
      refine lv_iadd hx hb d_M_empty_33 ?_
      refine tp_i (y := (nI ((1024 * fN) + i))) (nI_add _ _) ?_
      refine lv_iconst (v := (nI 0)) hx hb d_M_empty_34 (by decide) ?_
      refine ia_stN hx hb hK hP hD hS 6 (j := ((1024 * fN) + i)) (x := 0) (f := (zer ce (1024 * fN) i)) rfl (by omega) (by decide) d_M_empty_35 (fun H locs hP hD hS => ?_)
      have hP : va_P D vcl [(hm, .inr (4, [.int th, .ref a1, .ref a2, .ref a3, .ref a4, .ref a5, .ref a6, .ref a7, .ref a8, .ref a9, .ref a10, .ref a11])), (a1, aN cI 4 ki), (a2, aN cI 4 ka), (a3, aN cI 4 kb), (a4, aI cI 4 (upd zs fN (nI 0))), (a5, aI cI 4 (upd pu fN (nI 0))), (a6, aN cI 4096 (va_up (zer ce (1024 * fN) i) ((1024 * fN) + i) 0)), (a7, aN cI 1024 pa), (a8, aN cI 1024 tr), (a9, aI cI 256 so), (a10, aN cI 6 pl), (a11, aN cI 6 ot)] H := hP
      have hD : va_D (Aa [hm, a1, a2, a3, a4, a5, a6, a7, a8, a9, a10, a11] H0.size) [(hm, .inr (4, [.int th, .ref a1, .ref a2, .ref a3, .ref a4, .ref a5, .ref a6, .ref a7, .ref a8, .ref a9, .ref a10, .ref a11])), (a1, aN cI 4 ki), (a2, aN cI 4 ka), (a3, aN cI 4 kb), (a4, aI cI 4 (upd zs fN (nI 0))), (a5, aI cI 4 (upd pu fN (nI 0))), (a6, aN cI 4096 (va_up (zer ce (1024 * fN) i) ((1024 * fN) + i) 0)), (a7, aN cI 1024 pa), (a8, aN cI 1024 tr), (a9, aI cI 256 so), (a10, aN cI 6 pl), (a11, aN cI 6 ot)] := hD
      rw [zer_s (by omega)] at hP hD
      refine lv_iinc (v := (nI (i + 1))) (lv' := [(2, .int (nI (i + 1))), (0, .ref hm), (1, .int (nI fN))]) hx hb d_M_empty_36 hl (k := 0) rfl (nI_1 _) (by decide) rfl (fun ls hl => ?_)
      refine lv_goto (tgt := 16) hx hb d_M_empty_39 (by decide) ?_
      exact ih_16 (i + 1) (by omega) H locs hP hD hS ls (lv_sub hl [0, 1, 2] rfl)
  rw [← zer_0 ce (1024 * fN)] at hP hD
  exact loop_16 (1024) (0) (by omega) H locs hP hD hS ls (lv_sub hl [0, 1, 2] rfl)

set_option maxHeartbeats 4000000 in
set_option maxRecDepth 100000 in
theorem c_M_addCounted_p {l : Launch} {s0 : State} {D : va_G} {cI cF cJ : ClassId} (G : Gx l s0 D cI cF cJ) (hm a1 a2 a3 a4 a5 a6 a7 a8 a9 a10 a11 : Nat) (th : Int32) (ki ka kb : Nat → Nat) (zs pu : Nat → Int32) (ce pa tr : Nat → Nat) (so : Nat → Int32) (pl ot : Nat → Nat) (fN : Nat) (A B : Nat) (x : Int64) {H0 : Heap} {A0 : Nat → Prop} (hP : va_P D vcl [(hm, .inr (4, [.int th, .ref a1, .ref a2, .ref a3, .ref a4, .ref a5, .ref a6, .ref a7, .ref a8, .ref a9, .ref a10, .ref a11])), (a1, aN cI 4 ki), (a2, aN cI 4 ka), (a3, aN cI 4 kb), (a4, aI cI 4 zs), (a5, aI cI 4 pu), (a6, aN cI 4096 ce), (a7, aN cI 1024 pa), (a8, aN cI 1024 tr), (a9, aI cI 256 so), (a10, aN cI 6 pl), (a11, aN cI 6 ot)] H0) (hD : va_D A0 [(hm, .inr (4, [.int th, .ref a1, .ref a2, .ref a3, .ref a4, .ref a5, .ref a6, .ref a7, .ref a8, .ref a9, .ref a10, .ref a11])), (a1, aN cI 4 ki), (a2, aN cI 4 ka), (a3, aN cI 4 kb), (a4, aI cI 4 zs), (a5, aI cI 4 pu), (a6, aN cI 4096 ce), (a7, aN cI 1024 pa), (a8, aN cI 1024 tr), (a9, aI cI 256 so), (a10, aN cI 6 pl), (a11, aN cI 6 ot)]) (hF : fN < 4) (hka : ka fN = A) (hkb : kb fN = B) (hA : A ≤ 10) (hB : B ≤ 6) (hc1 : ∀ j, j < 1024 → vw ce (1024 * fN) j ≤ 15) : Mx l s0 y_M_addCounted (.code y_M_addCounted b_M_addCounted 8 (some .boolean)) { frames := 2, cells := 0, slots := 0, locals := 50 } [.ref hm, .int (nI fN), .long x, .int (nI 1)] H0 (Aa [hm, a1, a2, a3, a4, a5, a6, a7, a8, a9, a10, a11] H0.size) (Rw (.int (bI (allN (fitA (vw ce (1024 * fN)) (fpr A x pl B) B) B))) (fun H1 => va_P D vcl [(hm, .inr (4, [.int th, .ref a1, .ref a2, .ref a3, .ref a4, .ref a5, .ref a6, .ref a7, .ref a8, .ref a9, .ref a10, .ref a11])), (a1, aN cI 4 ki), (a2, aN cI 4 ka), (a3, aN cI 4 kb), (a4, aI cI 4 zs), (a5, aI cI 4 pu), (a6, aN cI 4096 (if (allN (fitA (vw ce (1024 * fN)) (fpr A x pl B) B) B) then (stO 1024 ce (1024 * fN) (addC (vw ce (1024 * fN)) (fpr A x pl B) B)) else ce)), (a7, aN cI 1024 pa), (a8, aN cI 1024 tr), (a9, aI cI 256 so), (a10, aN cI 6 (fpr A x pl B)), (a11, aN cI 6 ot)] H1)) := by
  refine Mx.ofW (own := "FewBitsModel") rfl rfl ?_
  rintro p e s m below meth c ⟨hx, hb, hml, hr, hown, hW, hlk⟩ hnm het hH
  have hK := G.k hW
  have hD := hD.aa (sz := H0.size)
  have hD : va_D (Aa [hm, a1, a2, a3, a4, a5, a6, a7, a8, a9, a10, a11] H0.size) [(hm, .inr (4, [.int th, .ref a1, .ref a2, .ref a3, .ref a4, .ref a5, .ref a6, .ref a7, .ref a8, .ref a9, .ref a10, .ref a11])), (a1, aN cI 4 ki), (a2, aN cI 4 ka), (a3, aN cI 4 kb), (a4, aI cI 4 zs), (a5, aI cI 4 pu), (a6, aN cI 4096 ce), (a7, aN cI 1024 pa), (a8, aN cI 1024 tr), (a9, aI cI 256 so), (a10, aN cI 6 pl), (a11, aN cI 6 ot)] := hD
  have hS : va_S (Aa [hm, a1, a2, a3, a4, a5, a6, a7, a8, a9, a10, a11] H0.size) H0 H0 [] := va_S.rf
  have hl := lv_entry ([.ref hm, .int (nI fN), .long x, .int (nI 1)]) (n := 8) (Nat.le_of_ble_eq_true rfl)
  rw [lg_entry_eq]
  generalize (lg_sl ([.ref hm, .int (nI fN), .long x, .int (nI 1)]) ++ List.replicate (8 - (lg_sl ([.ref hm, .int (nI fN), .long x, .int (nI 1)])).length) Slot.unset).toArray = ls at hl ⊢
  have hl : lv_has ls 8 [(0, .ref hm), (1, .int (nI fN)), (2, .long x), (4, .int (nI 1))] := hl
  refine lv_aload_n hx hb d_M_addCounted_0 rfl (lv_at hl 0 rfl) ?_
  refine lv_iload_n hx hb d_M_addCounted_1 rfl (lv_at hl 1 rfl) ?_
  refine lv_lload_n hx hb d_M_addCounted_2 rfl (lv_at hl 2 rfl) ?_
  refine lv_aload_n hx hb d_M_addCounted_3 rfl (lv_at hl 0 rfl) ?_
  refine va_get (D := D) (ci := 4) (v := .ref a10) (C := R_M) (T := T_M) (N := 12) hx hb (us_M G hW) (fun _ h => h) hown hK hP 0 rfl rfl 10 (by decide) (fl_M_37 G hW) (fun _ h9 => h9) rfl d_M_addCounted_4 ?_
  refine mx_callN (c_M_findPlaces_10 G hm a1 a2 a3 a4 a5 a6 a7 a8 a9 a10 a11 th ki ka kb zs pu ce pa tr so pl ot fN A B x hP hD hF hka hkb hA hB) hW (iv_M_addCounted_7 G hx hb hown hW (va_recv hK hP (ci := 4) (q0 := 0) rfl rfl) [.int (nI fN), .long x, .ref a10] [] rfl) hml hl.1 (by rw [hb]; exact d_M_addCounted_7) (cd_M_findPlaces G hW) ⟨Nat.le_of_ble_eq_true rfl, Nat.le_of_ble_eq_true rfl⟩ (Nat.le_of_ble_eq_true rfl) (Nat.le_of_ble_eq_true rfl) (Nat.le_of_ble_eq_true rfl) hS (Aa.mono (fun _ h => h) hS.1) (fun H locs hP _ _ hS => ?_)
  have hP : va_P D vcl [(hm, .inr (4, [.int th, .ref a1, .ref a2, .ref a3, .ref a4, .ref a5, .ref a6, .ref a7, .ref a8, .ref a9, .ref a10, .ref a11])), (a1, aN cI 4 ki), (a2, aN cI 4 ka), (a3, aN cI 4 kb), (a4, aI cI 4 zs), (a5, aI cI 4 pu), (a6, aN cI 4096 ce), (a7, aN cI 1024 pa), (a8, aN cI 1024 tr), (a9, aI cI 256 so), (a10, aN cI 6 (fpr A x pl B)), (a11, aN cI 6 ot)] H := hP
  have hD : va_D (Aa [hm, a1, a2, a3, a4, a5, a6, a7, a8, a9, a10, a11] H0.size) [(hm, .inr (4, [.int th, .ref a1, .ref a2, .ref a3, .ref a4, .ref a5, .ref a6, .ref a7, .ref a8, .ref a9, .ref a10, .ref a11])), (a1, aN cI 4 ki), (a2, aN cI 4 ka), (a3, aN cI 4 kb), (a4, aI cI 4 zs), (a5, aI cI 4 pu), (a6, aN cI 4096 ce), (a7, aN cI 1024 pa), (a8, aN cI 1024 tr), (a9, aI cI 256 so), (a10, aN cI 6 (fpr A x pl B)), (a11, aN cI 6 ot)] := va_D.same2 [hm, a1, a2, a3, a4, a5, a6, a7, a8, a9, a10, a11] hD rfl rfl
  refine lv_iconst (v := (bI true)) hx hb d_M_addCounted_10 (by decide) ?_
  refine lv_istore (lv' := [(5, .int (bI true)), (0, .ref hm), (1, .int (nI fN)), (2, .long x), (4, .int (nI 1))]) hx hb d_M_addCounted_11 hl (by decide) rfl (fun ls hl => ?_)
  refine lv_iconst (v := (nI 0)) hx hb d_M_addCounted_13 (by decide) ?_
  refine lv_istore (lv' := [(6, .int (nI 0)), (5, .int (bI true)), (0, .ref hm), (1, .int (nI fN)), (2, .long x), (4, .int (nI 1))]) hx hb d_M_addCounted_14 hl (by decide) rfl (fun ls hl => ?_)
  have loop_16 : ∀ (k : Nat) (i : Nat) (b : Bool), (i + k = B) → (b = allN (fitA (vw ce (1024 * fN)) (fpr A x pl B) B) i) → ∀ (ls : Array Slot), lv_has ls 8 [(6, .int (nI i)), (5, .int (bI b)), (0, .ref hm), (1, .int (nI fN)), (2, .long x), (4, .int (nI 1))] → W p l e { frames := 2, cells := 0, slots := 0, locals := 50 } s m ([.ref hm, .int (nI fN), .long x, .int (nI 1)] : List Value).toArray below meth c H locs 0 0 (MQx below (Rw (.int (bI (allN (fitA (vw ce (1024 * fN)) (fpr A x pl B) B) B))) (fun H1 => va_P D vcl [(hm, .inr (4, [.int th, .ref a1, .ref a2, .ref a3, .ref a4, .ref a5, .ref a6, .ref a7, .ref a8, .ref a9, .ref a10, .ref a11])), (a1, aN cI 4 ki), (a2, aN cI 4 ka), (a3, aN cI 4 kb), (a4, aI cI 4 zs), (a5, aI cI 4 pu), (a6, aN cI 4096 (if (allN (fitA (vw ce (1024 * fN)) (fpr A x pl B) B) B) then (stO 1024 ce (1024 * fN) (addC (vw ce (1024 * fN)) (fpr A x pl B) B)) else ce)), (a7, aN cI 1024 pa), (a8, aN cI 1024 tr), (a9, aI cI 256 so), (a10, aN cI 6 (fpr A x pl B)), (a11, aN cI 6 ot)] H1)) s 0 0 (Aa [hm, a1, a2, a3, a4, a5, a6, a7, a8, a9, a10, a11] H0.size)) (F0 m 16 ls []) := by
    intro k
    induction k with
    | zero =>
      intro i b hk hbb  ls hl
      refine lv_iload hx hb d_M_addCounted_16 (lv_at hl 0 rfl) ?_
      refine lv_aload_n hx hb d_M_addCounted_18 rfl (lv_at hl 2 rfl) ?_
      refine va_get (D := D) (ci := 4) (v := .ref a3) (C := R_M) (T := T_M) (N := 12) hx hb (us_M G hW) (fun _ h => h) hown hK hP 0 rfl rfl 3 (by decide) (fl_M_16 G hW) (fun _ h9 => h9) rfl d_M_addCounted_19 ?_
      refine lv_iload_n hx hb d_M_addCounted_22 rfl (lv_at hl 3 rfl) ?_
      refine ia_ld hx hb hK hP 3 (j := fN) rfl (hF) (by decide) d_M_addCounted_23 ?_
      refine tp_i (y := (nI (kb fN))) rfl ?_
      refine tp_i (y := (nI B)) (by rw [hkb]) ?_
      refine lv_icmp_ge (tgt := 101) hx hb d_M_addCounted_24 (by decide) (fun c_24 => ?_) (fun c_24 => absurd (nI_le (by omega) (by omega)) c_24)
      rw [show i = B by omega] at hbb
      refine lv_iconst (v := (nI 0)) hx hb d_M_addCounted_101 (by decide) ?_
      refine lv_istore (lv' := [(6, .int (nI 0)), (5, .int (bI b)), (0, .ref hm), (1, .int (nI fN)), (2, .long x), (4, .int (nI 1))]) hx hb d_M_addCounted_102 hl (by decide) rfl (fun ls hl => ?_)
      have loop_104 : ∀ (k : Nat) (j : Nat), (j + k = B) → (b = true ∨ j = 0) → ∀ (H : Heap) (locs : List Loc), va_P D vcl [(hm, .inr (4, [.int th, .ref a1, .ref a2, .ref a3, .ref a4, .ref a5, .ref a6, .ref a7, .ref a8, .ref a9, .ref a10, .ref a11])), (a1, aN cI 4 ki), (a2, aN cI 4 ka), (a3, aN cI 4 kb), (a4, aI cI 4 zs), (a5, aI cI 4 pu), (a6, aN cI 4096 (stO 1024 ce (1024 * fN) (addC (vw ce (1024 * fN)) (fpr A x pl B) j))), (a7, aN cI 1024 pa), (a8, aN cI 1024 tr), (a9, aI cI 256 so), (a10, aN cI 6 (fpr A x pl B)), (a11, aN cI 6 ot)] H → va_D (Aa [hm, a1, a2, a3, a4, a5, a6, a7, a8, a9, a10, a11] H0.size) [(hm, .inr (4, [.int th, .ref a1, .ref a2, .ref a3, .ref a4, .ref a5, .ref a6, .ref a7, .ref a8, .ref a9, .ref a10, .ref a11])), (a1, aN cI 4 ki), (a2, aN cI 4 ka), (a3, aN cI 4 kb), (a4, aI cI 4 zs), (a5, aI cI 4 pu), (a6, aN cI 4096 (stO 1024 ce (1024 * fN) (addC (vw ce (1024 * fN)) (fpr A x pl B) j))), (a7, aN cI 1024 pa), (a8, aN cI 1024 tr), (a9, aI cI 256 so), (a10, aN cI 6 (fpr A x pl B)), (a11, aN cI 6 ot)] → va_S (Aa [hm, a1, a2, a3, a4, a5, a6, a7, a8, a9, a10, a11] H0.size) H0 H locs → ∀ (ls : Array Slot), lv_has ls 8 [(6, .int (nI j)), (5, .int (bI b)), (0, .ref hm), (1, .int (nI fN)), (2, .long x), (4, .int (nI 1))] → W p l e { frames := 2, cells := 0, slots := 0, locals := 50 } s m ([.ref hm, .int (nI fN), .long x, .int (nI 1)] : List Value).toArray below meth c H locs 0 0 (MQx below (Rw (.int (bI (allN (fitA (vw ce (1024 * fN)) (fpr A x pl B) B) B))) (fun H1 => va_P D vcl [(hm, .inr (4, [.int th, .ref a1, .ref a2, .ref a3, .ref a4, .ref a5, .ref a6, .ref a7, .ref a8, .ref a9, .ref a10, .ref a11])), (a1, aN cI 4 ki), (a2, aN cI 4 ka), (a3, aN cI 4 kb), (a4, aI cI 4 zs), (a5, aI cI 4 pu), (a6, aN cI 4096 (if (allN (fitA (vw ce (1024 * fN)) (fpr A x pl B) B) B) then (stO 1024 ce (1024 * fN) (addC (vw ce (1024 * fN)) (fpr A x pl B) B)) else ce)), (a7, aN cI 1024 pa), (a8, aN cI 1024 tr), (a9, aI cI 256 so), (a10, aN cI 6 (fpr A x pl B)), (a11, aN cI 6 ot)] H1)) s 0 0 (Aa [hm, a1, a2, a3, a4, a5, a6, a7, a8, a9, a10, a11] H0.size)) (F0 m 104 ls []) := by
        intro k
        induction k with
        | zero =>
          intro j hk2 hb2 H locs hP hD hS ls hl
          refine lv_iload hx hb d_M_addCounted_104 (lv_at hl 0 rfl) ?_
          refine lv_aload_n hx hb d_M_addCounted_106 rfl (lv_at hl 2 rfl) ?_
          refine va_get (D := D) (ci := 4) (v := .ref a3) (C := R_M) (T := T_M) (N := 12) hx hb (us_M G hW) (fun _ h => h) hown hK hP 0 rfl rfl 3 (by decide) (fl_M_16 G hW) (fun _ h9 => h9) rfl d_M_addCounted_107 ?_
          refine lv_iload_n hx hb d_M_addCounted_110 rfl (lv_at hl 3 rfl) ?_
          refine ia_ld hx hb hK hP 3 (j := fN) rfl (hF) (by decide) d_M_addCounted_111 ?_
          refine tp_i (y := (nI (kb fN))) rfl ?_
          refine tp_i (y := (nI B)) (by rw [hkb]) ?_
          refine lv_icmp_ge (tgt := 149) hx hb d_M_addCounted_112 (by decide) (fun c_112 => ?_) (fun c_112 => absurd (nI_le (by omega) (by omega)) c_112)
          refine lv_iload hx hb d_M_addCounted_149 (lv_at hl 1 rfl) ?_
          exact mx_zret hx hb hr hlk d_M_addCounted_151 (Nat.le_of_ble_eq_true rfl) (Nat.le_of_ble_eq_true rfl) hS.2.2 (bI_nar _) (⟨by rw [hbb], by cases b with | true => (rw [← hbb, if_pos rfl]; rw [show j = B by omega] at hP; exact hP) | false => (rcases hb2 with h9 | h9; (cases h9); (subst h9; rw [← hbb, if_neg (by decide)]; rw [addC_0, stO_self] at hP; exact hP))⟩)
        | succ k ih_104 =>
          intro j hk2 hb2 H locs hP hD hS ls hl
          refine lv_iload hx hb d_M_addCounted_104 (lv_at hl 0 rfl) ?_
          refine lv_aload_n hx hb d_M_addCounted_106 rfl (lv_at hl 2 rfl) ?_
          refine va_get (D := D) (ci := 4) (v := .ref a3) (C := R_M) (T := T_M) (N := 12) hx hb (us_M G hW) (fun _ h => h) hown hK hP 0 rfl rfl 3 (by decide) (fl_M_16 G hW) (fun _ h9 => h9) rfl d_M_addCounted_107 ?_
          refine lv_iload_n hx hb d_M_addCounted_110 rfl (lv_at hl 3 rfl) ?_
          refine ia_ld hx hb hK hP 3 (j := fN) rfl (hF) (by decide) d_M_addCounted_111 ?_
          refine tp_i (y := (nI (kb fN))) rfl ?_
          refine tp_i (y := (nI B)) (by rw [hkb]) ?_
          refine lv_icmp_ge (tgt := 149) hx hb d_M_addCounted_112 (by decide) (fun c_112 => absurd c_112 (nI_ge (by omega) (by omega))) (fun c_112 => ?_)
          refine lv_iload hx hb d_M_addCounted_115 (lv_at hl 1 rfl) ?_
          refine lv_if_eq (tgt := 149) hx hb d_M_addCounted_117 (by decide) (fun c_117 => ?_) (fun c_117 => ?_)
          · refine lv_iload hx hb d_M_addCounted_149 (lv_at hl 1 rfl) ?_
            exact mx_zret hx hb hr hlk d_M_addCounted_151 (Nat.le_of_ble_eq_true rfl) (Nat.le_of_ble_eq_true rfl) hS.2.2 (bI_nar _) (⟨by rw [hbb], by have h8 := bI_f c_117; rcases hb2 with h9 | h9; (rw [h8] at h9; cases h9); (subst h9; rw [← hbb, h8, if_neg (by decide)]; rw [addC_0, stO_self] at hP; exact hP)⟩)
          · refine lv_aload_n hx hb d_M_addCounted_120 rfl (lv_at hl 2 rfl) ?_
            refine va_get (D := D) (ci := 4) (v := .ref a6) (C := R_M) (T := T_M) (N := 12) hx hb (us_M G hW) (fun _ h => h) hown hK hP 0 rfl rfl 6 (by decide) (fl_M_25 G hW) (fun _ h9 => h9) rfl d_M_addCounted_121 ?_
            refine lv_sipush (v := (nI 1024)) hx hb d_M_addCounted_124 (by decide) ?_
            refine lv_iload_n hx hb d_M_addCounted_127 rfl (lv_at hl 3 rfl) ?_
            refine lv_imul hx hb d_M_addCounted_128 ?_
            refine tp_i (y := (nI (1024 * fN))) (pk_mul _ _) ?_
            refine lv_aload_n hx hb d_M_addCounted_129 rfl (lv_at hl 2 rfl) ?_
            refine va_get (D := D) (ci := 4) (v := .ref a10) (C := R_M) (T := T_M) (N := 12) hx hb (us_M G hW) (fun _ h => h) hown hK hP 0 rfl rfl 10 (by decide) (fl_M_37 G hW) (fun _ h9 => h9) rfl d_M_addCounted_130 ?_
            refine lv_iload hx hb d_M_addCounted_133 (lv_at hl 0 rfl) ?_
            refine ia_ld hx hb hK hP 10 (j := j) rfl (by omega) (by decide) d_M_addCounted_135 ?_
            refine tp_i (y := (nI ((fpr A x pl B) j))) rfl ?_
            refine lv_iadd hx hb d_M_addCounted_136 ?_
            refine tp_i (y := (nI ((1024 * fN) + (fpr A x pl B) j))) (nI_add _ _) ?_
            refine lv_dup2_11 hx hb d_M_addCounted_137 rfl rfl ?_
            refine ia_ld hx hb hK hP 6 (j := ((1024 * fN) + (fpr A x pl B) j)) rfl (by have := fpr_in (r := pl) (x := x) hA (show j < B by omega); omega) (by decide) d_M_addCounted_138 ?_
            refine tp_i (y := (nI ((stO 1024 ce (1024 * fN) (addC (vw ce (1024 * fN)) (fpr A x pl B) j)) ((1024 * fN) + (fpr A x pl B) j)))) rfl ?_
            refine tp_i (y := (nI (addC (vw ce (1024 * fN)) (fpr A x pl B) j ((fpr A x pl B) j)))) (by rw [stO_at (fpr_in hA (by omega))]) ?_
            refine lv_iload hx hb d_M_addCounted_139 (lv_at hl 5 rfl) ?_
            refine lv_iadd hx hb d_M_addCounted_141 ?_
            refine tp_i (y := (nI (addC (vw ce (1024 * fN)) (fpr A x pl B) j ((fpr A x pl B) j) + 1))) (nI_add _ _) ?_
            refine ia_stN hx hb hK hP hD hS 6 (j := ((1024 * fN) + (fpr A x pl B) j)) (x := (addC (vw ce (1024 * fN)) (fpr A x pl B) j ((fpr A x pl B) j) + 1)) (f := (stO 1024 ce (1024 * fN) (addC (vw ce (1024 * fN)) (fpr A x pl B) j))) rfl (by have := fpr_in (r := pl) (x := x) hA (show j < B by omega); omega) (by decide) d_M_addCounted_142 (fun H locs hP hD hS => ?_)
            have hP : va_P D vcl [(hm, .inr (4, [.int th, .ref a1, .ref a2, .ref a3, .ref a4, .ref a5, .ref a6, .ref a7, .ref a8, .ref a9, .ref a10, .ref a11])), (a1, aN cI 4 ki), (a2, aN cI 4 ka), (a3, aN cI 4 kb), (a4, aI cI 4 zs), (a5, aI cI 4 pu), (a6, aN cI 4096 (va_up (stO 1024 ce (1024 * fN) (addC (vw ce (1024 * fN)) (fpr A x pl B) j)) ((1024 * fN) + (fpr A x pl B) j) (addC (vw ce (1024 * fN)) (fpr A x pl B) j ((fpr A x pl B) j) + 1))), (a7, aN cI 1024 pa), (a8, aN cI 1024 tr), (a9, aI cI 256 so), (a10, aN cI 6 (fpr A x pl B)), (a11, aN cI 6 ot)] H := hP
            have hD : va_D (Aa [hm, a1, a2, a3, a4, a5, a6, a7, a8, a9, a10, a11] H0.size) [(hm, .inr (4, [.int th, .ref a1, .ref a2, .ref a3, .ref a4, .ref a5, .ref a6, .ref a7, .ref a8, .ref a9, .ref a10, .ref a11])), (a1, aN cI 4 ki), (a2, aN cI 4 ka), (a3, aN cI 4 kb), (a4, aI cI 4 zs), (a5, aI cI 4 pu), (a6, aN cI 4096 (va_up (stO 1024 ce (1024 * fN) (addC (vw ce (1024 * fN)) (fpr A x pl B) j)) ((1024 * fN) + (fpr A x pl B) j) (addC (vw ce (1024 * fN)) (fpr A x pl B) j ((fpr A x pl B) j) + 1))), (a7, aN cI 1024 pa), (a8, aN cI 1024 tr), (a9, aI cI 256 so), (a10, aN cI 6 (fpr A x pl B)), (a11, aN cI 6 ot)] := hD
            rw [stO_up (fpr_in hA (by omega)), addC_s] at hP hD
            refine lv_iinc (v := (nI (j + 1))) (lv' := [(6, .int (nI (j + 1))), (5, .int (bI b)), (0, .ref hm), (1, .int (nI fN)), (2, .long x), (4, .int (nI 1))]) hx hb d_M_addCounted_143 hl (k := 0) rfl (nI_1 _) (by decide) rfl (fun ls hl => ?_)
            refine lv_goto (tgt := 104) hx hb d_M_addCounted_146 (by decide) ?_
            exact ih_104 (j + 1) (by omega) (Or.inl (bI_t c_117)) H locs hP hD hS ls (lv_sub hl [0, 1, 2, 3, 4, 5] rfl)
      rw [← stO_self 1024 ce (1024 * fN)] at hP hD
      exact loop_104 (B) (0) (by omega) (Or.inr rfl) H locs hP hD hS ls (lv_sub hl [0, 1, 2, 3, 4, 5] rfl)
    | succ k ih_16 =>
      intro i b hk hbb  ls hl
      refine lv_iload hx hb d_M_addCounted_16 (lv_at hl 0 rfl) ?_
      refine lv_aload_n hx hb d_M_addCounted_18 rfl (lv_at hl 2 rfl) ?_
      refine va_get (D := D) (ci := 4) (v := .ref a3) (C := R_M) (T := T_M) (N := 12) hx hb (us_M G hW) (fun _ h => h) hown hK hP 0 rfl rfl 3 (by decide) (fl_M_16 G hW) (fun _ h9 => h9) rfl d_M_addCounted_19 ?_
      refine lv_iload_n hx hb d_M_addCounted_22 rfl (lv_at hl 3 rfl) ?_
      refine ia_ld hx hb hK hP 3 (j := fN) rfl (hF) (by decide) d_M_addCounted_23 ?_
      refine tp_i (y := (nI (kb fN))) rfl ?_
      refine tp_i (y := (nI B)) (by rw [hkb]) ?_
      refine lv_icmp_ge (tgt := 101) hx hb d_M_addCounted_24 (by decide) (fun c_24 => absurd c_24 (nI_ge (by omega) (by omega))) (fun c_24 => ?_)
      refine lv_aload_n hx hb d_M_addCounted_27 rfl (lv_at hl 2 rfl) ?_
      refine va_get (D := D) (ci := 4) (v := .ref a6) (C := R_M) (T := T_M) (N := 12) hx hb (us_M G hW) (fun _ h => h) hown hK hP 0 rfl rfl 6 (by decide) (fl_M_25 G hW) (fun _ h9 => h9) rfl d_M_addCounted_28 ?_
      refine lv_sipush (v := (nI 1024)) hx hb d_M_addCounted_31 (by decide) ?_
      refine lv_iload_n hx hb d_M_addCounted_34 rfl (lv_at hl 3 rfl) ?_
      refine lv_imul hx hb d_M_addCounted_35 ?_
      refine tp_i (y := (nI (1024 * fN))) (pk_mul _ _) ?_
      refine lv_aload_n hx hb d_M_addCounted_36 rfl (lv_at hl 2 rfl) ?_
      refine va_get (D := D) (ci := 4) (v := .ref a10) (C := R_M) (T := T_M) (N := 12) hx hb (us_M G hW) (fun _ h => h) hown hK hP 0 rfl rfl 10 (by decide) (fl_M_37 G hW) (fun _ h9 => h9) rfl d_M_addCounted_37 ?_
      refine lv_iload hx hb d_M_addCounted_40 (lv_at hl 0 rfl) ?_
      refine ia_ld hx hb hK hP 10 (j := i) rfl (by omega) (by decide) d_M_addCounted_42 ?_
      refine tp_i (y := (nI ((fpr A x pl B) i))) rfl ?_
      refine lv_iadd hx hb d_M_addCounted_43 ?_
      refine tp_i (y := (nI ((1024 * fN) + (fpr A x pl B) i))) (nI_add _ _) ?_
      refine ia_ld hx hb hK hP 6 (j := ((1024 * fN) + (fpr A x pl B) i)) rfl (by have := fpr_in (r := pl) (x := x) hA (show i < B by omega); omega) (by decide) d_M_addCounted_44 ?_
      refine tp_i (y := (nI (ce ((1024 * fN) + (fpr A x pl B) i)))) rfl ?_
      refine tp_i (y := (nI (vw ce (1024 * fN) ((fpr A x pl B) i)))) (rfl) ?_
      refine lv_iload hx hb d_M_addCounted_45 (lv_at hl 5 rfl) ?_
      refine lv_aload_n hx hb d_M_addCounted_47 rfl (lv_at hl 2 rfl) ?_
      refine va_get (D := D) (ci := 4) (v := .ref a10) (C := R_M) (T := T_M) (N := 12) hx hb (us_M G hW) (fun _ h => h) hown hK hP 0 rfl rfl 10 (by decide) (fl_M_37 G hW) (fun _ h9 => h9) rfl d_M_addCounted_48 ?_
      refine lv_aload_n hx hb d_M_addCounted_51 rfl (lv_at hl 2 rfl) ?_
      refine va_get (D := D) (ci := 4) (v := .ref a3) (C := R_M) (T := T_M) (N := 12) hx hb (us_M G hW) (fun _ h => h) hown hK hP 0 rfl rfl 3 (by decide) (fl_M_16 G hW) (fun _ h9 => h9) rfl d_M_addCounted_52 ?_
      refine lv_iload_n hx hb d_M_addCounted_55 rfl (lv_at hl 3 rfl) ?_
      refine ia_ld hx hb hK hP 3 (j := fN) rfl (hF) (by decide) d_M_addCounted_56 ?_
      refine tp_i (y := (nI (kb fN))) rfl ?_
      refine tp_i (y := (nI B)) (by rw [hkb]) ?_
      refine lv_aload_n hx hb d_M_addCounted_57 rfl (lv_at hl 2 rfl) ?_
      refine va_get (D := D) (ci := 4) (v := .ref a10) (C := R_M) (T := T_M) (N := 12) hx hb (us_M G hW) (fun _ h => h) hown hK hP 0 rfl rfl 10 (by decide) (fl_M_37 G hW) (fun _ h9 => h9) rfl d_M_addCounted_58 ?_
      refine lv_iload hx hb d_M_addCounted_61 (lv_at hl 0 rfl) ?_
      refine ia_ld hx hb hK hP 10 (j := i) rfl (by omega) (by decide) d_M_addCounted_63 ?_
      refine tp_i (y := (nI ((fpr A x pl B) i))) rfl ?_
      refine mx_callR (r := .int (nI (cnt (fpr A x pl B) ((fpr A x pl B) i) B))) (c_M_howOften_10 G hm a1 a2 a3 a4 a5 a6 a7 a8 a9 a10 a11 th ki ka kb zs pu ce pa tr so (fpr A x pl B) ot B ((fpr A x pl B) i) hP hB (fun j hj => fpr_in hA hj) (fpr_in hA (by omega))) hW (iv_M_addCounted_64 G hx hb hown hW [.ref a10, .int (nI B), .int (nI ((fpr A x pl B) i))] [.int (nI 1), .int (nI (vw ce (1024 * fN) ((fpr A x pl B) i)))] rfl) hml hl.1 (by rw [hb]; exact d_M_addCounted_64) (cd_M_howOften G hW) ⟨Nat.le_of_ble_eq_true rfl, Nat.le_of_ble_eq_true rfl⟩ rfl rfl (Nat.le_of_ble_eq_true rfl) (Nat.le_of_ble_eq_true rfl) (Nat.le_of_ble_eq_true rfl) ?_
      refine lv_imul hx hb d_M_addCounted_67 ?_
      refine tp_i (y := (nI (cnt (fpr A x pl B) ((fpr A x pl B) i) B))) (by rw [pk_mul, Nat.one_mul]) ?_
      refine lv_iadd hx hb d_M_addCounted_68 ?_
      refine tp_i (y := (nI ((vw ce (1024 * fN) ((fpr A x pl B) i)) + (cnt (fpr A x pl B) ((fpr A x pl B) i) B)))) (nI_add _ _) ?_
      refine lv_istore (lv' := [(7, .int (nI ((vw ce (1024 * fN) ((fpr A x pl B) i)) + (cnt (fpr A x pl B) ((fpr A x pl B) i) B)))), (6, .int (nI i)), (5, .int (bI b)), (0, .ref hm), (1, .int (nI fN)), (2, .long x), (4, .int (nI 1))]) hx hb d_M_addCounted_69 hl (by decide) rfl (fun ls hl => ?_)
      refine lv_iload hx hb d_M_addCounted_71 (lv_at hl 2 rfl) ?_
      refine lv_if_eq (tgt := 92) hx hb d_M_addCounted_73 (by decide) (fun c_73 => ?_) (fun c_73 => ?_)
      · refine lv_iconst (v := (bI false)) hx hb d_M_addCounted_92 (by decide) ?_
        refine lv_istore (lv' := [(5, .int (bI false)), (7, .int (nI ((vw ce (1024 * fN) ((fpr A x pl B) i)) + (cnt (fpr A x pl B) ((fpr A x pl B) i) B)))), (6, .int (nI i)), (0, .ref hm), (1, .int (nI fN)), (2, .long x), (4, .int (nI 1))]) hx hb d_M_addCounted_93 hl (by decide) rfl (fun ls hl => ?_)
        refine lv_iinc (v := (nI (i + 1))) (lv' := [(6, .int (nI (i + 1))), (5, .int (bI false)), (7, .int (nI ((vw ce (1024 * fN) ((fpr A x pl B) i)) + (cnt (fpr A x pl B) ((fpr A x pl B) i) B)))), (0, .ref hm), (1, .int (nI fN)), (2, .long x), (4, .int (nI 1))]) hx hb d_M_addCounted_95 hl (k := 2) rfl (nI_1 _) (by decide) rfl (fun ls hl => ?_)
        refine lv_goto (tgt := 16) hx hb d_M_addCounted_98 (by decide) ?_
        exact ih_16 (i + 1) (false) (by omega) (by show false = (_ && _); rw [← hbb, bI_f c_73]; rfl) ls (lv_sub hl [0, 1, 3, 4, 5, 6] rfl)
      · refine lv_iload hx hb d_M_addCounted_76 (lv_at hl 0 rfl) ?_
        refine lv_if_lt (tgt := 92) hx hb d_M_addCounted_78 (by decide) (fun c_78 => absurd c_78 (nI_pos (by have h9 := cnt_le (fpr A x pl B) ((fpr A x pl B) i) B; have hcv : (vw ce (1024 * fN) ((fpr A x pl B) i)) ≤ 15 := hc1 _ (fpr_in hA (by omega)); omega))) (fun c_78 => ?_)
        refine lv_iload hx hb d_M_addCounted_81 (lv_at hl 0 rfl) ?_
        refine lv_bipush (v := (nI 15)) hx hb d_M_addCounted_83 (by decide) ?_
        refine lv_icmp_gt (tgt := 92) hx hb d_M_addCounted_85 (by decide) (fun c_85 => ?_) (fun c_85 => ?_)
        · refine lv_iconst (v := (bI false)) hx hb d_M_addCounted_92 (by decide) ?_
          refine lv_istore (lv' := [(5, .int (bI false)), (7, .int (nI ((vw ce (1024 * fN) ((fpr A x pl B) i)) + (cnt (fpr A x pl B) ((fpr A x pl B) i) B)))), (6, .int (nI i)), (0, .ref hm), (1, .int (nI fN)), (2, .long x), (4, .int (nI 1))]) hx hb d_M_addCounted_93 hl (by decide) rfl (fun ls hl => ?_)
          refine lv_iinc (v := (nI (i + 1))) (lv' := [(6, .int (nI (i + 1))), (5, .int (bI false)), (7, .int (nI ((vw ce (1024 * fN) ((fpr A x pl B) i)) + (cnt (fpr A x pl B) ((fpr A x pl B) i) B)))), (0, .ref hm), (1, .int (nI fN)), (2, .long x), (4, .int (nI 1))]) hx hb d_M_addCounted_95 hl (k := 2) rfl (nI_1 _) (by decide) rfl (fun ls hl => ?_)
          refine lv_goto (tgt := 16) hx hb d_M_addCounted_98 (by decide) ?_
          exact ih_16 (i + 1) (false) (by omega) (by have h8 : fitA (vw ce (1024 * fN)) (fpr A x pl B) B i = false := decide_eq_false (fun h9 => nI_nlt h9 (by decide) c_85); exact (allN_f (Nat.lt_succ_self i) h8).symm) ls (lv_sub hl [0, 1, 3, 4, 5, 6] rfl)
        · refine lv_iconst (v := (bI true)) hx hb d_M_addCounted_88 (by decide) ?_
          refine lv_goto (tgt := 93) hx hb d_M_addCounted_89 (by decide) ?_
          refine lv_istore (lv' := [(5, .int (bI true)), (7, .int (nI ((vw ce (1024 * fN) ((fpr A x pl B) i)) + (cnt (fpr A x pl B) ((fpr A x pl B) i) B)))), (6, .int (nI i)), (0, .ref hm), (1, .int (nI fN)), (2, .long x), (4, .int (nI 1))]) hx hb d_M_addCounted_93 hl (by decide) rfl (fun ls hl => ?_)
          refine lv_iinc (v := (nI (i + 1))) (lv' := [(6, .int (nI (i + 1))), (5, .int (bI true)), (7, .int (nI ((vw ce (1024 * fN) ((fpr A x pl B) i)) + (cnt (fpr A x pl B) ((fpr A x pl B) i) B)))), (0, .ref hm), (1, .int (nI fN)), (2, .long x), (4, .int (nI 1))]) hx hb d_M_addCounted_95 hl (k := 2) rfl (nI_1 _) (by decide) rfl (fun ls hl => ?_)
          refine lv_goto (tgt := 16) hx hb d_M_addCounted_98 (by decide) ?_
          exact ih_16 (i + 1) (true) (by omega) (by have h8 : fitA (vw ce (1024 * fN)) (fpr A x pl B) B i = true := decide_eq_true (Nat.not_lt.mp (fun h9 => c_85 (nI_lt h9 (by have h9 := cnt_le (fpr A x pl B) ((fpr A x pl B) i) B; have hcv : (vw ce (1024 * fN) ((fpr A x pl B) i)) ≤ 15 := hc1 _ (fpr_in hA (by omega)); omega)))); exact (allN_s (by rw [← hbb]; exact bI_t c_73) h8).symm) ls (lv_sub hl [0, 1, 3, 4, 5, 6] rfl)
  exact loop_16 (B) (0) (true) (by omega) (rfl) ls (lv_sub hl [0, 1, 2, 3, 4, 5] rfl)

set_option maxHeartbeats 4000000 in
set_option maxRecDepth 100000 in
theorem c_M_addCounted_m {l : Launch} {s0 : State} {D : va_G} {cI cF cJ : ClassId} (G : Gx l s0 D cI cF cJ) (hm a1 a2 a3 a4 a5 a6 a7 a8 a9 a10 a11 : Nat) (th : Int32) (ki ka kb : Nat → Nat) (zs pu : Nat → Int32) (ce pa tr : Nat → Nat) (so : Nat → Int32) (pl ot : Nat → Nat) (fN : Nat) (A B : Nat) (x : Int64) {H0 : Heap} {A0 : Nat → Prop} (hP : va_P D vcl [(hm, .inr (4, [.int th, .ref a1, .ref a2, .ref a3, .ref a4, .ref a5, .ref a6, .ref a7, .ref a8, .ref a9, .ref a10, .ref a11])), (a1, aN cI 4 ki), (a2, aN cI 4 ka), (a3, aN cI 4 kb), (a4, aI cI 4 zs), (a5, aI cI 4 pu), (a6, aN cI 4096 ce), (a7, aN cI 1024 pa), (a8, aN cI 1024 tr), (a9, aI cI 256 so), (a10, aN cI 6 pl), (a11, aN cI 6 ot)] H0) (hD : va_D A0 [(hm, .inr (4, [.int th, .ref a1, .ref a2, .ref a3, .ref a4, .ref a5, .ref a6, .ref a7, .ref a8, .ref a9, .ref a10, .ref a11])), (a1, aN cI 4 ki), (a2, aN cI 4 ka), (a3, aN cI 4 kb), (a4, aI cI 4 zs), (a5, aI cI 4 pu), (a6, aN cI 4096 ce), (a7, aN cI 1024 pa), (a8, aN cI 1024 tr), (a9, aI cI 256 so), (a10, aN cI 6 pl), (a11, aN cI 6 ot)]) (hF : fN < 4) (hka : ka fN = A) (hkb : kb fN = B) (hA : A ≤ 10) (hB : B ≤ 6) (hc1 : ∀ j, j < 1024 → vw ce (1024 * fN) j ≤ 15) : Mx l s0 y_M_addCounted (.code y_M_addCounted b_M_addCounted 8 (some .boolean)) { frames := 2, cells := 0, slots := 0, locals := 50 } [.ref hm, .int (nI fN), .long x, .int (-1)] H0 (Aa [hm, a1, a2, a3, a4, a5, a6, a7, a8, a9, a10, a11] H0.size) (Rw (.int (bI (allN (fitS (vw ce (1024 * fN)) (fpr A x pl B) B) B))) (fun H1 => va_P D vcl [(hm, .inr (4, [.int th, .ref a1, .ref a2, .ref a3, .ref a4, .ref a5, .ref a6, .ref a7, .ref a8, .ref a9, .ref a10, .ref a11])), (a1, aN cI 4 ki), (a2, aN cI 4 ka), (a3, aN cI 4 kb), (a4, aI cI 4 zs), (a5, aI cI 4 pu), (a6, aN cI 4096 (if (allN (fitS (vw ce (1024 * fN)) (fpr A x pl B) B) B) then (stO 1024 ce (1024 * fN) (subC (vw ce (1024 * fN)) (fpr A x pl B) B)) else ce)), (a7, aN cI 1024 pa), (a8, aN cI 1024 tr), (a9, aI cI 256 so), (a10, aN cI 6 (fpr A x pl B)), (a11, aN cI 6 ot)] H1)) := by
  refine Mx.ofW (own := "FewBitsModel") rfl rfl ?_
  rintro p e s m below meth c ⟨hx, hb, hml, hr, hown, hW, hlk⟩ hnm het hH
  have hK := G.k hW
  have hD := hD.aa (sz := H0.size)
  have hD : va_D (Aa [hm, a1, a2, a3, a4, a5, a6, a7, a8, a9, a10, a11] H0.size) [(hm, .inr (4, [.int th, .ref a1, .ref a2, .ref a3, .ref a4, .ref a5, .ref a6, .ref a7, .ref a8, .ref a9, .ref a10, .ref a11])), (a1, aN cI 4 ki), (a2, aN cI 4 ka), (a3, aN cI 4 kb), (a4, aI cI 4 zs), (a5, aI cI 4 pu), (a6, aN cI 4096 ce), (a7, aN cI 1024 pa), (a8, aN cI 1024 tr), (a9, aI cI 256 so), (a10, aN cI 6 pl), (a11, aN cI 6 ot)] := hD
  have hS : va_S (Aa [hm, a1, a2, a3, a4, a5, a6, a7, a8, a9, a10, a11] H0.size) H0 H0 [] := va_S.rf
  have hl := lv_entry ([.ref hm, .int (nI fN), .long x, .int (-1)]) (n := 8) (Nat.le_of_ble_eq_true rfl)
  rw [lg_entry_eq]
  generalize (lg_sl ([.ref hm, .int (nI fN), .long x, .int (-1)]) ++ List.replicate (8 - (lg_sl ([.ref hm, .int (nI fN), .long x, .int (-1)])).length) Slot.unset).toArray = ls at hl ⊢
  have hl : lv_has ls 8 [(0, .ref hm), (1, .int (nI fN)), (2, .long x), (4, .int (-1))] := hl
  refine lv_aload_n hx hb d_M_addCounted_0 rfl (lv_at hl 0 rfl) ?_
  refine lv_iload_n hx hb d_M_addCounted_1 rfl (lv_at hl 1 rfl) ?_
  refine lv_lload_n hx hb d_M_addCounted_2 rfl (lv_at hl 2 rfl) ?_
  refine lv_aload_n hx hb d_M_addCounted_3 rfl (lv_at hl 0 rfl) ?_
  refine va_get (D := D) (ci := 4) (v := .ref a10) (C := R_M) (T := T_M) (N := 12) hx hb (us_M G hW) (fun _ h => h) hown hK hP 0 rfl rfl 10 (by decide) (fl_M_37 G hW) (fun _ h9 => h9) rfl d_M_addCounted_4 ?_
  refine mx_callN (c_M_findPlaces_10 G hm a1 a2 a3 a4 a5 a6 a7 a8 a9 a10 a11 th ki ka kb zs pu ce pa tr so pl ot fN A B x hP hD hF hka hkb hA hB) hW (iv_M_addCounted_7 G hx hb hown hW (va_recv hK hP (ci := 4) (q0 := 0) rfl rfl) [.int (nI fN), .long x, .ref a10] [] rfl) hml hl.1 (by rw [hb]; exact d_M_addCounted_7) (cd_M_findPlaces G hW) ⟨Nat.le_of_ble_eq_true rfl, Nat.le_of_ble_eq_true rfl⟩ (Nat.le_of_ble_eq_true rfl) (Nat.le_of_ble_eq_true rfl) (Nat.le_of_ble_eq_true rfl) hS (Aa.mono (fun _ h => h) hS.1) (fun H locs hP _ _ hS => ?_)
  have hP : va_P D vcl [(hm, .inr (4, [.int th, .ref a1, .ref a2, .ref a3, .ref a4, .ref a5, .ref a6, .ref a7, .ref a8, .ref a9, .ref a10, .ref a11])), (a1, aN cI 4 ki), (a2, aN cI 4 ka), (a3, aN cI 4 kb), (a4, aI cI 4 zs), (a5, aI cI 4 pu), (a6, aN cI 4096 ce), (a7, aN cI 1024 pa), (a8, aN cI 1024 tr), (a9, aI cI 256 so), (a10, aN cI 6 (fpr A x pl B)), (a11, aN cI 6 ot)] H := hP
  have hD : va_D (Aa [hm, a1, a2, a3, a4, a5, a6, a7, a8, a9, a10, a11] H0.size) [(hm, .inr (4, [.int th, .ref a1, .ref a2, .ref a3, .ref a4, .ref a5, .ref a6, .ref a7, .ref a8, .ref a9, .ref a10, .ref a11])), (a1, aN cI 4 ki), (a2, aN cI 4 ka), (a3, aN cI 4 kb), (a4, aI cI 4 zs), (a5, aI cI 4 pu), (a6, aN cI 4096 ce), (a7, aN cI 1024 pa), (a8, aN cI 1024 tr), (a9, aI cI 256 so), (a10, aN cI 6 (fpr A x pl B)), (a11, aN cI 6 ot)] := va_D.same2 [hm, a1, a2, a3, a4, a5, a6, a7, a8, a9, a10, a11] hD rfl rfl
  refine lv_iconst (v := (bI true)) hx hb d_M_addCounted_10 (by decide) ?_
  refine lv_istore (lv' := [(5, .int (bI true)), (0, .ref hm), (1, .int (nI fN)), (2, .long x), (4, .int (-1))]) hx hb d_M_addCounted_11 hl (by decide) rfl (fun ls hl => ?_)
  refine lv_iconst (v := (nI 0)) hx hb d_M_addCounted_13 (by decide) ?_
  refine lv_istore (lv' := [(6, .int (nI 0)), (5, .int (bI true)), (0, .ref hm), (1, .int (nI fN)), (2, .long x), (4, .int (-1))]) hx hb d_M_addCounted_14 hl (by decide) rfl (fun ls hl => ?_)
  have loop_16 : ∀ (k : Nat) (i : Nat) (b : Bool), (i + k = B) → (b = allN (fitS (vw ce (1024 * fN)) (fpr A x pl B) B) i) → ∀ (ls : Array Slot), lv_has ls 8 [(6, .int (nI i)), (5, .int (bI b)), (0, .ref hm), (1, .int (nI fN)), (2, .long x), (4, .int (-1))] → W p l e { frames := 2, cells := 0, slots := 0, locals := 50 } s m ([.ref hm, .int (nI fN), .long x, .int (-1)] : List Value).toArray below meth c H locs 0 0 (MQx below (Rw (.int (bI (allN (fitS (vw ce (1024 * fN)) (fpr A x pl B) B) B))) (fun H1 => va_P D vcl [(hm, .inr (4, [.int th, .ref a1, .ref a2, .ref a3, .ref a4, .ref a5, .ref a6, .ref a7, .ref a8, .ref a9, .ref a10, .ref a11])), (a1, aN cI 4 ki), (a2, aN cI 4 ka), (a3, aN cI 4 kb), (a4, aI cI 4 zs), (a5, aI cI 4 pu), (a6, aN cI 4096 (if (allN (fitS (vw ce (1024 * fN)) (fpr A x pl B) B) B) then (stO 1024 ce (1024 * fN) (subC (vw ce (1024 * fN)) (fpr A x pl B) B)) else ce)), (a7, aN cI 1024 pa), (a8, aN cI 1024 tr), (a9, aI cI 256 so), (a10, aN cI 6 (fpr A x pl B)), (a11, aN cI 6 ot)] H1)) s 0 0 (Aa [hm, a1, a2, a3, a4, a5, a6, a7, a8, a9, a10, a11] H0.size)) (F0 m 16 ls []) := by
    intro k
    induction k with
    | zero =>
      intro i b hk hbb  ls hl
      refine lv_iload hx hb d_M_addCounted_16 (lv_at hl 0 rfl) ?_
      refine lv_aload_n hx hb d_M_addCounted_18 rfl (lv_at hl 2 rfl) ?_
      refine va_get (D := D) (ci := 4) (v := .ref a3) (C := R_M) (T := T_M) (N := 12) hx hb (us_M G hW) (fun _ h => h) hown hK hP 0 rfl rfl 3 (by decide) (fl_M_16 G hW) (fun _ h9 => h9) rfl d_M_addCounted_19 ?_
      refine lv_iload_n hx hb d_M_addCounted_22 rfl (lv_at hl 3 rfl) ?_
      refine ia_ld hx hb hK hP 3 (j := fN) rfl (hF) (by decide) d_M_addCounted_23 ?_
      refine tp_i (y := (nI (kb fN))) rfl ?_
      refine tp_i (y := (nI B)) (by rw [hkb]) ?_
      refine lv_icmp_ge (tgt := 101) hx hb d_M_addCounted_24 (by decide) (fun c_24 => ?_) (fun c_24 => absurd (nI_le (by omega) (by omega)) c_24)
      rw [show i = B by omega] at hbb
      refine lv_iconst (v := (nI 0)) hx hb d_M_addCounted_101 (by decide) ?_
      refine lv_istore (lv' := [(6, .int (nI 0)), (5, .int (bI b)), (0, .ref hm), (1, .int (nI fN)), (2, .long x), (4, .int (-1))]) hx hb d_M_addCounted_102 hl (by decide) rfl (fun ls hl => ?_)
      have loop_104 : ∀ (k : Nat) (j : Nat), (j + k = B) → (b = true ∨ j = 0) → ∀ (H : Heap) (locs : List Loc), va_P D vcl [(hm, .inr (4, [.int th, .ref a1, .ref a2, .ref a3, .ref a4, .ref a5, .ref a6, .ref a7, .ref a8, .ref a9, .ref a10, .ref a11])), (a1, aN cI 4 ki), (a2, aN cI 4 ka), (a3, aN cI 4 kb), (a4, aI cI 4 zs), (a5, aI cI 4 pu), (a6, aN cI 4096 (stO 1024 ce (1024 * fN) (subC (vw ce (1024 * fN)) (fpr A x pl B) j))), (a7, aN cI 1024 pa), (a8, aN cI 1024 tr), (a9, aI cI 256 so), (a10, aN cI 6 (fpr A x pl B)), (a11, aN cI 6 ot)] H → va_D (Aa [hm, a1, a2, a3, a4, a5, a6, a7, a8, a9, a10, a11] H0.size) [(hm, .inr (4, [.int th, .ref a1, .ref a2, .ref a3, .ref a4, .ref a5, .ref a6, .ref a7, .ref a8, .ref a9, .ref a10, .ref a11])), (a1, aN cI 4 ki), (a2, aN cI 4 ka), (a3, aN cI 4 kb), (a4, aI cI 4 zs), (a5, aI cI 4 pu), (a6, aN cI 4096 (stO 1024 ce (1024 * fN) (subC (vw ce (1024 * fN)) (fpr A x pl B) j))), (a7, aN cI 1024 pa), (a8, aN cI 1024 tr), (a9, aI cI 256 so), (a10, aN cI 6 (fpr A x pl B)), (a11, aN cI 6 ot)] → va_S (Aa [hm, a1, a2, a3, a4, a5, a6, a7, a8, a9, a10, a11] H0.size) H0 H locs → ∀ (ls : Array Slot), lv_has ls 8 [(6, .int (nI j)), (5, .int (bI b)), (0, .ref hm), (1, .int (nI fN)), (2, .long x), (4, .int (-1))] → W p l e { frames := 2, cells := 0, slots := 0, locals := 50 } s m ([.ref hm, .int (nI fN), .long x, .int (-1)] : List Value).toArray below meth c H locs 0 0 (MQx below (Rw (.int (bI (allN (fitS (vw ce (1024 * fN)) (fpr A x pl B) B) B))) (fun H1 => va_P D vcl [(hm, .inr (4, [.int th, .ref a1, .ref a2, .ref a3, .ref a4, .ref a5, .ref a6, .ref a7, .ref a8, .ref a9, .ref a10, .ref a11])), (a1, aN cI 4 ki), (a2, aN cI 4 ka), (a3, aN cI 4 kb), (a4, aI cI 4 zs), (a5, aI cI 4 pu), (a6, aN cI 4096 (if (allN (fitS (vw ce (1024 * fN)) (fpr A x pl B) B) B) then (stO 1024 ce (1024 * fN) (subC (vw ce (1024 * fN)) (fpr A x pl B) B)) else ce)), (a7, aN cI 1024 pa), (a8, aN cI 1024 tr), (a9, aI cI 256 so), (a10, aN cI 6 (fpr A x pl B)), (a11, aN cI 6 ot)] H1)) s 0 0 (Aa [hm, a1, a2, a3, a4, a5, a6, a7, a8, a9, a10, a11] H0.size)) (F0 m 104 ls []) := by
        intro k
        induction k with
        | zero =>
          intro j hk2 hb2 H locs hP hD hS ls hl
          refine lv_iload hx hb d_M_addCounted_104 (lv_at hl 0 rfl) ?_
          refine lv_aload_n hx hb d_M_addCounted_106 rfl (lv_at hl 2 rfl) ?_
          refine va_get (D := D) (ci := 4) (v := .ref a3) (C := R_M) (T := T_M) (N := 12) hx hb (us_M G hW) (fun _ h => h) hown hK hP 0 rfl rfl 3 (by decide) (fl_M_16 G hW) (fun _ h9 => h9) rfl d_M_addCounted_107 ?_
          refine lv_iload_n hx hb d_M_addCounted_110 rfl (lv_at hl 3 rfl) ?_
          refine ia_ld hx hb hK hP 3 (j := fN) rfl (hF) (by decide) d_M_addCounted_111 ?_
          refine tp_i (y := (nI (kb fN))) rfl ?_
          refine tp_i (y := (nI B)) (by rw [hkb]) ?_
          refine lv_icmp_ge (tgt := 149) hx hb d_M_addCounted_112 (by decide) (fun c_112 => ?_) (fun c_112 => absurd (nI_le (by omega) (by omega)) c_112)
          refine lv_iload hx hb d_M_addCounted_149 (lv_at hl 1 rfl) ?_
          exact mx_zret hx hb hr hlk d_M_addCounted_151 (Nat.le_of_ble_eq_true rfl) (Nat.le_of_ble_eq_true rfl) hS.2.2 (bI_nar _) (⟨by rw [hbb], by cases b with | true => (rw [← hbb, if_pos rfl]; rw [show j = B by omega] at hP; exact hP) | false => (rcases hb2 with h9 | h9; (cases h9); (subst h9; rw [← hbb, if_neg (by decide)]; rw [subC_0, stO_self] at hP; exact hP))⟩)
        | succ k ih_104 =>
          intro j hk2 hb2 H locs hP hD hS ls hl
          refine lv_iload hx hb d_M_addCounted_104 (lv_at hl 0 rfl) ?_
          refine lv_aload_n hx hb d_M_addCounted_106 rfl (lv_at hl 2 rfl) ?_
          refine va_get (D := D) (ci := 4) (v := .ref a3) (C := R_M) (T := T_M) (N := 12) hx hb (us_M G hW) (fun _ h => h) hown hK hP 0 rfl rfl 3 (by decide) (fl_M_16 G hW) (fun _ h9 => h9) rfl d_M_addCounted_107 ?_
          refine lv_iload_n hx hb d_M_addCounted_110 rfl (lv_at hl 3 rfl) ?_
          refine ia_ld hx hb hK hP 3 (j := fN) rfl (hF) (by decide) d_M_addCounted_111 ?_
          refine tp_i (y := (nI (kb fN))) rfl ?_
          refine tp_i (y := (nI B)) (by rw [hkb]) ?_
          refine lv_icmp_ge (tgt := 149) hx hb d_M_addCounted_112 (by decide) (fun c_112 => absurd c_112 (nI_ge (by omega) (by omega))) (fun c_112 => ?_)
          refine lv_iload hx hb d_M_addCounted_115 (lv_at hl 1 rfl) ?_
          refine lv_if_eq (tgt := 149) hx hb d_M_addCounted_117 (by decide) (fun c_117 => ?_) (fun c_117 => ?_)
          · refine lv_iload hx hb d_M_addCounted_149 (lv_at hl 1 rfl) ?_
            exact mx_zret hx hb hr hlk d_M_addCounted_151 (Nat.le_of_ble_eq_true rfl) (Nat.le_of_ble_eq_true rfl) hS.2.2 (bI_nar _) (⟨by rw [hbb], by have h8 := bI_f c_117; rcases hb2 with h9 | h9; (rw [h8] at h9; cases h9); (subst h9; rw [← hbb, h8, if_neg (by decide)]; rw [subC_0, stO_self] at hP; exact hP)⟩)
          · refine lv_aload_n hx hb d_M_addCounted_120 rfl (lv_at hl 2 rfl) ?_
            refine va_get (D := D) (ci := 4) (v := .ref a6) (C := R_M) (T := T_M) (N := 12) hx hb (us_M G hW) (fun _ h => h) hown hK hP 0 rfl rfl 6 (by decide) (fl_M_25 G hW) (fun _ h9 => h9) rfl d_M_addCounted_121 ?_
            refine lv_sipush (v := (nI 1024)) hx hb d_M_addCounted_124 (by decide) ?_
            refine lv_iload_n hx hb d_M_addCounted_127 rfl (lv_at hl 3 rfl) ?_
            refine lv_imul hx hb d_M_addCounted_128 ?_
            refine tp_i (y := (nI (1024 * fN))) (pk_mul _ _) ?_
            refine lv_aload_n hx hb d_M_addCounted_129 rfl (lv_at hl 2 rfl) ?_
            refine va_get (D := D) (ci := 4) (v := .ref a10) (C := R_M) (T := T_M) (N := 12) hx hb (us_M G hW) (fun _ h => h) hown hK hP 0 rfl rfl 10 (by decide) (fl_M_37 G hW) (fun _ h9 => h9) rfl d_M_addCounted_130 ?_
            refine lv_iload hx hb d_M_addCounted_133 (lv_at hl 0 rfl) ?_
            refine ia_ld hx hb hK hP 10 (j := j) rfl (by omega) (by decide) d_M_addCounted_135 ?_
            refine tp_i (y := (nI ((fpr A x pl B) j))) rfl ?_
            refine lv_iadd hx hb d_M_addCounted_136 ?_
            refine tp_i (y := (nI ((1024 * fN) + (fpr A x pl B) j))) (nI_add _ _) ?_
            refine lv_dup2_11 hx hb d_M_addCounted_137 rfl rfl ?_
            refine ia_ld hx hb hK hP 6 (j := ((1024 * fN) + (fpr A x pl B) j)) rfl (by have := fpr_in (r := pl) (x := x) hA (show j < B by omega); omega) (by decide) d_M_addCounted_138 ?_
            refine tp_i (y := (nI ((stO 1024 ce (1024 * fN) (subC (vw ce (1024 * fN)) (fpr A x pl B) j)) ((1024 * fN) + (fpr A x pl B) j)))) rfl ?_
            refine tp_i (y := (nI (subC (vw ce (1024 * fN)) (fpr A x pl B) j ((fpr A x pl B) j)))) (by rw [stO_at (fpr_in hA (by omega))]) ?_
            refine lv_iload hx hb d_M_addCounted_139 (lv_at hl 5 rfl) ?_
            refine lv_iadd hx hb d_M_addCounted_141 ?_
            refine tp_i (y := (nI (subC (vw ce (1024 * fN)) (fpr A x pl B) j ((fpr A x pl B) j) - 1))) (sb_m1 (by have h1 : fitS (vw ce (1024 * fN)) (fpr A x pl B) B j = true := allN_iff.mp (hbb.symm.trans (bI_t c_117)) j (by omega); have h1 := of_decide_eq_true h1; have h2 := cnt_mono (r := (fpr A x pl B)) (x := (fpr A x pl B) j) (show j + 1 ≤ B by omega); rw [cnt_t rfl] at h2; unfold subC; omega)) ?_
            refine ia_stN hx hb hK hP hD hS 6 (j := ((1024 * fN) + (fpr A x pl B) j)) (x := (subC (vw ce (1024 * fN)) (fpr A x pl B) j ((fpr A x pl B) j) - 1)) (f := (stO 1024 ce (1024 * fN) (subC (vw ce (1024 * fN)) (fpr A x pl B) j))) rfl (by have := fpr_in (r := pl) (x := x) hA (show j < B by omega); omega) (by decide) d_M_addCounted_142 (fun H locs hP hD hS => ?_)
            have hP : va_P D vcl [(hm, .inr (4, [.int th, .ref a1, .ref a2, .ref a3, .ref a4, .ref a5, .ref a6, .ref a7, .ref a8, .ref a9, .ref a10, .ref a11])), (a1, aN cI 4 ki), (a2, aN cI 4 ka), (a3, aN cI 4 kb), (a4, aI cI 4 zs), (a5, aI cI 4 pu), (a6, aN cI 4096 (va_up (stO 1024 ce (1024 * fN) (subC (vw ce (1024 * fN)) (fpr A x pl B) j)) ((1024 * fN) + (fpr A x pl B) j) (subC (vw ce (1024 * fN)) (fpr A x pl B) j ((fpr A x pl B) j) - 1))), (a7, aN cI 1024 pa), (a8, aN cI 1024 tr), (a9, aI cI 256 so), (a10, aN cI 6 (fpr A x pl B)), (a11, aN cI 6 ot)] H := hP
            have hD : va_D (Aa [hm, a1, a2, a3, a4, a5, a6, a7, a8, a9, a10, a11] H0.size) [(hm, .inr (4, [.int th, .ref a1, .ref a2, .ref a3, .ref a4, .ref a5, .ref a6, .ref a7, .ref a8, .ref a9, .ref a10, .ref a11])), (a1, aN cI 4 ki), (a2, aN cI 4 ka), (a3, aN cI 4 kb), (a4, aI cI 4 zs), (a5, aI cI 4 pu), (a6, aN cI 4096 (va_up (stO 1024 ce (1024 * fN) (subC (vw ce (1024 * fN)) (fpr A x pl B) j)) ((1024 * fN) + (fpr A x pl B) j) (subC (vw ce (1024 * fN)) (fpr A x pl B) j ((fpr A x pl B) j) - 1))), (a7, aN cI 1024 pa), (a8, aN cI 1024 tr), (a9, aI cI 256 so), (a10, aN cI 6 (fpr A x pl B)), (a11, aN cI 6 ot)] := hD
            rw [stO_up (fpr_in hA (by omega)), subC_s] at hP hD
            refine lv_iinc (v := (nI (j + 1))) (lv' := [(6, .int (nI (j + 1))), (5, .int (bI b)), (0, .ref hm), (1, .int (nI fN)), (2, .long x), (4, .int (-1))]) hx hb d_M_addCounted_143 hl (k := 0) rfl (nI_1 _) (by decide) rfl (fun ls hl => ?_)
            refine lv_goto (tgt := 104) hx hb d_M_addCounted_146 (by decide) ?_
            exact ih_104 (j + 1) (by omega) (Or.inl (bI_t c_117)) H locs hP hD hS ls (lv_sub hl [0, 1, 2, 3, 4, 5] rfl)
      rw [← stO_self 1024 ce (1024 * fN)] at hP hD
      exact loop_104 (B) (0) (by omega) (Or.inr rfl) H locs hP hD hS ls (lv_sub hl [0, 1, 2, 3, 4, 5] rfl)
    | succ k ih_16 =>
      intro i b hk hbb  ls hl
      refine lv_iload hx hb d_M_addCounted_16 (lv_at hl 0 rfl) ?_
      refine lv_aload_n hx hb d_M_addCounted_18 rfl (lv_at hl 2 rfl) ?_
      refine va_get (D := D) (ci := 4) (v := .ref a3) (C := R_M) (T := T_M) (N := 12) hx hb (us_M G hW) (fun _ h => h) hown hK hP 0 rfl rfl 3 (by decide) (fl_M_16 G hW) (fun _ h9 => h9) rfl d_M_addCounted_19 ?_
      refine lv_iload_n hx hb d_M_addCounted_22 rfl (lv_at hl 3 rfl) ?_
      refine ia_ld hx hb hK hP 3 (j := fN) rfl (hF) (by decide) d_M_addCounted_23 ?_
      refine tp_i (y := (nI (kb fN))) rfl ?_
      refine tp_i (y := (nI B)) (by rw [hkb]) ?_
      refine lv_icmp_ge (tgt := 101) hx hb d_M_addCounted_24 (by decide) (fun c_24 => absurd c_24 (nI_ge (by omega) (by omega))) (fun c_24 => ?_)
      refine lv_aload_n hx hb d_M_addCounted_27 rfl (lv_at hl 2 rfl) ?_
      refine va_get (D := D) (ci := 4) (v := .ref a6) (C := R_M) (T := T_M) (N := 12) hx hb (us_M G hW) (fun _ h => h) hown hK hP 0 rfl rfl 6 (by decide) (fl_M_25 G hW) (fun _ h9 => h9) rfl d_M_addCounted_28 ?_
      refine lv_sipush (v := (nI 1024)) hx hb d_M_addCounted_31 (by decide) ?_
      refine lv_iload_n hx hb d_M_addCounted_34 rfl (lv_at hl 3 rfl) ?_
      refine lv_imul hx hb d_M_addCounted_35 ?_
      refine tp_i (y := (nI (1024 * fN))) (pk_mul _ _) ?_
      refine lv_aload_n hx hb d_M_addCounted_36 rfl (lv_at hl 2 rfl) ?_
      refine va_get (D := D) (ci := 4) (v := .ref a10) (C := R_M) (T := T_M) (N := 12) hx hb (us_M G hW) (fun _ h => h) hown hK hP 0 rfl rfl 10 (by decide) (fl_M_37 G hW) (fun _ h9 => h9) rfl d_M_addCounted_37 ?_
      refine lv_iload hx hb d_M_addCounted_40 (lv_at hl 0 rfl) ?_
      refine ia_ld hx hb hK hP 10 (j := i) rfl (by omega) (by decide) d_M_addCounted_42 ?_
      refine tp_i (y := (nI ((fpr A x pl B) i))) rfl ?_
      refine lv_iadd hx hb d_M_addCounted_43 ?_
      refine tp_i (y := (nI ((1024 * fN) + (fpr A x pl B) i))) (nI_add _ _) ?_
      refine ia_ld hx hb hK hP 6 (j := ((1024 * fN) + (fpr A x pl B) i)) rfl (by have := fpr_in (r := pl) (x := x) hA (show i < B by omega); omega) (by decide) d_M_addCounted_44 ?_
      refine tp_i (y := (nI (ce ((1024 * fN) + (fpr A x pl B) i)))) rfl ?_
      refine tp_i (y := (nI (vw ce (1024 * fN) ((fpr A x pl B) i)))) (rfl) ?_
      refine lv_iload hx hb d_M_addCounted_45 (lv_at hl 5 rfl) ?_
      refine lv_aload_n hx hb d_M_addCounted_47 rfl (lv_at hl 2 rfl) ?_
      refine va_get (D := D) (ci := 4) (v := .ref a10) (C := R_M) (T := T_M) (N := 12) hx hb (us_M G hW) (fun _ h => h) hown hK hP 0 rfl rfl 10 (by decide) (fl_M_37 G hW) (fun _ h9 => h9) rfl d_M_addCounted_48 ?_
      refine lv_aload_n hx hb d_M_addCounted_51 rfl (lv_at hl 2 rfl) ?_
      refine va_get (D := D) (ci := 4) (v := .ref a3) (C := R_M) (T := T_M) (N := 12) hx hb (us_M G hW) (fun _ h => h) hown hK hP 0 rfl rfl 3 (by decide) (fl_M_16 G hW) (fun _ h9 => h9) rfl d_M_addCounted_52 ?_
      refine lv_iload_n hx hb d_M_addCounted_55 rfl (lv_at hl 3 rfl) ?_
      refine ia_ld hx hb hK hP 3 (j := fN) rfl (hF) (by decide) d_M_addCounted_56 ?_
      refine tp_i (y := (nI (kb fN))) rfl ?_
      refine tp_i (y := (nI B)) (by rw [hkb]) ?_
      refine lv_aload_n hx hb d_M_addCounted_57 rfl (lv_at hl 2 rfl) ?_
      refine va_get (D := D) (ci := 4) (v := .ref a10) (C := R_M) (T := T_M) (N := 12) hx hb (us_M G hW) (fun _ h => h) hown hK hP 0 rfl rfl 10 (by decide) (fl_M_37 G hW) (fun _ h9 => h9) rfl d_M_addCounted_58 ?_
      refine lv_iload hx hb d_M_addCounted_61 (lv_at hl 0 rfl) ?_
      refine ia_ld hx hb hK hP 10 (j := i) rfl (by omega) (by decide) d_M_addCounted_63 ?_
      refine tp_i (y := (nI ((fpr A x pl B) i))) rfl ?_
      refine mx_callR (r := .int (nI (cnt (fpr A x pl B) ((fpr A x pl B) i) B))) (c_M_howOften_10 G hm a1 a2 a3 a4 a5 a6 a7 a8 a9 a10 a11 th ki ka kb zs pu ce pa tr so (fpr A x pl B) ot B ((fpr A x pl B) i) hP hB (fun j hj => fpr_in hA hj) (fpr_in hA (by omega))) hW (iv_M_addCounted_64 G hx hb hown hW [.ref a10, .int (nI B), .int (nI ((fpr A x pl B) i))] [.int (-1), .int (nI (vw ce (1024 * fN) ((fpr A x pl B) i)))] rfl) hml hl.1 (by rw [hb]; exact d_M_addCounted_64) (cd_M_howOften G hW) ⟨Nat.le_of_ble_eq_true rfl, Nat.le_of_ble_eq_true rfl⟩ rfl rfl (Nat.le_of_ble_eq_true rfl) (Nat.le_of_ble_eq_true rfl) (Nat.le_of_ble_eq_true rfl) ?_
      refine lv_imul hx hb d_M_addCounted_67 ?_
      refine lv_iadd hx hb d_M_addCounted_68 ?_
      refine tp_i (y := (nI (vw ce (1024 * fN) ((fpr A x pl B) i)) - nI (cnt (fpr A x pl B) ((fpr A x pl B) i) B))) (mneg _ _) ?_
      refine lv_istore (lv' := [(7, .int (nI (vw ce (1024 * fN) ((fpr A x pl B) i)) - nI (cnt (fpr A x pl B) ((fpr A x pl B) i) B))), (6, .int (nI i)), (5, .int (bI b)), (0, .ref hm), (1, .int (nI fN)), (2, .long x), (4, .int (-1))]) hx hb d_M_addCounted_69 hl (by decide) rfl (fun ls hl => ?_)
      refine lv_iload hx hb d_M_addCounted_71 (lv_at hl 2 rfl) ?_
      refine lv_if_eq (tgt := 92) hx hb d_M_addCounted_73 (by decide) (fun c_73 => ?_) (fun c_73 => ?_)
      · refine lv_iconst (v := (bI false)) hx hb d_M_addCounted_92 (by decide) ?_
        refine lv_istore (lv' := [(5, .int (bI false)), (7, .int (nI (vw ce (1024 * fN) ((fpr A x pl B) i)) - nI (cnt (fpr A x pl B) ((fpr A x pl B) i) B))), (6, .int (nI i)), (0, .ref hm), (1, .int (nI fN)), (2, .long x), (4, .int (-1))]) hx hb d_M_addCounted_93 hl (by decide) rfl (fun ls hl => ?_)
        refine lv_iinc (v := (nI (i + 1))) (lv' := [(6, .int (nI (i + 1))), (5, .int (bI false)), (7, .int (nI (vw ce (1024 * fN) ((fpr A x pl B) i)) - nI (cnt (fpr A x pl B) ((fpr A x pl B) i) B))), (0, .ref hm), (1, .int (nI fN)), (2, .long x), (4, .int (-1))]) hx hb d_M_addCounted_95 hl (k := 2) rfl (nI_1 _) (by decide) rfl (fun ls hl => ?_)
        refine lv_goto (tgt := 16) hx hb d_M_addCounted_98 (by decide) ?_
        exact ih_16 (i + 1) (false) (by omega) (by show false = (_ && _); rw [← hbb, bI_f c_73]; rfl) ls (lv_sub hl [0, 1, 3, 4, 5, 6] rfl)
      · refine lv_iload hx hb d_M_addCounted_76 (lv_at hl 0 rfl) ?_
        refine lv_if_lt (tgt := 92) hx hb d_M_addCounted_78 (by decide) (fun c_78 => ?_) (fun c_78 => ?_)
        · refine lv_iconst (v := (bI false)) hx hb d_M_addCounted_92 (by decide) ?_
          refine lv_istore (lv' := [(5, .int (bI false)), (7, .int (nI (vw ce (1024 * fN) ((fpr A x pl B) i)) - nI (cnt (fpr A x pl B) ((fpr A x pl B) i) B))), (6, .int (nI i)), (0, .ref hm), (1, .int (nI fN)), (2, .long x), (4, .int (-1))]) hx hb d_M_addCounted_93 hl (by decide) rfl (fun ls hl => ?_)
          refine lv_iinc (v := (nI (i + 1))) (lv' := [(6, .int (nI (i + 1))), (5, .int (bI false)), (7, .int (nI (vw ce (1024 * fN) ((fpr A x pl B) i)) - nI (cnt (fpr A x pl B) ((fpr A x pl B) i) B))), (0, .ref hm), (1, .int (nI fN)), (2, .long x), (4, .int (-1))]) hx hb d_M_addCounted_95 hl (k := 2) rfl (nI_1 _) (by decide) rfl (fun ls hl => ?_)
          refine lv_goto (tgt := 16) hx hb d_M_addCounted_98 (by decide) ?_
          exact ih_16 (i + 1) (false) (by omega) (by have h8 : fitS (vw ce (1024 * fN)) (fpr A x pl B) B i = false := decide_eq_false (fun h9 => absurd ((sub_lt0 (by have hcv : (vw ce (1024 * fN) ((fpr A x pl B) i)) ≤ 15 := hc1 _ (fpr_in hA (by omega)); omega) (by have h9 := cnt_le (fpr A x pl B) ((fpr A x pl B) i) B; omega)).mp c_78) (Nat.not_lt.mpr h9)); exact (allN_f (Nat.lt_succ_self i) h8).symm) ls (lv_sub hl [0, 1, 3, 4, 5, 6] rfl)
        · refine lv_iload hx hb d_M_addCounted_81 (lv_at hl 0 rfl) ?_
          refine lv_bipush (v := (nI 15)) hx hb d_M_addCounted_83 (by decide) ?_
          refine lv_icmp_gt (tgt := 92) hx hb d_M_addCounted_85 (by decide) (fun c_85 => absurd c_85 (sub_le15 (hc1 _ (fpr_in hA (by omega))) (Nat.not_lt.mp (fun h9 => c_78 ((sub_lt0 (by have hcv : (vw ce (1024 * fN) ((fpr A x pl B) i)) ≤ 15 := hc1 _ (fpr_in hA (by omega)); omega) (by have h9 := cnt_le (fpr A x pl B) ((fpr A x pl B) i) B; omega)).mpr h9))))) (fun c_85 => ?_)
          refine lv_iconst (v := (bI true)) hx hb d_M_addCounted_88 (by decide) ?_
          refine lv_goto (tgt := 93) hx hb d_M_addCounted_89 (by decide) ?_
          refine lv_istore (lv' := [(5, .int (bI true)), (7, .int (nI (vw ce (1024 * fN) ((fpr A x pl B) i)) - nI (cnt (fpr A x pl B) ((fpr A x pl B) i) B))), (6, .int (nI i)), (0, .ref hm), (1, .int (nI fN)), (2, .long x), (4, .int (-1))]) hx hb d_M_addCounted_93 hl (by decide) rfl (fun ls hl => ?_)
          refine lv_iinc (v := (nI (i + 1))) (lv' := [(6, .int (nI (i + 1))), (5, .int (bI true)), (7, .int (nI (vw ce (1024 * fN) ((fpr A x pl B) i)) - nI (cnt (fpr A x pl B) ((fpr A x pl B) i) B))), (0, .ref hm), (1, .int (nI fN)), (2, .long x), (4, .int (-1))]) hx hb d_M_addCounted_95 hl (k := 2) rfl (nI_1 _) (by decide) rfl (fun ls hl => ?_)
          refine lv_goto (tgt := 16) hx hb d_M_addCounted_98 (by decide) ?_
          exact ih_16 (i + 1) (true) (by omega) (by have h8 : fitS (vw ce (1024 * fN)) (fpr A x pl B) B i = true := decide_eq_true (Nat.not_lt.mp (fun h9 => c_78 ((sub_lt0 (by have hcv : (vw ce (1024 * fN) ((fpr A x pl B) i)) ≤ 15 := hc1 _ (fpr_in hA (by omega)); omega) (by have h9 := cnt_le (fpr A x pl B) ((fpr A x pl B) i) B; omega)).mpr h9))); exact (allN_s (by rw [← hbb]; exact bI_t c_73) h8).symm) ls (lv_sub hl [0, 1, 3, 4, 5, 6] rfl)
  exact loop_16 (B) (0) (true) (by omega) (rfl) ls (lv_sub hl [0, 1, 2, 3, 4, 5] rfl)

set_option maxHeartbeats 4000000 in
set_option maxRecDepth 100000 in
theorem c_M_insertPair {l : Launch} {s0 : State} {D : va_G} {cI cF cJ : ClassId} (G : Gx l s0 D cI cF cJ) (hm a1 a2 a3 a4 a5 a6 a7 a8 a9 a10 a11 : Nat) (th : Int32) (ki ka kb : Nat → Nat) (zs pu : Nat → Int32) (ce pa tr : Nat → Nat) (so : Nat → Int32) (pl ot : Nat → Nat) (fN n v : Nat) {H0 : Heap} {A0 : Nat → Prop} (hP : va_P D vcl [(hm, .inr (4, [.int th, .ref a1, .ref a2, .ref a3, .ref a4, .ref a5, .ref a6, .ref a7, .ref a8, .ref a9, .ref a10, .ref a11])), (a1, aN cI 4 ki), (a2, aN cI 4 ka), (a3, aN cI 4 kb), (a4, aI cI 4 zs), (a5, aI cI 4 pu), (a6, aN cI 4096 ce), (a7, aN cI 1024 pa), (a8, aN cI 1024 tr), (a9, aI cI 256 so), (a10, aN cI 6 pl), (a11, aN cI 6 ot)] H0) (hD : va_D A0 [(hm, .inr (4, [.int th, .ref a1, .ref a2, .ref a3, .ref a4, .ref a5, .ref a6, .ref a7, .ref a8, .ref a9, .ref a10, .ref a11])), (a1, aN cI 4 ki), (a2, aN cI 4 ka), (a3, aN cI 4 kb), (a4, aI cI 4 zs), (a5, aI cI 4 pu), (a6, aN cI 4096 ce), (a7, aN cI 1024 pa), (a8, aN cI 1024 tr), (a9, aI cI 256 so), (a10, aN cI 6 pl), (a11, aN cI 6 ot)]) (hF : fN < 4) (hn : n ≤ 255) (hv : v < 2 ^ 28) (hp : ∀ j, j < 256 → vw pa (256 * fN) j < 2 ^ 28) : Mx l s0 y_M_insertPair (.code y_M_insertPair b_M_insertPair 6 none) { frames := 0, cells := 0, slots := 0, locals := 0 } [.ref hm, .int (nI fN), .int (nI n), .int (nI v)] H0 (Aa [hm, a1, a2, a3, a4, a5, a6, a7, a8, a9, a10, a11] H0.size) (Rn (fun H1 => va_P D vcl [(hm, .inr (4, [.int th, .ref a1, .ref a2, .ref a3, .ref a4, .ref a5, .ref a6, .ref a7, .ref a8, .ref a9, .ref a10, .ref a11])), (a1, aN cI 4 ki), (a2, aN cI 4 ka), (a3, aN cI 4 kb), (a4, aI cI 4 zs), (a5, aI cI 4 pu), (a6, aN cI 4096 ce), (a7, aN cI 1024 (stO 256 pa (256 * fN) (insR v n (vw pa (256 * fN))))), (a8, aN cI 1024 tr), (a9, aI cI 256 so), (a10, aN cI 6 pl), (a11, aN cI 6 ot)] H1)) := by
  refine Mx.ofW (own := "FewBitsModel") rfl rfl ?_
  rintro p e s m below meth c ⟨hx, hb, hml, hr, hown, hW, hlk⟩ hnm het hH
  have hK := G.k hW
  have hD := hD.aa (sz := H0.size)
  have hD : va_D (Aa [hm, a1, a2, a3, a4, a5, a6, a7, a8, a9, a10, a11] H0.size) [(hm, .inr (4, [.int th, .ref a1, .ref a2, .ref a3, .ref a4, .ref a5, .ref a6, .ref a7, .ref a8, .ref a9, .ref a10, .ref a11])), (a1, aN cI 4 ki), (a2, aN cI 4 ka), (a3, aN cI 4 kb), (a4, aI cI 4 zs), (a5, aI cI 4 pu), (a6, aN cI 4096 ce), (a7, aN cI 1024 pa), (a8, aN cI 1024 tr), (a9, aI cI 256 so), (a10, aN cI 6 pl), (a11, aN cI 6 ot)] := hD
  have hS : va_S (Aa [hm, a1, a2, a3, a4, a5, a6, a7, a8, a9, a10, a11] H0.size) H0 H0 [] := va_S.rf
  have hl := lv_entry ([.ref hm, .int (nI fN), .int (nI n), .int (nI v)]) (n := 6) (Nat.le_of_ble_eq_true rfl)
  rw [lg_entry_eq]
  generalize (lg_sl ([.ref hm, .int (nI fN), .int (nI n), .int (nI v)]) ++ List.replicate (6 - (lg_sl ([.ref hm, .int (nI fN), .int (nI n), .int (nI v)])).length) Slot.unset).toArray = ls at hl ⊢
  have hl : lv_has ls 6 [(0, .ref hm), (1, .int (nI fN)), (2, .int (nI n)), (3, .int (nI v))] := hl
  refine lv_iload_n hx hb d_M_insertPair_0 rfl (lv_at hl 2 rfl) ?_
  refine lv_istore (lv' := [(4, .int (nI n)), (0, .ref hm), (1, .int (nI fN)), (2, .int (nI n)), (3, .int (nI v))]) hx hb d_M_insertPair_1 hl (by decide) rfl (fun ls hl => ?_)
  refine lv_sipush (v := (nI 256)) hx hb d_M_insertPair_3 (by decide) ?_
  refine lv_iload_n hx hb d_M_insertPair_6 rfl (lv_at hl 2 rfl) ?_
  refine lv_imul hx hb d_M_insertPair_7 ?_
  refine tp_i (y := (nI (256 * fN))) (pk_mul _ _) ?_
  refine lv_istore (lv' := [(5, .int (nI (256 * fN))), (4, .int (nI n)), (0, .ref hm), (1, .int (nI fN)), (2, .int (nI n)), (3, .int (nI v))]) hx hb d_M_insertPair_8 hl (by decide) rfl (fun ls hl => ?_)
  have loop_10 : ∀ (k : Nat) (F : Nat → Nat), (k ≤ n) → (insR v n (vw pa (256 * fN)) = insR v k F) → (∀ j, j < 256 → F j < 2 ^ 28) → ∀ (H : Heap) (locs : List Loc), va_P D vcl [(hm, .inr (4, [.int th, .ref a1, .ref a2, .ref a3, .ref a4, .ref a5, .ref a6, .ref a7, .ref a8, .ref a9, .ref a10, .ref a11])), (a1, aN cI 4 ki), (a2, aN cI 4 ka), (a3, aN cI 4 kb), (a4, aI cI 4 zs), (a5, aI cI 4 pu), (a6, aN cI 4096 ce), (a7, aN cI 1024 (stO 256 pa (256 * fN) F)), (a8, aN cI 1024 tr), (a9, aI cI 256 so), (a10, aN cI 6 pl), (a11, aN cI 6 ot)] H → va_D (Aa [hm, a1, a2, a3, a4, a5, a6, a7, a8, a9, a10, a11] H0.size) [(hm, .inr (4, [.int th, .ref a1, .ref a2, .ref a3, .ref a4, .ref a5, .ref a6, .ref a7, .ref a8, .ref a9, .ref a10, .ref a11])), (a1, aN cI 4 ki), (a2, aN cI 4 ka), (a3, aN cI 4 kb), (a4, aI cI 4 zs), (a5, aI cI 4 pu), (a6, aN cI 4096 ce), (a7, aN cI 1024 (stO 256 pa (256 * fN) F)), (a8, aN cI 1024 tr), (a9, aI cI 256 so), (a10, aN cI 6 pl), (a11, aN cI 6 ot)] → va_S (Aa [hm, a1, a2, a3, a4, a5, a6, a7, a8, a9, a10, a11] H0.size) H0 H locs → ∀ (ls : Array Slot), lv_has ls 6 [(5, .int (nI (256 * fN))), (4, .int (nI k)), (0, .ref hm), (1, .int (nI fN)), (2, .int (nI n)), (3, .int (nI v))] → W p l e { frames := 0, cells := 0, slots := 0, locals := 0 } s m ([.ref hm, .int (nI fN), .int (nI n), .int (nI v)] : List Value).toArray below meth c H locs 0 0 (MQx below (Rn (fun H1 => va_P D vcl [(hm, .inr (4, [.int th, .ref a1, .ref a2, .ref a3, .ref a4, .ref a5, .ref a6, .ref a7, .ref a8, .ref a9, .ref a10, .ref a11])), (a1, aN cI 4 ki), (a2, aN cI 4 ka), (a3, aN cI 4 kb), (a4, aI cI 4 zs), (a5, aI cI 4 pu), (a6, aN cI 4096 ce), (a7, aN cI 1024 (stO 256 pa (256 * fN) (insR v n (vw pa (256 * fN))))), (a8, aN cI 1024 tr), (a9, aI cI 256 so), (a10, aN cI 6 pl), (a11, aN cI 6 ot)] H1)) s 0 0 (Aa [hm, a1, a2, a3, a4, a5, a6, a7, a8, a9, a10, a11] H0.size)) (F0 m 10 ls []) := by
    intro k
    induction k with
    | zero =>
      intro F hk hri hFb H locs hP hD hS ls hl
      have hl : lv_has ls 6 [(5, .int (nI (256 * fN))), (4, .int (nI 0)), (0, .ref hm), (1, .int (nI fN)), (2, .int (nI n)), (3, .int (nI v))] := hl
      have hl : lv_has ls 6 [(5, .int (nI (256 * fN))), (4, .int (nI 0)), (0, .ref hm), (1, .int (nI fN)), (2, .int (nI n)), (3, .int (nI v))] := hl
      refine lv_iload hx hb d_M_insertPair_10 (lv_at hl 1 rfl) ?_
      refine lv_if_le (tgt := 59) hx hb d_M_insertPair_12 (by decide) (fun c_12 => ?_) (fun c_12 => absurd (by decide) c_12)
      refine lv_aload_n hx hb d_M_insertPair_59 rfl (lv_at hl 2 rfl) ?_
      refine va_get (D := D) (ci := 4) (v := .ref a7) (C := R_M) (T := T_M) (N := 12) hx hb (us_M G hW) (fun _ h => h) hown hK hP 0 rfl rfl 7 (by decide) (fl_M_28 G hW) (fun _ h9 => h9) rfl d_M_insertPair_60 ?_
      refine lv_iload hx hb d_M_insertPair_63 (lv_at hl 0 rfl) ?_
      refine lv_iload hx hb d_M_insertPair_65 (lv_at hl 1 rfl) ?_
      refine lv_iadd hx hb d_M_insertPair_67 ?_
      refine tp_i (y := (nI ((256 * fN) + 0))) (nI_add _ _) ?_
      refine lv_iload_n hx hb d_M_insertPair_68 rfl (lv_at hl 5 rfl) ?_
      refine ia_stN hx hb hK hP hD hS 7 (j := ((256 * fN) + 0)) (x := v) (f := (stO 256 pa (256 * fN) F)) rfl (by omega) (by decide) d_M_insertPair_69 (fun H locs hP hD hS => ?_)
      have hP : va_P D vcl [(hm, .inr (4, [.int th, .ref a1, .ref a2, .ref a3, .ref a4, .ref a5, .ref a6, .ref a7, .ref a8, .ref a9, .ref a10, .ref a11])), (a1, aN cI 4 ki), (a2, aN cI 4 ka), (a3, aN cI 4 kb), (a4, aI cI 4 zs), (a5, aI cI 4 pu), (a6, aN cI 4096 ce), (a7, aN cI 1024 (va_up (stO 256 pa (256 * fN) F) ((256 * fN) + 0) v)), (a8, aN cI 1024 tr), (a9, aI cI 256 so), (a10, aN cI 6 pl), (a11, aN cI 6 ot)] H := hP
      have hD : va_D (Aa [hm, a1, a2, a3, a4, a5, a6, a7, a8, a9, a10, a11] H0.size) [(hm, .inr (4, [.int th, .ref a1, .ref a2, .ref a3, .ref a4, .ref a5, .ref a6, .ref a7, .ref a8, .ref a9, .ref a10, .ref a11])), (a1, aN cI 4 ki), (a2, aN cI 4 ka), (a3, aN cI 4 kb), (a4, aI cI 4 zs), (a5, aI cI 4 pu), (a6, aN cI 4096 ce), (a7, aN cI 1024 (va_up (stO 256 pa (256 * fN) F) ((256 * fN) + 0) v)), (a8, aN cI 1024 tr), (a9, aI cI 256 so), (a10, aN cI 6 pl), (a11, aN cI 6 ot)] := hD
      rw [stO_up (by omega)] at hP hD
      exact mx_vret hx hb hr hlk d_M_insertPair_70 (Nat.le_of_ble_eq_true rfl) (Nat.le_of_ble_eq_true rfl) hS.2.2 (⟨rfl, by rw [hri]; exact hP⟩)
    | succ k ih_10 =>
      intro F hk hri hFb H locs hP hD hS ls hl
      have hl : lv_has ls 6 [(5, .int (nI (256 * fN))), (4, .int (nI (k + 1))), (0, .ref hm), (1, .int (nI fN)), (2, .int (nI n)), (3, .int (nI v))] := hl
      refine lv_iload hx hb d_M_insertPair_10 (lv_at hl 1 rfl) ?_
      refine lv_if_le (tgt := 59) hx hb d_M_insertPair_12 (by decide) (fun c_12 => absurd c_12 (nI_nle (by omega) (by omega))) (fun c_12 => ?_)
      refine lv_aload_n hx hb d_M_insertPair_15 rfl (lv_at hl 2 rfl) ?_
      refine va_get (D := D) (ci := 4) (v := .ref a7) (C := R_M) (T := T_M) (N := 12) hx hb (us_M G hW) (fun _ h => h) hown hK hP 0 rfl rfl 7 (by decide) (fl_M_28 G hW) (fun _ h9 => h9) rfl d_M_insertPair_16 ?_
      refine lv_iload hx hb d_M_insertPair_19 (lv_at hl 0 rfl) ?_
      refine lv_iload hx hb d_M_insertPair_21 (lv_at hl 1 rfl) ?_
      refine lv_iadd hx hb d_M_insertPair_23 ?_
      refine tp_i (y := (nI ((256 * fN) + (k + 1)))) (nI_add _ _) ?_
      refine lv_iconst (v := (nI 1)) hx hb d_M_insertPair_24 (by decide) ?_
      refine lv_isub hx hb d_M_insertPair_25 ?_
      refine tp_i (y := (nI ((256 * fN) + k))) (pk_sub (by omega)) ?_
      refine ia_ld hx hb hK hP 7 (j := ((256 * fN) + k)) rfl (by omega) (by decide) d_M_insertPair_26 ?_
      refine tp_i (y := (nI ((stO 256 pa (256 * fN) F) ((256 * fN) + k)))) rfl ?_
      refine tp_i (y := (nI (F k))) (by rw [stO_at (by omega)]) ?_
      refine lv_iload_n hx hb d_M_insertPair_27 rfl (lv_at hl 5 rfl) ?_
      refine lv_icmp_le (tgt := 59) hx hb d_M_insertPair_28 (by decide) (fun c_28 => ?_) (fun c_28 => ?_)
      · refine lv_aload_n hx hb d_M_insertPair_59 rfl (lv_at hl 2 rfl) ?_
        refine va_get (D := D) (ci := 4) (v := .ref a7) (C := R_M) (T := T_M) (N := 12) hx hb (us_M G hW) (fun _ h => h) hown hK hP 0 rfl rfl 7 (by decide) (fl_M_28 G hW) (fun _ h9 => h9) rfl d_M_insertPair_60 ?_
        refine lv_iload hx hb d_M_insertPair_63 (lv_at hl 0 rfl) ?_
        refine lv_iload hx hb d_M_insertPair_65 (lv_at hl 1 rfl) ?_
        refine lv_iadd hx hb d_M_insertPair_67 ?_
        refine tp_i (y := (nI ((256 * fN) + (k + 1)))) (nI_add _ _) ?_
        refine lv_iload_n hx hb d_M_insertPair_68 rfl (lv_at hl 5 rfl) ?_
        refine ia_stN hx hb hK hP hD hS 7 (j := ((256 * fN) + (k + 1))) (x := v) (f := (stO 256 pa (256 * fN) F)) rfl (by omega) (by decide) d_M_insertPair_69 (fun H locs hP hD hS => ?_)
        have hP : va_P D vcl [(hm, .inr (4, [.int th, .ref a1, .ref a2, .ref a3, .ref a4, .ref a5, .ref a6, .ref a7, .ref a8, .ref a9, .ref a10, .ref a11])), (a1, aN cI 4 ki), (a2, aN cI 4 ka), (a3, aN cI 4 kb), (a4, aI cI 4 zs), (a5, aI cI 4 pu), (a6, aN cI 4096 ce), (a7, aN cI 1024 (va_up (stO 256 pa (256 * fN) F) ((256 * fN) + (k + 1)) v)), (a8, aN cI 1024 tr), (a9, aI cI 256 so), (a10, aN cI 6 pl), (a11, aN cI 6 ot)] H := hP
        have hD : va_D (Aa [hm, a1, a2, a3, a4, a5, a6, a7, a8, a9, a10, a11] H0.size) [(hm, .inr (4, [.int th, .ref a1, .ref a2, .ref a3, .ref a4, .ref a5, .ref a6, .ref a7, .ref a8, .ref a9, .ref a10, .ref a11])), (a1, aN cI 4 ki), (a2, aN cI 4 ka), (a3, aN cI 4 kb), (a4, aI cI 4 zs), (a5, aI cI 4 pu), (a6, aN cI 4096 ce), (a7, aN cI 1024 (va_up (stO 256 pa (256 * fN) F) ((256 * fN) + (k + 1)) v)), (a8, aN cI 1024 tr), (a9, aI cI 256 so), (a10, aN cI 6 pl), (a11, aN cI 6 ot)] := hD
        rw [stO_up (by omega)] at hP hD
        exact mx_vret hx hb hr hlk d_M_insertPair_70 (Nat.le_of_ble_eq_true rfl) (Nat.le_of_ble_eq_true rfl) hS.2.2 (⟨rfl, by rw [hri, insR_f (Nat.not_lt.mpr ((nI_leI (by have := hFb k (by omega); omega) (by omega)).mp c_28))]; exact hP⟩)
      · have hgt : v < F k := Nat.not_le.mp (fun h9 => c_28 (nI_le h9 (by omega)))
        refine lv_aload_n hx hb d_M_insertPair_31 rfl (lv_at hl 2 rfl) ?_
        refine va_get (D := D) (ci := 4) (v := .ref a7) (C := R_M) (T := T_M) (N := 12) hx hb (us_M G hW) (fun _ h => h) hown hK hP 0 rfl rfl 7 (by decide) (fl_M_28 G hW) (fun _ h9 => h9) rfl d_M_insertPair_32 ?_
        refine lv_iload hx hb d_M_insertPair_35 (lv_at hl 0 rfl) ?_
        refine lv_iload hx hb d_M_insertPair_37 (lv_at hl 1 rfl) ?_
        refine lv_iadd hx hb d_M_insertPair_39 ?_
        refine tp_i (y := (nI ((256 * fN) + (k + 1)))) (nI_add _ _) ?_
        refine lv_aload_n hx hb d_M_insertPair_40 rfl (lv_at hl 2 rfl) ?_
        refine va_get (D := D) (ci := 4) (v := .ref a7) (C := R_M) (T := T_M) (N := 12) hx hb (us_M G hW) (fun _ h => h) hown hK hP 0 rfl rfl 7 (by decide) (fl_M_28 G hW) (fun _ h9 => h9) rfl d_M_insertPair_41 ?_
        refine lv_iload hx hb d_M_insertPair_44 (lv_at hl 0 rfl) ?_
        refine lv_iload hx hb d_M_insertPair_46 (lv_at hl 1 rfl) ?_
        refine lv_iadd hx hb d_M_insertPair_48 ?_
        refine tp_i (y := (nI ((256 * fN) + (k + 1)))) (nI_add _ _) ?_
        refine lv_iconst (v := (nI 1)) hx hb d_M_insertPair_49 (by decide) ?_
        refine lv_isub hx hb d_M_insertPair_50 ?_
        refine tp_i (y := (nI ((256 * fN) + k))) (pk_sub (by omega)) ?_
        refine ia_ld hx hb hK hP 7 (j := ((256 * fN) + k)) rfl (by omega) (by decide) d_M_insertPair_51 ?_
        refine tp_i (y := (nI ((stO 256 pa (256 * fN) F) ((256 * fN) + k)))) rfl ?_
        refine tp_i (y := (nI (F k))) (by rw [stO_at (by omega)]) ?_
        refine ia_stN hx hb hK hP hD hS 7 (j := ((256 * fN) + (k + 1))) (x := (F k)) (f := (stO 256 pa (256 * fN) F)) rfl (by omega) (by decide) d_M_insertPair_52 (fun H locs hP hD hS => ?_)
        have hP : va_P D vcl [(hm, .inr (4, [.int th, .ref a1, .ref a2, .ref a3, .ref a4, .ref a5, .ref a6, .ref a7, .ref a8, .ref a9, .ref a10, .ref a11])), (a1, aN cI 4 ki), (a2, aN cI 4 ka), (a3, aN cI 4 kb), (a4, aI cI 4 zs), (a5, aI cI 4 pu), (a6, aN cI 4096 ce), (a7, aN cI 1024 (va_up (stO 256 pa (256 * fN) F) ((256 * fN) + (k + 1)) (F k))), (a8, aN cI 1024 tr), (a9, aI cI 256 so), (a10, aN cI 6 pl), (a11, aN cI 6 ot)] H := hP
        have hD : va_D (Aa [hm, a1, a2, a3, a4, a5, a6, a7, a8, a9, a10, a11] H0.size) [(hm, .inr (4, [.int th, .ref a1, .ref a2, .ref a3, .ref a4, .ref a5, .ref a6, .ref a7, .ref a8, .ref a9, .ref a10, .ref a11])), (a1, aN cI 4 ki), (a2, aN cI 4 ka), (a3, aN cI 4 kb), (a4, aI cI 4 zs), (a5, aI cI 4 pu), (a6, aN cI 4096 ce), (a7, aN cI 1024 (va_up (stO 256 pa (256 * fN) F) ((256 * fN) + (k + 1)) (F k))), (a8, aN cI 1024 tr), (a9, aI cI 256 so), (a10, aN cI 6 pl), (a11, aN cI 6 ot)] := hD
        rw [stO_up (by omega)] at hP hD
        refine lv_iinc (v := (nI k)) (lv' := [(4, .int (nI k)), (5, .int (nI (256 * fN))), (0, .ref hm), (1, .int (nI fN)), (2, .int (nI n)), (3, .int (nI v))]) hx hb d_M_insertPair_53 hl (k := 1) rfl (pk_m1 k) (by decide) rfl (fun ls hl => ?_)
        refine lv_goto (tgt := 10) hx hb d_M_insertPair_56 (by decide) ?_
        exact ih_10 (va_up F (k + 1) (F k)) (by omega) (by rw [hri, insR_t hgt]) (up_lt hFb (hFb k (by omega))) H locs hP hD hS ls (lv_sub hl [1, 0, 2, 3, 4, 5] rfl)
  rw [← stO_self 256 pa (256 * fN)] at hP hD
  exact loop_10 (n) ((vw pa (256 * fN))) (Nat.le_refl _) (rfl) (hp) H0 [] hP hD hS ls (lv_sub hl [0, 1, 2, 3, 4, 5] rfl)

set_option maxHeartbeats 4000000 in
set_option maxRecDepth 100000 in
theorem c_M_addPair {l : Launch} {s0 : State} {D : va_G} {cI cF cJ : ClassId} (G : Gx l s0 D cI cF cJ) (hm a1 a2 a3 a4 a5 a6 a7 a8 a9 a10 a11 : Nat) (th : Int32) (ki ka kb : Nat → Nat) (zs pu : Nat → Int32) (ce pa tr : Nat → Nat) (so : Nat → Int32) (pl ot : Nat → Nat) (fN : Nat) (A B : Nat) (n : Nat) (x : Int64) {H0 : Heap} {A0 : Nat → Prop} (hP : va_P D vcl [(hm, .inr (4, [.int th, .ref a1, .ref a2, .ref a3, .ref a4, .ref a5, .ref a6, .ref a7, .ref a8, .ref a9, .ref a10, .ref a11])), (a1, aN cI 4 ki), (a2, aN cI 4 ka), (a3, aN cI 4 kb), (a4, aI cI 4 zs), (a5, aI cI 4 pu), (a6, aN cI 4096 ce), (a7, aN cI 1024 pa), (a8, aN cI 1024 tr), (a9, aI cI 256 so), (a10, aN cI 6 pl), (a11, aN cI 6 ot)] H0) (hD : va_D A0 [(hm, .inr (4, [.int th, .ref a1, .ref a2, .ref a3, .ref a4, .ref a5, .ref a6, .ref a7, .ref a8, .ref a9, .ref a10, .ref a11])), (a1, aN cI 4 ki), (a2, aN cI 4 ka), (a3, aN cI 4 kb), (a4, aI cI 4 zs), (a5, aI cI 4 pu), (a6, aN cI 4096 ce), (a7, aN cI 1024 pa), (a8, aN cI 1024 tr), (a9, aI cI 256 so), (a10, aN cI 6 pl), (a11, aN cI 6 ot)]) (hF : fN < 4) (hka : ka fN = A) (hkb : kb fN = B) (hA2 : 2 ≤ A) (hA : A ≤ 8) (hB4 : 4 ≤ B) (hB : B ≤ 20) (hz : zs fN = nI n) (hn : n ≤ 2 ^ A) (hp : ∀ j, j < 256 → vw pa (256 * fN) j < 2 ^ 28) : Mx l s0 y_M_addPair (.code y_M_addPair b_M_addPair 4 (some .boolean)) { frames := 2, cells := 0, slots := 0, locals := 52 } [.ref hm, .int (nI fN), .long x] H0 (Aa [hm, a1, a2, a3, a4, a5, a6, a7, a8, a9, a10, a11] H0.size) (Rw (.int (bI (decide (n < 2 ^ A)))) (fun H1 => va_P D vcl [(hm, .inr (4, [.int th, .ref a1, .ref a2, .ref a3, .ref a4, .ref a5, .ref a6, .ref a7, .ref a8, .ref a9, .ref a10, .ref a11])), (a1, aN cI 4 ki), (a2, aN cI 4 ka), (a3, aN cI 4 kb), (a4, aI cI 4 zs), (a5, aI cI 4 pu), (a6, aN cI 4096 ce), (a7, aN cI 1024 (if n < 2 ^ A then stO 256 pa (256 * fN) (insR (enc B (prN A B x)) n (vw pa (256 * fN))) else pa)), (a8, aN cI 1024 tr), (a9, aI cI 256 so), (a10, aN cI 6 pl), (a11, aN cI 6 ot)] H1)) := by
  refine Mx.ofW (own := "FewBitsModel") rfl rfl ?_
  rintro p e s m below meth c ⟨hx, hb, hml, hr, hown, hW, hlk⟩ hnm het hH
  have hK := G.k hW
  have hD := hD.aa (sz := H0.size)
  have hD : va_D (Aa [hm, a1, a2, a3, a4, a5, a6, a7, a8, a9, a10, a11] H0.size) [(hm, .inr (4, [.int th, .ref a1, .ref a2, .ref a3, .ref a4, .ref a5, .ref a6, .ref a7, .ref a8, .ref a9, .ref a10, .ref a11])), (a1, aN cI 4 ki), (a2, aN cI 4 ka), (a3, aN cI 4 kb), (a4, aI cI 4 zs), (a5, aI cI 4 pu), (a6, aN cI 4096 ce), (a7, aN cI 1024 pa), (a8, aN cI 1024 tr), (a9, aI cI 256 so), (a10, aN cI 6 pl), (a11, aN cI 6 ot)] := hD
  have hS : va_S (Aa [hm, a1, a2, a3, a4, a5, a6, a7, a8, a9, a10, a11] H0.size) H0 H0 [] := va_S.rf
  have h8 := p2_le hA
  have hl := lv_entry ([.ref hm, .int (nI fN), .long x]) (n := 4) (Nat.le_of_ble_eq_true rfl)
  rw [lg_entry_eq]
  generalize (lg_sl ([.ref hm, .int (nI fN), .long x]) ++ List.replicate (4 - (lg_sl ([.ref hm, .int (nI fN), .long x])).length) Slot.unset).toArray = ls at hl ⊢
  have hl : lv_has ls 4 [(0, .ref hm), (1, .int (nI fN)), (2, .long x)] := hl
  refine lv_aload_n hx hb d_M_addPair_0 rfl (lv_at hl 0 rfl) ?_
  refine va_get (D := D) (ci := 4) (v := .ref a4) (C := R_M) (T := T_M) (N := 12) hx hb (us_M G hW) (fun _ h => h) hown hK hP 0 rfl rfl 4 (by decide) (fl_M_19 G hW) (fun _ h9 => h9) rfl d_M_addPair_1 ?_
  refine lv_iload_n hx hb d_M_addPair_4 rfl (lv_at hl 1 rfl) ?_
  refine ia_ld hx hb hK hP 4 (j := fN) rfl (hF) (by decide) d_M_addPair_5 ?_
  refine tp_i (y := (nI n)) (hz) ?_
  refine lv_iconst (v := (nI 1)) hx hb d_M_addPair_6 (by decide) ?_
  refine lv_aload_n hx hb d_M_addPair_7 rfl (lv_at hl 0 rfl) ?_
  refine va_get (D := D) (ci := 4) (v := .ref a2) (C := R_M) (T := T_M) (N := 12) hx hb (us_M G hW) (fun _ h => h) hown hK hP 0 rfl rfl 2 (by decide) (fl_M_13 G hW) (fun _ h9 => h9) rfl d_M_addPair_8 ?_
  refine lv_iload_n hx hb d_M_addPair_11 rfl (lv_at hl 1 rfl) ?_
  refine ia_ld hx hb hK hP 2 (j := fN) rfl (hF) (by decide) d_M_addPair_12 ?_
  refine tp_i (y := (nI (ka fN))) rfl ?_
  refine tp_i (y := (nI A)) (by rw [hka]) ?_
  refine lv_ishl hx hb d_M_addPair_13 ?_
  refine tp_i (y := (nI (2 ^ A))) (pw_shl A (by omega)) ?_
  refine lv_icmp_ne (tgt := 19) hx hb d_M_addPair_14 (by decide) (fun c_14 => ?_) (fun c_14 => ?_)
  · have hlt : n < 2 ^ A := Nat.lt_of_le_of_ne hn (fun h9 => c_14 (congrArg nI h9))
    refine lv_aload_n hx hb d_M_addPair_19 rfl (lv_at hl 0 rfl) ?_
    refine lv_iload_n hx hb d_M_addPair_20 rfl (lv_at hl 1 rfl) ?_
    refine lv_aload_n hx hb d_M_addPair_21 rfl (lv_at hl 0 rfl) ?_
    refine va_get (D := D) (ci := 4) (v := .ref a4) (C := R_M) (T := T_M) (N := 12) hx hb (us_M G hW) (fun _ h => h) hown hK hP 0 rfl rfl 4 (by decide) (fl_M_19 G hW) (fun _ h9 => h9) rfl d_M_addPair_22 ?_
    refine lv_iload_n hx hb d_M_addPair_25 rfl (lv_at hl 1 rfl) ?_
    refine ia_ld hx hb hK hP 4 (j := fN) rfl (hF) (by decide) d_M_addPair_26 ?_
    refine tp_i (y := (nI n)) (hz) ?_
    refine lv_aload_n hx hb d_M_addPair_27 rfl (lv_at hl 0 rfl) ?_
    refine lv_iload_n hx hb d_M_addPair_28 rfl (lv_at hl 1 rfl) ?_
    refine lv_lload_n hx hb d_M_addPair_29 rfl (lv_at hl 2 rfl) ?_
    refine mx_callR (r := .int (nI (enc B (prN A B x)))) (c_M_pair G hm a1 a2 a3 a4 a5 a6 a7 a8 a9 a10 a11 th ki ka kb zs pu ce pa tr so pl ot fN A B x hP hF hka hkb hA2 hA hB4 hB) hW (iv_M_addPair_30 G hx hb hown hW (va_recv hK hP (ci := 4) (q0 := 0) rfl rfl) [.int (nI fN), .long x] [.int (nI n), .int (nI fN), .ref hm] rfl) hml hl.1 (by rw [hb]; exact d_M_addPair_30) (cd_M_pair G hW) ⟨Nat.le_of_ble_eq_true rfl, Nat.le_of_ble_eq_true rfl⟩ rfl rfl (Nat.le_of_ble_eq_true rfl) (Nat.le_of_ble_eq_true rfl) (Nat.le_of_ble_eq_true rfl) ?_
    refine mx_callN (c_M_insertPair G hm a1 a2 a3 a4 a5 a6 a7 a8 a9 a10 a11 th ki ka kb zs pu ce pa tr so pl ot fN n (enc B (prN A B x)) hP hD hF (by omega) (enc_lt hA hB (prN_lt hA hB x)) hp) hW (iv_M_addPair_33 G hx hb hown hW (va_recv hK hP (ci := 4) (q0 := 0) rfl rfl) [.int (nI fN), .int (nI n), .int (nI (enc B (prN A B x)))] [] rfl) hml hl.1 (by rw [hb]; exact d_M_addPair_33) (cd_M_insertPair G hW) ⟨Nat.le_of_ble_eq_true rfl, Nat.le_of_ble_eq_true rfl⟩ (Nat.le_of_ble_eq_true rfl) (Nat.le_of_ble_eq_true rfl) (Nat.le_of_ble_eq_true rfl) hS (Aa.mono (fun _ h => h) hS.1) (fun H locs hP _ _ hS => ?_)
    have hP : va_P D vcl [(hm, .inr (4, [.int th, .ref a1, .ref a2, .ref a3, .ref a4, .ref a5, .ref a6, .ref a7, .ref a8, .ref a9, .ref a10, .ref a11])), (a1, aN cI 4 ki), (a2, aN cI 4 ka), (a3, aN cI 4 kb), (a4, aI cI 4 zs), (a5, aI cI 4 pu), (a6, aN cI 4096 ce), (a7, aN cI 1024 (stO 256 pa (256 * fN) (insR (enc B (prN A B x)) n (vw pa (256 * fN))))), (a8, aN cI 1024 tr), (a9, aI cI 256 so), (a10, aN cI 6 pl), (a11, aN cI 6 ot)] H := hP
    have hD : va_D (Aa [hm, a1, a2, a3, a4, a5, a6, a7, a8, a9, a10, a11] H0.size) [(hm, .inr (4, [.int th, .ref a1, .ref a2, .ref a3, .ref a4, .ref a5, .ref a6, .ref a7, .ref a8, .ref a9, .ref a10, .ref a11])), (a1, aN cI 4 ki), (a2, aN cI 4 ka), (a3, aN cI 4 kb), (a4, aI cI 4 zs), (a5, aI cI 4 pu), (a6, aN cI 4096 ce), (a7, aN cI 1024 (stO 256 pa (256 * fN) (insR (enc B (prN A B x)) n (vw pa (256 * fN))))), (a8, aN cI 1024 tr), (a9, aI cI 256 so), (a10, aN cI 6 pl), (a11, aN cI 6 ot)] := va_D.same2 [hm, a1, a2, a3, a4, a5, a6, a7, a8, a9, a10, a11] hD rfl rfl
    refine lv_iconst (v := (nI 1)) hx hb d_M_addPair_36 (by decide) ?_
    exact mx_zret hx hb hr hlk d_M_addPair_37 (Nat.le_of_ble_eq_true rfl) (Nat.le_of_ble_eq_true rfl) hS.2.2 (rfl) (⟨by rw [decide_eq_true hlt]; rfl, by rw [if_pos hlt]; exact hP⟩)
  · refine lv_iconst (v := (nI 0)) hx hb d_M_addPair_17 (by decide) ?_
    exact mx_zret hx hb hr hlk d_M_addPair_18 (Nat.le_of_ble_eq_true rfl) (Nat.le_of_ble_eq_true rfl) (fun _ h => nomatch h) (rfl) (⟨by rw [decide_eq_false (by rw [(nI_eq (by omega) (by omega)).mp c_14]; omega)]; rfl, by rw [if_neg (by rw [(nI_eq (by omega) (by omega)).mp c_14]; omega)]; exact hP⟩)
