set_option maxHeartbeats 4000000 in
set_option maxRecDepth 100000 in
theorem c_M_isThere_1 {l : Launch} {s0 : State} {D : va_G} {cI cF cJ : ClassId} (G : Gx l s0 D cI cF cJ) (hm a1 a2 a3 a4 a5 a6 a7 a8 a9 a10 a11 : Nat) (th : Int32) (ki ka kb : Nat → Nat) (zs pu : Nat → Int32) (ce pa tr : Nat → Nat) (so : Nat → Int32) (pl ot : Nat → Nat) (fN : Nat) (A B : Nat) (x : Int64) {H0 : Heap} (hP : va_P D vcl [(hm, .inr (4, [.int th, .ref a1, .ref a2, .ref a3, .ref a4, .ref a5, .ref a6, .ref a7, .ref a8, .ref a9, .ref a10, .ref a11])), (a1, aN cI 4 ki), (a2, aN cI 4 ka), (a3, aN cI 4 kb), (a4, aI cI 4 zs), (a5, aI cI 4 pu), (a6, aN cI 4096 ce), (a7, aN cI 1024 pa), (a8, aN cI 1024 tr), (a9, aI cI 256 so), (a10, aN cI 6 pl), (a11, aN cI 6 ot)] H0) (hF : fN < 4) (hka : ka fN = A) (hkb : kb fN = B) (hki : ki fN = 1) (hA : A ≤ 10) (hB : B ≤ 6) (hc1 : ∀ j, j < 1024 → vw ce (1024 * fN) j ≤ 15) : Mx l s0 y_M_isThere (.code y_M_isThere b_M_isThere 7 (some .boolean)) { frames := 1, cells := 0, slots := 0, locals := 25 } [.ref hm, .int (nI fN), .long x] H0 (fun _ => False) (Rd H0 (.int (bI (allN (isC (vw ce (1024 * fN)) (plx A x)) B)))) := by
  refine Mx.ofW (own := "FewBitsModel") rfl rfl ?_
  rintro p e s m below meth c ⟨hx, hb, hml, hr, hown, hW, hlk⟩ hnm het hH
  have hK := G.k hW
  have hl := lv_entry ([.ref hm, .int (nI fN), .long x]) (n := 7) (Nat.le_of_ble_eq_true rfl)
  rw [lg_entry_eq]
  generalize (lg_sl ([.ref hm, .int (nI fN), .long x]) ++ List.replicate (7 - (lg_sl ([.ref hm, .int (nI fN), .long x])).length) Slot.unset).toArray = ls at hl ⊢
  have hl : lv_has ls 7 [(0, .ref hm), (1, .int (nI fN)), (2, .long x)] := hl
  refine lv_sipush (v := (nI 1024)) hx hb d_M_isThere_0 (by decide) ?_
  refine lv_iload_n hx hb d_M_isThere_3 rfl (lv_at hl 1 rfl) ?_
  refine lv_imul hx hb d_M_isThere_4 ?_
  refine tp_i (y := (nI (1024 * fN))) (pk_mul _ _) ?_
  refine lv_istore (lv' := [(4, .int (nI (1024 * fN))), (0, .ref hm), (1, .int (nI fN)), (2, .long x)]) hx hb d_M_isThere_5 hl (by decide) rfl (fun ls hl => ?_)
  refine lv_aload_n hx hb d_M_isThere_7 rfl (lv_at hl 1 rfl) ?_
  refine va_get (D := D) (ci := 4) (v := .ref a1) (C := R_M) (T := T_M) (N := 12) hx hb (us_M G hW) (fun _ h => h) hown hK hP 0 rfl rfl 1 (by decide) (fl_M_7 G hW) (fun _ h9 => h9) rfl d_M_isThere_8 ?_
  refine lv_iload_n hx hb d_M_isThere_11 rfl (lv_at hl 2 rfl) ?_
  refine ia_ld hx hb hK hP 1 (j := fN) rfl (hF) (by decide) d_M_isThere_12 ?_
  refine tp_i (y := (nI (ki fN))) rfl ?_
  refine tp_i (y := (nI 1)) (by rw [hki]) ?_
  refine lv_iconst (v := (nI 1)) hx hb d_M_isThere_13 (by decide) ?_
  refine lv_icmp_ne (tgt := 82) hx hb d_M_isThere_14 (by decide) (fun c_14 => absurd (rfl) c_14) (fun c_14 => ?_)
  refine lv_iconst (v := (bI true)) hx hb d_M_isThere_17 (by decide) ?_
  refine lv_istore (lv' := [(5, .int (bI true)), (4, .int (nI (1024 * fN))), (0, .ref hm), (1, .int (nI fN)), (2, .long x)]) hx hb d_M_isThere_18 hl (by decide) rfl (fun ls hl => ?_)
  refine lv_iconst (v := (nI 0)) hx hb d_M_isThere_20 (by decide) ?_
  refine lv_istore (lv' := [(6, .int (nI 0)), (5, .int (bI true)), (4, .int (nI (1024 * fN))), (0, .ref hm), (1, .int (nI fN)), (2, .long x)]) hx hb d_M_isThere_21 hl (by decide) rfl (fun ls hl => ?_)
  have loop_23 : ∀ (k : Nat) (i : Nat) (b : Bool), (i + k = B) → (b = allN (isC (vw ce (1024 * fN)) (plx A x)) i) → ∀ (ls : Array Slot), lv_has ls 7 [(6, .int (nI i)), (5, .int (bI b)), (4, .int (nI (1024 * fN))), (0, .ref hm), (1, .int (nI fN)), (2, .long x)] → W p l e { frames := 1, cells := 0, slots := 0, locals := 25 } s m ([.ref hm, .int (nI fN), .long x] : List Value).toArray below meth c H0 [] 0 0 (MQx below (Rd H0 (.int (bI (allN (isC (vw ce (1024 * fN)) (plx A x)) B)))) s 0 0 (fun _ => False)) (F0 m 23 ls []) := by
    intro k
    induction k with
    | zero =>
      intro i b hk hbb  ls hl
      refine lv_iload hx hb d_M_isThere_23 (lv_at hl 0 rfl) ?_
      refine lv_aload_n hx hb d_M_isThere_25 rfl (lv_at hl 3 rfl) ?_
      refine va_get (D := D) (ci := 4) (v := .ref a3) (C := R_M) (T := T_M) (N := 12) hx hb (us_M G hW) (fun _ h => h) hown hK hP 0 rfl rfl 3 (by decide) (fl_M_16 G hW) (fun _ h9 => h9) rfl d_M_isThere_26 ?_
      refine lv_iload_n hx hb d_M_isThere_29 rfl (lv_at hl 4 rfl) ?_
      refine ia_ld hx hb hK hP 3 (j := fN) rfl (hF) (by decide) d_M_isThere_30 ?_
      refine tp_i (y := (nI (kb fN))) rfl ?_
      refine tp_i (y := (nI B)) (by rw [hkb]) ?_
      refine lv_icmp_ge (tgt := 79) hx hb d_M_isThere_31 (by decide) (fun c_31 => ?_) (fun c_31 => absurd (nI_le (by omega) (by omega)) c_31)
      refine lv_iload hx hb d_M_isThere_79 (lv_at hl 1 rfl) ?_
      exact mx_zret hx hb hr hlk d_M_isThere_81 (Nat.le_of_ble_eq_true rfl) (Nat.le_of_ble_eq_true rfl) (fun _ h => nomatch h) (bI_nar _) (⟨by rw [hbb, show i = B by omega], rfl⟩)
    | succ k ih_23 =>
      intro i b hk hbb  ls hl
      refine lv_iload hx hb d_M_isThere_23 (lv_at hl 0 rfl) ?_
      refine lv_aload_n hx hb d_M_isThere_25 rfl (lv_at hl 3 rfl) ?_
      refine va_get (D := D) (ci := 4) (v := .ref a3) (C := R_M) (T := T_M) (N := 12) hx hb (us_M G hW) (fun _ h => h) hown hK hP 0 rfl rfl 3 (by decide) (fl_M_16 G hW) (fun _ h9 => h9) rfl d_M_isThere_26 ?_
      refine lv_iload_n hx hb d_M_isThere_29 rfl (lv_at hl 4 rfl) ?_
      refine ia_ld hx hb hK hP 3 (j := fN) rfl (hF) (by decide) d_M_isThere_30 ?_
      refine tp_i (y := (nI (kb fN))) rfl ?_
      refine tp_i (y := (nI B)) (by rw [hkb]) ?_
      refine lv_icmp_ge (tgt := 79) hx hb d_M_isThere_31 (by decide) (fun c_31 => absurd c_31 (nI_ge (by omega) (by omega))) (fun c_31 => ?_)
      refine lv_iload hx hb d_M_isThere_34 (lv_at hl 1 rfl) ?_
      refine lv_if_eq (tgt := 70) hx hb d_M_isThere_36 (by decide) (fun c_36 => ?_) (fun c_36 => ?_)
      · refine lv_iconst (v := (bI false)) hx hb d_M_isThere_70 (by decide) ?_
        refine lv_istore (lv' := [(5, .int (bI false)), (6, .int (nI i)), (4, .int (nI (1024 * fN))), (0, .ref hm), (1, .int (nI fN)), (2, .long x)]) hx hb d_M_isThere_71 hl (by decide) rfl (fun ls hl => ?_)
        refine lv_iinc (v := (nI (i + 1))) (lv' := [(6, .int (nI (i + 1))), (5, .int (bI false)), (4, .int (nI (1024 * fN))), (0, .ref hm), (1, .int (nI fN)), (2, .long x)]) hx hb d_M_isThere_73 hl (k := 1) rfl (nI_1 _) (by decide) rfl (fun ls hl => ?_)
        refine lv_goto (tgt := 23) hx hb d_M_isThere_76 (by decide) ?_
        exact ih_23 (i + 1) (false) (by omega) (by show false = (_ && _); rw [← hbb, bI_f c_36]; rfl) ls (lv_sub hl [0, 1, 2, 3, 4, 5] rfl)
      · refine lv_aload_n hx hb d_M_isThere_39 rfl (lv_at hl 3 rfl) ?_
        refine va_get (D := D) (ci := 4) (v := .ref a6) (C := R_M) (T := T_M) (N := 12) hx hb (us_M G hW) (fun _ h => h) hown hK hP 0 rfl rfl 6 (by decide) (fl_M_25 G hW) (fun _ h9 => h9) rfl d_M_isThere_40 ?_
        refine lv_iload hx hb d_M_isThere_43 (lv_at hl 2 rfl) ?_
        refine lv_lload_n hx hb d_M_isThere_45 rfl (lv_at hl 5 rfl) ?_
        refine lv_iload hx hb d_M_isThere_46 (lv_at hl 0 rfl) ?_
        refine lv_i2l hx hb d_M_isThere_48 rfl ?_
        refine mx_callR (r := .long (mx x (nI i).toInt64)) (c_M_mixed G x (nI i).toInt64) hW (iv_M_isThere_49 G hx hb hown hW [.long x, .long (Int32.toInt64 (nI i))] [.int (nI (1024 * fN)), .ref a6] rfl) hml hl.1 (by rw [hb]; exact d_M_isThere_49) (cd_M_mixed G hW) ⟨Nat.le_of_ble_eq_true rfl, Nat.le_of_ble_eq_true rfl⟩ rfl rfl (Nat.le_of_ble_eq_true rfl) (Nat.le_of_ble_eq_true rfl) (Nat.le_of_ble_eq_true rfl) ?_
        refine lv_aload_n hx hb d_M_isThere_52 rfl (lv_at hl 3 rfl) ?_
        refine va_get (D := D) (ci := 4) (v := .ref a2) (C := R_M) (T := T_M) (N := 12) hx hb (us_M G hW) (fun _ h => h) hown hK hP 0 rfl rfl 2 (by decide) (fl_M_13 G hW) (fun _ h9 => h9) rfl d_M_isThere_53 ?_
        refine lv_iload_n hx hb d_M_isThere_56 rfl (lv_at hl 4 rfl) ?_
        refine ia_ld hx hb hK hP 2 (j := fN) rfl (hF) (by decide) d_M_isThere_57 ?_
        refine tp_i (y := (nI (ka fN))) rfl ?_
        refine tp_i (y := (nI A)) (by rw [hka]) ?_
        refine mx_callR (r := .int (nI (plx A x i))) (c_M_lowest G (mx x (nI i).toInt64) A (by omega)) hW (iv_M_isThere_58 G hx hb hown hW [.long (mx x (nI i).toInt64), .int (nI A)] [.int (nI (1024 * fN)), .ref a6] rfl) hml hl.1 (by rw [hb]; exact d_M_isThere_58) (cd_M_lowest G hW) ⟨Nat.le_of_ble_eq_true rfl, Nat.le_of_ble_eq_true rfl⟩ rfl rfl (Nat.le_of_ble_eq_true rfl) (Nat.le_of_ble_eq_true rfl) (Nat.le_of_ble_eq_true rfl) ?_
        refine lv_iadd hx hb d_M_isThere_61 ?_
        refine tp_i (y := (nI ((1024 * fN) + plx A x i))) (nI_add _ _) ?_
        refine ia_ld hx hb hK hP 6 (j := ((1024 * fN) + plx A x i)) rfl (by have := plx_lt hA x i; omega) (by decide) d_M_isThere_62 ?_
        refine tp_i (y := (nI (ce ((1024 * fN) + plx A x i)))) rfl ?_
        refine tp_i (y := (nI (vw ce (1024 * fN) (plx A x i)))) (rfl) ?_
        refine lv_if_le (tgt := 70) hx hb d_M_isThere_63 (by decide) (fun c_63 => ?_) (fun c_63 => ?_)
        · refine lv_iconst (v := (bI false)) hx hb d_M_isThere_70 (by decide) ?_
          refine lv_istore (lv' := [(5, .int (bI false)), (6, .int (nI i)), (4, .int (nI (1024 * fN))), (0, .ref hm), (1, .int (nI fN)), (2, .long x)]) hx hb d_M_isThere_71 hl (by decide) rfl (fun ls hl => ?_)
          refine lv_iinc (v := (nI (i + 1))) (lv' := [(6, .int (nI (i + 1))), (5, .int (bI false)), (4, .int (nI (1024 * fN))), (0, .ref hm), (1, .int (nI fN)), (2, .long x)]) hx hb d_M_isThere_73 hl (k := 1) rfl (nI_1 _) (by decide) rfl (fun ls hl => ?_)
          refine lv_goto (tgt := 23) hx hb d_M_isThere_76 (by decide) ?_
          exact ih_23 (i + 1) (false) (by omega) (by have h8 : isC (vw ce (1024 * fN)) (plx A x) i = false := decide_eq_false (fun h9 => nI_nle h9 (by have := hc1 _ (plx_lt hA x i); omega) c_63); exact (allN_f (Nat.lt_succ_self i) h8).symm) ls (lv_sub hl [0, 1, 2, 3, 4, 5] rfl)
        · refine lv_iconst (v := (bI true)) hx hb d_M_isThere_66 (by decide) ?_
          refine lv_goto (tgt := 71) hx hb d_M_isThere_67 (by decide) ?_
          refine lv_istore (lv' := [(5, .int (bI true)), (6, .int (nI i)), (4, .int (nI (1024 * fN))), (0, .ref hm), (1, .int (nI fN)), (2, .long x)]) hx hb d_M_isThere_71 hl (by decide) rfl (fun ls hl => ?_)
          refine lv_iinc (v := (nI (i + 1))) (lv' := [(6, .int (nI (i + 1))), (5, .int (bI true)), (4, .int (nI (1024 * fN))), (0, .ref hm), (1, .int (nI fN)), (2, .long x)]) hx hb d_M_isThere_73 hl (k := 1) rfl (nI_1 _) (by decide) rfl (fun ls hl => ?_)
          refine lv_goto (tgt := 23) hx hb d_M_isThere_76 (by decide) ?_
          exact ih_23 (i + 1) (true) (by omega) (by have h8 : isC (vw ce (1024 * fN)) (plx A x) i = true := decide_eq_true (Nat.pos_of_ne_zero (fun h9 => c_63 (by rw [h9]; decide))); exact (allN_s (by rw [← hbb]; exact bI_t c_36) h8).symm) ls (lv_sub hl [0, 1, 2, 3, 4, 5] rfl)
  exact loop_23 (B) (0) (true) (by omega) (rfl) ls (lv_sub hl [0, 1, 2, 3, 4, 5] rfl)

set_option maxHeartbeats 4000000 in
set_option maxRecDepth 100000 in
theorem c_M_isThere_2 {l : Launch} {s0 : State} {D : va_G} {cI cF cJ : ClassId} (G : Gx l s0 D cI cF cJ) (hm a1 a2 a3 a4 a5 a6 a7 a8 a9 a10 a11 : Nat) (th : Int32) (ki ka kb : Nat → Nat) (zs pu : Nat → Int32) (ce pa tr : Nat → Nat) (so : Nat → Int32) (pl ot : Nat → Nat) (fN : Nat) (A B : Nat) (x : Int64) {H0 : Heap} (hP : va_P D vcl [(hm, .inr (4, [.int th, .ref a1, .ref a2, .ref a3, .ref a4, .ref a5, .ref a6, .ref a7, .ref a8, .ref a9, .ref a10, .ref a11])), (a1, aN cI 4 ki), (a2, aN cI 4 ka), (a3, aN cI 4 kb), (a4, aI cI 4 zs), (a5, aI cI 4 pu), (a6, aN cI 4096 ce), (a7, aN cI 1024 pa), (a8, aN cI 1024 tr), (a9, aI cI 256 so), (a10, aN cI 6 pl), (a11, aN cI 6 ot)] H0) (hF : fN < 4) (hka : ka fN = A) (hkb : kb fN = B) (hki : ki fN = 2) (hA : A ≤ 8) (hB4 : 4 ≤ B) (hB : B ≤ 16) (hs : ∀ j, j < 1024 → vw ce (1024 * fN) j < 65536) : Mx l s0 y_M_isThere (.code y_M_isThere b_M_isThere 7 (some .boolean)) { frames := 2, cells := 0, slots := 0, locals := 49 } [.ref hm, .int (nI fN), .long x] H0 (fun _ => False) (Rd H0 (.int (bI (slotB A B x (vw ce (1024 * fN))).isSome))) := by
  refine Mx.ofW (own := "FewBitsModel") rfl rfl ?_
  rintro p e s m below meth c ⟨hx, hb, hml, hr, hown, hW, hlk⟩ hnm het hH
  have hK := G.k hW
  have h8 := p2_le hA
  have hl := lv_entry ([.ref hm, .int (nI fN), .long x]) (n := 7) (Nat.le_of_ble_eq_true rfl)
  rw [lg_entry_eq]
  generalize (lg_sl ([.ref hm, .int (nI fN), .long x]) ++ List.replicate (7 - (lg_sl ([.ref hm, .int (nI fN), .long x])).length) Slot.unset).toArray = ls at hl ⊢
  have hl : lv_has ls 7 [(0, .ref hm), (1, .int (nI fN)), (2, .long x)] := hl
  refine lv_sipush (v := (nI 1024)) hx hb d_M_isThere_0 (by decide) ?_
  refine lv_iload_n hx hb d_M_isThere_3 rfl (lv_at hl 1 rfl) ?_
  refine lv_imul hx hb d_M_isThere_4 ?_
  refine tp_i (y := (nI (1024 * fN))) (pk_mul _ _) ?_
  refine lv_istore (lv' := [(4, .int (nI (1024 * fN))), (0, .ref hm), (1, .int (nI fN)), (2, .long x)]) hx hb d_M_isThere_5 hl (by decide) rfl (fun ls hl => ?_)
  refine lv_aload_n hx hb d_M_isThere_7 rfl (lv_at hl 1 rfl) ?_
  refine va_get (D := D) (ci := 4) (v := .ref a1) (C := R_M) (T := T_M) (N := 12) hx hb (us_M G hW) (fun _ h => h) hown hK hP 0 rfl rfl 1 (by decide) (fl_M_7 G hW) (fun _ h9 => h9) rfl d_M_isThere_8 ?_
  refine lv_iload_n hx hb d_M_isThere_11 rfl (lv_at hl 2 rfl) ?_
  refine ia_ld hx hb hK hP 1 (j := fN) rfl (hF) (by decide) d_M_isThere_12 ?_
  refine tp_i (y := (nI (ki fN))) rfl ?_
  refine tp_i (y := (nI 2)) (by rw [hki]) ?_
  refine lv_iconst (v := (nI 1)) hx hb d_M_isThere_13 (by decide) ?_
  refine lv_icmp_ne (tgt := 82) hx hb d_M_isThere_14 (by decide) (fun c_14 => ?_) (fun c_14 => absurd c_14 (by decide))
  refine lv_aload_n hx hb d_M_isThere_82 rfl (lv_at hl 1 rfl) ?_
  refine va_get (D := D) (ci := 4) (v := .ref a1) (C := R_M) (T := T_M) (N := 12) hx hb (us_M G hW) (fun _ h => h) hown hK hP 0 rfl rfl 1 (by decide) (fl_M_7 G hW) (fun _ h9 => h9) rfl d_M_isThere_83 ?_
  refine lv_iload_n hx hb d_M_isThere_86 rfl (lv_at hl 2 rfl) ?_
  refine ia_ld hx hb hK hP 1 (j := fN) rfl (hF) (by decide) d_M_isThere_87 ?_
  refine tp_i (y := (nI (ki fN))) rfl ?_
  refine tp_i (y := (nI 2)) (by rw [hki]) ?_
  refine lv_iconst (v := (nI 2)) hx hb d_M_isThere_88 (by decide) ?_
  refine lv_icmp_ne (tgt := 155) hx hb d_M_isThere_89 (by decide) (fun c_89 => absurd (rfl) c_89) (fun c_89 => ?_)
  refine lv_aload_n hx hb d_M_isThere_92 rfl (lv_at hl 1 rfl) ?_
  refine lv_iload_n hx hb d_M_isThere_93 rfl (lv_at hl 2 rfl) ?_
  refine lv_lload_n hx hb d_M_isThere_94 rfl (lv_at hl 3 rfl) ?_
  refine mx_callR (r := .int (nI (fpN B x))) (c_M_fingerprint G hm a1 a2 a3 a4 a5 a6 a7 a8 a9 a10 a11 th ki ka kb zs pu ce pa tr so pl ot fN A B x hP hF hka hkb hB4 hB) hW (iv_M_isThere_95 G hx hb hown hW (va_recv hK hP (ci := 4) (q0 := 0) rfl rfl) [.int (nI fN), .long x] [] rfl) hml hl.1 (by rw [hb]; exact d_M_isThere_95) (cd_M_fingerprint G hW) ⟨Nat.le_of_ble_eq_true rfl, Nat.le_of_ble_eq_true rfl⟩ rfl rfl (Nat.le_of_ble_eq_true rfl) (Nat.le_of_ble_eq_true rfl) (Nat.le_of_ble_eq_true rfl) ?_
  refine lv_istore (lv' := [(5, .int (nI (fpN B x))), (4, .int (nI (1024 * fN))), (0, .ref hm), (1, .int (nI fN)), (2, .long x)]) hx hb d_M_isThere_98 hl (by decide) rfl (fun ls hl => ?_)
  refine lv_aload_n hx hb d_M_isThere_100 rfl (lv_at hl 2 rfl) ?_
  refine lv_iload_n hx hb d_M_isThere_101 rfl (lv_at hl 3 rfl) ?_
  refine lv_lload_n hx hb d_M_isThere_102 rfl (lv_at hl 4 rfl) ?_
  refine mx_callR (r := .int (nI (fbN A x))) (c_M_firstBucket G hm a1 a2 a3 a4 a5 a6 a7 a8 a9 a10 a11 th ki ka kb zs pu ce pa tr so pl ot fN A B x hP hF hka hkb (by omega)) hW (iv_M_isThere_103 G hx hb hown hW (va_recv hK hP (ci := 4) (q0 := 0) rfl rfl) [.int (nI fN), .long x] [] rfl) hml hl.1 (by rw [hb]; exact d_M_isThere_103) (cd_M_firstBucket G hW) ⟨Nat.le_of_ble_eq_true rfl, Nat.le_of_ble_eq_true rfl⟩ rfl rfl (Nat.le_of_ble_eq_true rfl) (Nat.le_of_ble_eq_true rfl) (Nat.le_of_ble_eq_true rfl) ?_
  refine lv_istore (lv' := [(6, .int (nI (fbN A x))), (5, .int (nI (fpN B x))), (4, .int (nI (1024 * fN))), (0, .ref hm), (1, .int (nI fN)), (2, .long x)]) hx hb d_M_isThere_106 hl (by decide) rfl (fun ls hl => ?_)
  refine lv_aload_n hx hb d_M_isThere_108 rfl (lv_at hl 3 rfl) ?_
  refine lv_aload_n hx hb d_M_isThere_109 rfl (lv_at hl 3 rfl) ?_
  refine va_get (D := D) (ci := 4) (v := .ref a6) (C := R_M) (T := T_M) (N := 12) hx hb (us_M G hW) (fun _ h => h) hown hK hP 0 rfl rfl 6 (by decide) (fl_M_25 G hW) (fun _ h9 => h9) rfl d_M_isThere_110 ?_
  refine lv_iload hx hb d_M_isThere_113 (lv_at hl 2 rfl) ?_
  refine lv_iload hx hb d_M_isThere_115 (lv_at hl 0 rfl) ?_
  refine lv_iload hx hb d_M_isThere_117 (lv_at hl 1 rfl) ?_
  refine mx_callR (r := .int (oI (fnd ce (fpN B x) ((1024 * fN) + 4 * (fbN A x)) 4))) (c_M_slotWith_6 G hm a1 a2 a3 a4 a5 a6 a7 a8 a9 a10 a11 th ki ka kb zs pu ce pa tr so pl ot fN (fbN A x) (fpN B x) hP hF (by have := fbN_lt A x; omega) (fpN_lt hB4 hB x) (fun j hj => by rw [Nat.add_assoc]; exact hs (4 * (fbN A x) + j) (by have := fbN_lt A x; have := obN_lt (fbN_lt A x) (fpN B x); omega))) hW (iv_M_isThere_119 G hx hb hown hW (va_recv hK hP (ci := 4) (q0 := 0) rfl rfl) [.ref a6, .int (nI (1024 * fN)), .int (nI (fbN A x)), .int (nI (fpN B x))] [] rfl) hml hl.1 (by rw [hb]; exact d_M_isThere_119) (cd_M_slotWith G hW) ⟨Nat.le_of_ble_eq_true rfl, Nat.le_of_ble_eq_true rfl⟩ rfl rfl (Nat.le_of_ble_eq_true rfl) (Nat.le_of_ble_eq_true rfl) (Nat.le_of_ble_eq_true rfl) ?_
  refine lv_if_ge (tgt := 149) hx hb d_M_isThere_122 (by decide) (fun c_122 => ?_) (fun c_122 => ?_)
  · refine lv_iconst (v := (nI 1)) hx hb d_M_isThere_149 (by decide) ?_
    refine lv_goto (tgt := 154) hx hb d_M_isThere_150 (by decide) ?_
    exact mx_zret hx hb hr hlk d_M_isThere_154 (Nat.le_of_ble_eq_true rfl) (Nat.le_of_ble_eq_true rfl) (fun _ h => nomatch h) (rfl) (by obtain ⟨j, hj⟩ := (oI_ge (fun j hj => by have := fnd_in hj; have := fbN_lt A x; have := obN_lt (fbN_lt A x) (fpN B x); omega)).mp c_122; rw [fnd_vw] at hj; obtain ⟨i, hi, -⟩ := map_some hj; exact ⟨by rw [slotB_1 hi]; rfl, rfl⟩)
  · have hn1 : fnd (vw ce (1024 * fN)) (fpN B x) (4 * (fbN A x)) 4 = none := by cases e9 : fnd ce (fpN B x) ((1024 * fN) + 4 * (fbN A x)) 4 with | none => (rw [fnd_vw] at e9; exact map_none e9) | some j => exact absurd ((oI_ge (fun j hj => by have := fnd_in hj; have := fbN_lt A x; have := obN_lt (fbN_lt A x) (fpN B x); omega)).mpr ⟨j, e9⟩) c_122
    refine lv_aload_n hx hb d_M_isThere_125 rfl (lv_at hl 3 rfl) ?_
    refine lv_aload_n hx hb d_M_isThere_126 rfl (lv_at hl 3 rfl) ?_
    refine va_get (D := D) (ci := 4) (v := .ref a6) (C := R_M) (T := T_M) (N := 12) hx hb (us_M G hW) (fun _ h => h) hown hK hP 0 rfl rfl 6 (by decide) (fl_M_25 G hW) (fun _ h9 => h9) rfl d_M_isThere_127 ?_
    refine lv_iload hx hb d_M_isThere_130 (lv_at hl 2 rfl) ?_
    refine lv_aload_n hx hb d_M_isThere_132 rfl (lv_at hl 3 rfl) ?_
    refine lv_iload_n hx hb d_M_isThere_133 rfl (lv_at hl 4 rfl) ?_
    refine lv_iload hx hb d_M_isThere_134 (lv_at hl 1 rfl) ?_
    refine lv_iload hx hb d_M_isThere_136 (lv_at hl 0 rfl) ?_
    refine mx_callR (r := .int (nI (obN A (fbN A x) (fpN B x)))) (c_M_otherBucket G hm a1 a2 a3 a4 a5 a6 a7 a8 a9 a10 a11 th ki ka kb zs pu ce pa tr so pl ot fN A B (fbN A x) (fpN B x) hP hF hka hkb (by omega)) hW (iv_M_isThere_138 G hx hb hown hW (va_recv hK hP (ci := 4) (q0 := 0) rfl rfl) [.int (nI fN), .int (nI (fpN B x)), .int (nI (fbN A x))] [.int (nI (1024 * fN)), .ref a6, .ref hm] rfl) hml hl.1 (by rw [hb]; exact d_M_isThere_138) (cd_M_otherBucket G hW) ⟨Nat.le_of_ble_eq_true rfl, Nat.le_of_ble_eq_true rfl⟩ rfl rfl (Nat.le_of_ble_eq_true rfl) (Nat.le_of_ble_eq_true rfl) (Nat.le_of_ble_eq_true rfl) ?_
    refine lv_iload hx hb d_M_isThere_141 (lv_at hl 1 rfl) ?_
    refine mx_callR (r := .int (oI (fnd ce (fpN B x) ((1024 * fN) + 4 * (obN A (fbN A x) (fpN B x))) 4))) (c_M_slotWith_6 G hm a1 a2 a3 a4 a5 a6 a7 a8 a9 a10 a11 th ki ka kb zs pu ce pa tr so pl ot fN (obN A (fbN A x) (fpN B x)) (fpN B x) hP hF (by have := obN_lt (fbN_lt A x) (fpN B x); omega) (fpN_lt hB4 hB x) (fun j hj => by rw [Nat.add_assoc]; exact hs (4 * (obN A (fbN A x) (fpN B x)) + j) (by have := fbN_lt A x; have := obN_lt (fbN_lt A x) (fpN B x); omega))) hW (iv_M_isThere_143 G hx hb hown hW (va_recv hK hP (ci := 4) (q0 := 0) rfl rfl) [.ref a6, .int (nI (1024 * fN)), .int (nI (obN A (fbN A x) (fpN B x))), .int (nI (fpN B x))] [] rfl) hml hl.1 (by rw [hb]; exact d_M_isThere_143) (cd_M_slotWith G hW) ⟨Nat.le_of_ble_eq_true rfl, Nat.le_of_ble_eq_true rfl⟩ rfl rfl (Nat.le_of_ble_eq_true rfl) (Nat.le_of_ble_eq_true rfl) (Nat.le_of_ble_eq_true rfl) ?_
    refine lv_if_lt (tgt := 153) hx hb d_M_isThere_146 (by decide) (fun c_146 => ?_) (fun c_146 => ?_)
    · refine lv_iconst (v := (nI 0)) hx hb d_M_isThere_153 (by decide) ?_
      exact mx_zret hx hb hr hlk d_M_isThere_154 (Nat.le_of_ble_eq_true rfl) (Nat.le_of_ble_eq_true rfl) (fun _ h => nomatch h) (rfl) (by have h9 := (oI_lt (fun j hj => by have := fnd_in hj; have := fbN_lt A x; have := obN_lt (fbN_lt A x) (fpN B x); omega)).mp c_146; rw [fnd_vw] at h9; exact ⟨by rw [slotB_2 hn1, map_none h9]; rfl, rfl⟩)
    · refine lv_iconst (v := (nI 1)) hx hb d_M_isThere_149 (by decide) ?_
      refine lv_goto (tgt := 154) hx hb d_M_isThere_150 (by decide) ?_
      exact mx_zret hx hb hr hlk d_M_isThere_154 (Nat.le_of_ble_eq_true rfl) (Nat.le_of_ble_eq_true rfl) (fun _ h => nomatch h) (rfl) (by cases e9 : fnd ce (fpN B x) ((1024 * fN) + 4 * (obN A (fbN A x) (fpN B x))) 4 with | none => exact absurd ((oI_lt (fun j hj => by have := fnd_in hj; have := fbN_lt A x; have := obN_lt (fbN_lt A x) (fpN B x); omega)).mpr e9) c_146 | some j => (rw [fnd_vw] at e9; obtain ⟨i, hi, -⟩ := map_some e9; exact ⟨by rw [slotB_2 hn1, hi]; rfl, rfl⟩))

set_option maxHeartbeats 4000000 in
set_option maxRecDepth 100000 in
theorem c_M_isThere_3 {l : Launch} {s0 : State} {D : va_G} {cI cF cJ : ClassId} (G : Gx l s0 D cI cF cJ) (hm a1 a2 a3 a4 a5 a6 a7 a8 a9 a10 a11 : Nat) (th : Int32) (ki ka kb : Nat → Nat) (zs pu : Nat → Int32) (ce pa tr : Nat → Nat) (so : Nat → Int32) (pl ot : Nat → Nat) (fN : Nat) (A B : Nat) (n : Nat) (x : Int64) {H0 : Heap} (hP : va_P D vcl [(hm, .inr (4, [.int th, .ref a1, .ref a2, .ref a3, .ref a4, .ref a5, .ref a6, .ref a7, .ref a8, .ref a9, .ref a10, .ref a11])), (a1, aN cI 4 ki), (a2, aN cI 4 ka), (a3, aN cI 4 kb), (a4, aI cI 4 zs), (a5, aI cI 4 pu), (a6, aN cI 4096 ce), (a7, aN cI 1024 pa), (a8, aN cI 1024 tr), (a9, aI cI 256 so), (a10, aN cI 6 pl), (a11, aN cI 6 ot)] H0) (hF : fN < 4) (hka : ka fN = A) (hkb : kb fN = B) (hki : ki fN = 3) (hA2 : 2 ≤ A) (hA : A ≤ 8) (hB4 : 4 ≤ B) (hB : B ≤ 20) (hz : zs fN = nI n) (hn : n ≤ 256) (hp : ∀ j, j < 256 → vw pa (256 * fN) j < 2 ^ 28) : Mx l s0 y_M_isThere (.code y_M_isThere b_M_isThere 7 (some .boolean)) { frames := 2, cells := 0, slots := 0, locals := 52 } [.ref hm, .int (nI fN), .long x] H0 (fun _ => False) (Rd H0 (.int (bI (fnd (vw pa (256 * fN)) (enc B (prN A B x)) 0 n).isSome))) := by
  refine Mx.ofW (own := "FewBitsModel") rfl rfl ?_
  rintro p e s m below meth c ⟨hx, hb, hml, hr, hown, hW, hlk⟩ hnm het hH
  have hK := G.k hW
  have hl := lv_entry ([.ref hm, .int (nI fN), .long x]) (n := 7) (Nat.le_of_ble_eq_true rfl)
  rw [lg_entry_eq]
  generalize (lg_sl ([.ref hm, .int (nI fN), .long x]) ++ List.replicate (7 - (lg_sl ([.ref hm, .int (nI fN), .long x])).length) Slot.unset).toArray = ls at hl ⊢
  have hl : lv_has ls 7 [(0, .ref hm), (1, .int (nI fN)), (2, .long x)] := hl
  refine lv_sipush (v := (nI 1024)) hx hb d_M_isThere_0 (by decide) ?_
  refine lv_iload_n hx hb d_M_isThere_3 rfl (lv_at hl 1 rfl) ?_
  refine lv_imul hx hb d_M_isThere_4 ?_
  refine tp_i (y := (nI (1024 * fN))) (pk_mul _ _) ?_
  refine lv_istore (lv' := [(4, .int (nI (1024 * fN))), (0, .ref hm), (1, .int (nI fN)), (2, .long x)]) hx hb d_M_isThere_5 hl (by decide) rfl (fun ls hl => ?_)
  refine lv_aload_n hx hb d_M_isThere_7 rfl (lv_at hl 1 rfl) ?_
  refine va_get (D := D) (ci := 4) (v := .ref a1) (C := R_M) (T := T_M) (N := 12) hx hb (us_M G hW) (fun _ h => h) hown hK hP 0 rfl rfl 1 (by decide) (fl_M_7 G hW) (fun _ h9 => h9) rfl d_M_isThere_8 ?_
  refine lv_iload_n hx hb d_M_isThere_11 rfl (lv_at hl 2 rfl) ?_
  refine ia_ld hx hb hK hP 1 (j := fN) rfl (hF) (by decide) d_M_isThere_12 ?_
  refine tp_i (y := (nI (ki fN))) rfl ?_
  refine tp_i (y := (nI 3)) (by rw [hki]) ?_
  refine lv_iconst (v := (nI 1)) hx hb d_M_isThere_13 (by decide) ?_
  refine lv_icmp_ne (tgt := 82) hx hb d_M_isThere_14 (by decide) (fun c_14 => ?_) (fun c_14 => absurd c_14 (by decide))
  refine lv_aload_n hx hb d_M_isThere_82 rfl (lv_at hl 1 rfl) ?_
  refine va_get (D := D) (ci := 4) (v := .ref a1) (C := R_M) (T := T_M) (N := 12) hx hb (us_M G hW) (fun _ h => h) hown hK hP 0 rfl rfl 1 (by decide) (fl_M_7 G hW) (fun _ h9 => h9) rfl d_M_isThere_83 ?_
  refine lv_iload_n hx hb d_M_isThere_86 rfl (lv_at hl 2 rfl) ?_
  refine ia_ld hx hb hK hP 1 (j := fN) rfl (hF) (by decide) d_M_isThere_87 ?_
  refine tp_i (y := (nI (ki fN))) rfl ?_
  refine tp_i (y := (nI 3)) (by rw [hki]) ?_
  refine lv_iconst (v := (nI 2)) hx hb d_M_isThere_88 (by decide) ?_
  refine lv_icmp_ne (tgt := 155) hx hb d_M_isThere_89 (by decide) (fun c_89 => ?_) (fun c_89 => absurd c_89 (by decide))
  refine lv_aload_n hx hb d_M_isThere_155 rfl (lv_at hl 1 rfl) ?_
  refine lv_iload_n hx hb d_M_isThere_156 rfl (lv_at hl 2 rfl) ?_
  refine lv_aload_n hx hb d_M_isThere_157 rfl (lv_at hl 1 rfl) ?_
  refine lv_iload_n hx hb d_M_isThere_158 rfl (lv_at hl 2 rfl) ?_
  refine lv_lload_n hx hb d_M_isThere_159 rfl (lv_at hl 3 rfl) ?_
  refine mx_callR (r := .int (nI (enc B (prN A B x)))) (c_M_pair G hm a1 a2 a3 a4 a5 a6 a7 a8 a9 a10 a11 th ki ka kb zs pu ce pa tr so pl ot fN A B x hP hF hka hkb hA2 hA hB4 hB) hW (iv_M_isThere_160 G hx hb hown hW (va_recv hK hP (ci := 4) (q0 := 0) rfl rfl) [.int (nI fN), .long x] [.int (nI fN), .ref hm] rfl) hml hl.1 (by rw [hb]; exact d_M_isThere_160) (cd_M_pair G hW) ⟨Nat.le_of_ble_eq_true rfl, Nat.le_of_ble_eq_true rfl⟩ rfl rfl (Nat.le_of_ble_eq_true rfl) (Nat.le_of_ble_eq_true rfl) (Nat.le_of_ble_eq_true rfl) ?_
  refine mx_callR (r := .int (oI (fnd (vw pa (256 * fN)) (enc B (prN A B x)) 0 n))) (c_M_findPair G hm a1 a2 a3 a4 a5 a6 a7 a8 a9 a10 a11 th ki ka kb zs pu ce pa tr so pl ot fN n (enc B (prN A B x)) hP hF hz hn (enc_lt hA hB (prN_lt hA hB x)) (fun i hi => hp i (by omega))) hW (iv_M_isThere_163 G hx hb hown hW (va_recv hK hP (ci := 4) (q0 := 0) rfl rfl) [.int (nI fN), .int (nI (enc B (prN A B x)))] [] rfl) hml hl.1 (by rw [hb]; exact d_M_isThere_163) (cd_M_findPair G hW) ⟨Nat.le_of_ble_eq_true rfl, Nat.le_of_ble_eq_true rfl⟩ rfl rfl (Nat.le_of_ble_eq_true rfl) (Nat.le_of_ble_eq_true rfl) (Nat.le_of_ble_eq_true rfl) ?_
  refine lv_if_lt (tgt := 173) hx hb d_M_isThere_166 (by decide) (fun c_166 => ?_) (fun c_166 => ?_)
  · refine lv_iconst (v := (nI 0)) hx hb d_M_isThere_173 (by decide) ?_
    exact mx_zret hx hb hr hlk d_M_isThere_174 (Nat.le_of_ble_eq_true rfl) (Nat.le_of_ble_eq_true rfl) (fun _ h => nomatch h) (rfl) (⟨by rw [(oI_lt (fun j hj => by have := fnd_in hj; omega)).mp c_166]; rfl, rfl⟩)
  · refine lv_iconst (v := (nI 1)) hx hb d_M_isThere_169 (by decide) ?_
    refine lv_goto (tgt := 174) hx hb d_M_isThere_170 (by decide) ?_
    exact mx_zret hx hb hr hlk d_M_isThere_174 (Nat.le_of_ble_eq_true rfl) (Nat.le_of_ble_eq_true rfl) (fun _ h => nomatch h) (rfl) (by cases e9 : (fnd (vw pa (256 * fN)) (enc B (prN A B x)) 0 n) with | none => exact absurd ((oI_lt (fun j hj => by have := fnd_in hj; omega)).mpr e9) c_166 | some j => exact ⟨rfl, rfl⟩)

set_option maxHeartbeats 4000000 in
set_option maxRecDepth 100000 in
theorem c_M_layOut {l : Launch} {s0 : State} {D : va_G} {cI cF cJ : ClassId} (G : Gx l s0 D cI cF cJ) (hm a1 a2 a3 a4 a5 a6 a7 a8 a9 a10 a11 : Nat) (th : Int32) (ki ka kb : Nat → Nat) (zs pu : Nat → Int32) (ce pa tr : Nat → Nat) (so : Nat → Int32) (pl ot : Nat → Nat) (fN : Nat) (A B : Nat) (n : Nat) (f : Nat → Nat) {H0 : Heap} {A0 : Nat → Prop} (hP : va_P D vcl [(hm, .inr (4, [.int th, .ref a1, .ref a2, .ref a3, .ref a4, .ref a5, .ref a6, .ref a7, .ref a8, .ref a9, .ref a10, .ref a11])), (a1, aN cI 4 ki), (a2, aN cI 4 ka), (a3, aN cI 4 kb), (a4, aI cI 4 zs), (a5, aI cI 4 pu), (a6, aN cI 4096 ce), (a7, aN cI 1024 pa), (a8, aN cI 1024 tr), (a9, aI cI 256 so), (a10, aN cI 6 pl), (a11, aN cI 6 ot)] H0) (hD : va_D A0 [(hm, .inr (4, [.int th, .ref a1, .ref a2, .ref a3, .ref a4, .ref a5, .ref a6, .ref a7, .ref a8, .ref a9, .ref a10, .ref a11])), (a1, aN cI 4 ki), (a2, aN cI 4 ka), (a3, aN cI 4 kb), (a4, aI cI 4 zs), (a5, aI cI 4 pu), (a6, aN cI 4096 ce), (a7, aN cI 1024 pa), (a8, aN cI 1024 tr), (a9, aI cI 256 so), (a10, aN cI 6 pl), (a11, aN cI 6 ot)]) (hF : fN < 4) (hka : ka fN = A) (hkb : kb fN = B) (hA2 : 2 ≤ A) (hA : A ≤ 8) (hB4 : 4 ≤ B) (hB : B ≤ 20) (hz : zs fN = nI n) (hn : n ≤ 256) (hpa : ∀ i, i < n → pa ((256 * fN) + i) = enc B (f i)) (hf : ∀ i, i < n → f i < 2 ^ (A + B)) : Mx l s0 y_M_layOut (.code y_M_layOut b_M_layOut 8 none) { frames := 0, cells := 0, slots := 0, locals := 0 } [.ref hm, .int (nI fN)] H0 (Aa [hm, a1, a2, a3, a4, a5, a6, a7, a8, a9, a10, a11] H0.size) (Rn (fun H1 => ∃ so1, va_P D vcl [(hm, .inr (4, [.int th, .ref a1, .ref a2, .ref a3, .ref a4, .ref a5, .ref a6, .ref a7, .ref a8, .ref a9, .ref a10, .ref a11])), (a1, aN cI 4 ki), (a2, aN cI 4 ka), (a3, aN cI 4 kb), (a4, aI cI 4 zs), (a5, aI cI 4 pu), (a6, aN cI 4096 ce), (a7, aN cI 1024 pa), (a8, aN cI 1024 tr), (a9, aI cI 256 so1), (a10, aN cI 6 pl), (a11, aN cI 6 ot)] H1 ∧ shows (cirF f A B n) (2 ^ A) so1)) := by
  refine Mx.ofW (own := "FewBitsModel") rfl rfl ?_
  rintro p e s m below meth c ⟨hx, hb, hml, hr, hown, hW, hlk⟩ hnm het hH
  have hK := G.k hW
  have hD := hD.aa (sz := H0.size)
  have hD : va_D (Aa [hm, a1, a2, a3, a4, a5, a6, a7, a8, a9, a10, a11] H0.size) [(hm, .inr (4, [.int th, .ref a1, .ref a2, .ref a3, .ref a4, .ref a5, .ref a6, .ref a7, .ref a8, .ref a9, .ref a10, .ref a11])), (a1, aN cI 4 ki), (a2, aN cI 4 ka), (a3, aN cI 4 kb), (a4, aI cI 4 zs), (a5, aI cI 4 pu), (a6, aN cI 4096 ce), (a7, aN cI 1024 pa), (a8, aN cI 1024 tr), (a9, aI cI 256 so), (a10, aN cI 6 pl), (a11, aN cI 6 ot)] := hD
  have hS : va_S (Aa [hm, a1, a2, a3, a4, a5, a6, a7, a8, a9, a10, a11] H0.size) H0 H0 [] := va_S.rf
  have h8 := p2_le hA
  have hq2 : ∀ j, j < n → quo f B j < 256 := fun j hj => Nat.lt_of_lt_of_le (div_lt_A (hf j hj)) (by omega)
  have hqb : ∀ st, st ≤ 1024 → ∀ i, i ≤ n → nxt (quo f B) st i ≤ 1024 + i := fun st hst i hi => nxt_le (M := 1024) (fun j hj => by have := hq2 j (by omega); omega) hst
  have hov : ovr f A B n ≤ 512 := by have h9 := nxt_le (M := 256) (n := n) hq2 (show 0 ≤ 256 by decide); unfold ovr; exact Nat.le_trans (Nat.sub_le _ _) (by omega)
  have hA0 := Nat.two_pow_pos A
  have hl := lv_entry ([.ref hm, .int (nI fN)]) (n := 8) (Nat.le_of_ble_eq_true rfl)
  rw [lg_entry_eq]
  generalize (lg_sl ([.ref hm, .int (nI fN)]) ++ List.replicate (8 - (lg_sl ([.ref hm, .int (nI fN)])).length) Slot.unset).toArray = ls at hl ⊢
  have hl : lv_has ls 8 [(0, .ref hm), (1, .int (nI fN))] := hl
  refine lv_iconst (v := (nI 1)) hx hb d_M_layOut_0 (by decide) ?_
  refine lv_aload_n hx hb d_M_layOut_1 rfl (lv_at hl 0 rfl) ?_
  refine va_get (D := D) (ci := 4) (v := .ref a2) (C := R_M) (T := T_M) (N := 12) hx hb (us_M G hW) (fun _ h => h) hown hK hP 0 rfl rfl 2 (by decide) (fl_M_13 G hW) (fun _ h9 => h9) rfl d_M_layOut_2 ?_
  refine lv_iload_n hx hb d_M_layOut_5 rfl (lv_at hl 1 rfl) ?_
  refine ia_ld hx hb hK hP 2 (j := fN) rfl (hF) (by decide) d_M_layOut_6 ?_
  refine tp_i (y := (nI (ka fN))) rfl ?_
  refine tp_i (y := (nI A)) (by rw [hka]) ?_
  refine lv_ishl hx hb d_M_layOut_7 ?_
  refine tp_i (y := (nI (2 ^ A))) (pw_shl A (by omega)) ?_
  refine lv_istore_n (lv' := [(2, .int (nI (2 ^ A))), (0, .ref hm), (1, .int (nI fN))]) hx hb d_M_layOut_8 rfl hl (by decide) rfl (fun ls hl => ?_)
  refine lv_iconst (v := (nI 0)) hx hb d_M_layOut_9 (by decide) ?_
  refine lv_istore_n (lv' := [(3, .int (nI 0)), (2, .int (nI (2 ^ A))), (0, .ref hm), (1, .int (nI fN))]) hx hb d_M_layOut_10 rfl hl (by decide) rfl (fun ls hl => ?_)
  refine lv_iconst (v := (nI 0)) hx hb d_M_layOut_11 (by decide) ?_
  refine lv_istore (lv' := [(4, .int (nI 0)), (3, .int (nI 0)), (2, .int (nI (2 ^ A))), (0, .ref hm), (1, .int (nI fN))]) hx hb d_M_layOut_12 hl (by decide) rfl (fun ls hl => ?_)
  have loop_14 : ∀ (k : Nat) (rd : Nat) (cy : Nat) (sv : Nat → Int32), (rd + k = 2) → (rd = 0 → cy = 0) → (rd = 1 → cy = ovr f A B n) → (rd = 2 → shows (cirF f A B n) (2 ^ A) sv) → ∀ (H : Heap) (locs : List Loc), va_P D vcl [(hm, .inr (4, [.int th, .ref a1, .ref a2, .ref a3, .ref a4, .ref a5, .ref a6, .ref a7, .ref a8, .ref a9, .ref a10, .ref a11])), (a1, aN cI 4 ki), (a2, aN cI 4 ka), (a3, aN cI 4 kb), (a4, aI cI 4 zs), (a5, aI cI 4 pu), (a6, aN cI 4096 ce), (a7, aN cI 1024 pa), (a8, aN cI 1024 tr), (a9, aI cI 256 sv), (a10, aN cI 6 pl), (a11, aN cI 6 ot)] H → va_D (Aa [hm, a1, a2, a3, a4, a5, a6, a7, a8, a9, a10, a11] H0.size) [(hm, .inr (4, [.int th, .ref a1, .ref a2, .ref a3, .ref a4, .ref a5, .ref a6, .ref a7, .ref a8, .ref a9, .ref a10, .ref a11])), (a1, aN cI 4 ki), (a2, aN cI 4 ka), (a3, aN cI 4 kb), (a4, aI cI 4 zs), (a5, aI cI 4 pu), (a6, aN cI 4096 ce), (a7, aN cI 1024 pa), (a8, aN cI 1024 tr), (a9, aI cI 256 sv), (a10, aN cI 6 pl), (a11, aN cI 6 ot)] → va_S (Aa [hm, a1, a2, a3, a4, a5, a6, a7, a8, a9, a10, a11] H0.size) H0 H locs → ∀ (ls : Array Slot), lv_has ls 8 [(4, .int (nI rd)), (3, .int (nI cy)), (2, .int (nI (2 ^ A))), (0, .ref hm), (1, .int (nI fN))] → W p l e { frames := 0, cells := 0, slots := 0, locals := 0 } s m ([.ref hm, .int (nI fN)] : List Value).toArray below meth c H locs 0 0 (MQx below (Rn (fun H1 => ∃ so1, va_P D vcl [(hm, .inr (4, [.int th, .ref a1, .ref a2, .ref a3, .ref a4, .ref a5, .ref a6, .ref a7, .ref a8, .ref a9, .ref a10, .ref a11])), (a1, aN cI 4 ki), (a2, aN cI 4 ka), (a3, aN cI 4 kb), (a4, aI cI 4 zs), (a5, aI cI 4 pu), (a6, aN cI 4096 ce), (a7, aN cI 1024 pa), (a8, aN cI 1024 tr), (a9, aI cI 256 so1), (a10, aN cI 6 pl), (a11, aN cI 6 ot)] H1 ∧ shows (cirF f A B n) (2 ^ A) so1)) s 0 0 (Aa [hm, a1, a2, a3, a4, a5, a6, a7, a8, a9, a10, a11] H0.size)) (F0 m 14 ls []) := by
    intro k
    induction k with
    | zero =>
      intro rd cy sv hk14 hc0 hc1 hsv H locs hP hD hS ls hl
      refine lv_iload hx hb d_M_layOut_14 (lv_at hl 0 rfl) ?_
      refine lv_iconst (v := (nI 2)) hx hb d_M_layOut_16 (by decide) ?_
      refine lv_icmp_ge (tgt := 135) hx hb d_M_layOut_17 (by decide) (fun c_17 => ?_) (fun c_17 => absurd (nI_le (by omega) (by omega)) c_17)
      exact mx_vret hx hb hr hlk d_M_layOut_135 (Nat.le_of_ble_eq_true rfl) (Nat.le_of_ble_eq_true rfl) hS.2.2 (⟨rfl, sv, hP, hsv (by omega)⟩)
    | succ k ih_14 =>
      intro rd cy sv hk14 hc0 hc1 hsv H locs hP hD hS ls hl
      have hcy : cy ≤ 512 := by rcases (show rd = 0 ∨ rd = 1 by omega) with h9 | h9; (rw [hc0 h9]; omega); (rw [hc1 h9]; exact hov)
      refine lv_iload hx hb d_M_layOut_14 (lv_at hl 0 rfl) ?_
      refine lv_iconst (v := (nI 2)) hx hb d_M_layOut_16 (by decide) ?_
      refine lv_icmp_ge (tgt := 135) hx hb d_M_layOut_17 (by decide) (fun c_17 => absurd c_17 (nI_ge (by omega) (by omega))) (fun c_17 => ?_)
      refine lv_iconst (v := (nI 0)) hx hb d_M_layOut_20 (by decide) ?_
      refine lv_istore (lv' := [(5, .int (nI 0)), (4, .int (nI rd)), (3, .int (nI cy)), (2, .int (nI (2 ^ A))), (0, .ref hm), (1, .int (nI fN))]) hx hb d_M_layOut_21 hl (by decide) rfl (fun ls hl => ?_)
      have loop_23 : ∀ (k : Nat) (i2 : Nat) (sv2 : Nat → Int32), (i2 + k = 2 ^ A) → (∀ z, z < i2 → sv2 z = -1) → ∀ (H : Heap) (locs : List Loc), va_P D vcl [(hm, .inr (4, [.int th, .ref a1, .ref a2, .ref a3, .ref a4, .ref a5, .ref a6, .ref a7, .ref a8, .ref a9, .ref a10, .ref a11])), (a1, aN cI 4 ki), (a2, aN cI 4 ka), (a3, aN cI 4 kb), (a4, aI cI 4 zs), (a5, aI cI 4 pu), (a6, aN cI 4096 ce), (a7, aN cI 1024 pa), (a8, aN cI 1024 tr), (a9, aI cI 256 sv2), (a10, aN cI 6 pl), (a11, aN cI 6 ot)] H → va_D (Aa [hm, a1, a2, a3, a4, a5, a6, a7, a8, a9, a10, a11] H0.size) [(hm, .inr (4, [.int th, .ref a1, .ref a2, .ref a3, .ref a4, .ref a5, .ref a6, .ref a7, .ref a8, .ref a9, .ref a10, .ref a11])), (a1, aN cI 4 ki), (a2, aN cI 4 ka), (a3, aN cI 4 kb), (a4, aI cI 4 zs), (a5, aI cI 4 pu), (a6, aN cI 4096 ce), (a7, aN cI 1024 pa), (a8, aN cI 1024 tr), (a9, aI cI 256 sv2), (a10, aN cI 6 pl), (a11, aN cI 6 ot)] → va_S (Aa [hm, a1, a2, a3, a4, a5, a6, a7, a8, a9, a10, a11] H0.size) H0 H locs → ∀ (ls : Array Slot), lv_has ls 8 [(5, .int (nI i2)), (4, .int (nI rd)), (3, .int (nI cy)), (2, .int (nI (2 ^ A))), (0, .ref hm), (1, .int (nI fN))] → W p l e { frames := 0, cells := 0, slots := 0, locals := 0 } s m ([.ref hm, .int (nI fN)] : List Value).toArray below meth c H locs 0 0 (MQx below (Rn (fun H1 => ∃ so1, va_P D vcl [(hm, .inr (4, [.int th, .ref a1, .ref a2, .ref a3, .ref a4, .ref a5, .ref a6, .ref a7, .ref a8, .ref a9, .ref a10, .ref a11])), (a1, aN cI 4 ki), (a2, aN cI 4 ka), (a3, aN cI 4 kb), (a4, aI cI 4 zs), (a5, aI cI 4 pu), (a6, aN cI 4096 ce), (a7, aN cI 1024 pa), (a8, aN cI 1024 tr), (a9, aI cI 256 so1), (a10, aN cI 6 pl), (a11, aN cI 6 ot)] H1 ∧ shows (cirF f A B n) (2 ^ A) so1)) s 0 0 (Aa [hm, a1, a2, a3, a4, a5, a6, a7, a8, a9, a10, a11] H0.size)) (F0 m 23 ls []) := by
        intro k
        induction k with
        | zero =>
          intro i2 sv2 hk23 hs2 H locs hP hD hS ls hl
          refine lv_iload hx hb d_M_layOut_23 (lv_at hl 0 rfl) ?_
          refine lv_iload_n hx hb d_M_layOut_25 rfl (lv_at hl 3 rfl) ?_
          refine lv_icmp_ge (tgt := 43) hx hb d_M_layOut_26 (by decide) (fun c_26 => ?_) (fun c_26 => absurd (nI_le (by omega) (by omega)) c_26)
          refine lv_iload_n hx hb d_M_layOut_43 rfl (lv_at hl 2 rfl) ?_
          refine lv_istore (lv' := [(5, .int (nI cy)), (4, .int (nI rd)), (3, .int (nI cy)), (2, .int (nI (2 ^ A))), (0, .ref hm), (1, .int (nI fN))]) hx hb d_M_layOut_44 hl (by decide) rfl (fun ls hl => ?_)
          refine lv_iconst (v := (nI 0)) hx hb d_M_layOut_46 (by decide) ?_
          refine lv_istore (lv' := [(6, .int (nI 0)), (5, .int (nI cy)), (4, .int (nI rd)), (3, .int (nI cy)), (2, .int (nI (2 ^ A))), (0, .ref hm), (1, .int (nI fN))]) hx hb d_M_layOut_47 hl (by decide) rfl (fun ls hl => ?_)
          have loop_49 : ∀ (k : Nat) (i : Nat) (t : Nat) (sv3 : Nat → Int32), (i + k = n) → (t = nxt (quo f B) cy i) → (shows (cirN (quo f B) cy (2 ^ A) i) (2 ^ A) sv3) → ∀ (H : Heap) (locs : List Loc), va_P D vcl [(hm, .inr (4, [.int th, .ref a1, .ref a2, .ref a3, .ref a4, .ref a5, .ref a6, .ref a7, .ref a8, .ref a9, .ref a10, .ref a11])), (a1, aN cI 4 ki), (a2, aN cI 4 ka), (a3, aN cI 4 kb), (a4, aI cI 4 zs), (a5, aI cI 4 pu), (a6, aN cI 4096 ce), (a7, aN cI 1024 pa), (a8, aN cI 1024 tr), (a9, aI cI 256 sv3), (a10, aN cI 6 pl), (a11, aN cI 6 ot)] H → va_D (Aa [hm, a1, a2, a3, a4, a5, a6, a7, a8, a9, a10, a11] H0.size) [(hm, .inr (4, [.int th, .ref a1, .ref a2, .ref a3, .ref a4, .ref a5, .ref a6, .ref a7, .ref a8, .ref a9, .ref a10, .ref a11])), (a1, aN cI 4 ki), (a2, aN cI 4 ka), (a3, aN cI 4 kb), (a4, aI cI 4 zs), (a5, aI cI 4 pu), (a6, aN cI 4096 ce), (a7, aN cI 1024 pa), (a8, aN cI 1024 tr), (a9, aI cI 256 sv3), (a10, aN cI 6 pl), (a11, aN cI 6 ot)] → va_S (Aa [hm, a1, a2, a3, a4, a5, a6, a7, a8, a9, a10, a11] H0.size) H0 H locs → ∀ (ls : Array Slot), lv_has ls 8 [(6, .int (nI i)), (5, .int (nI t)), (4, .int (nI rd)), (3, .int (nI cy)), (2, .int (nI (2 ^ A))), (0, .ref hm), (1, .int (nI fN))] → W p l e { frames := 0, cells := 0, slots := 0, locals := 0 } s m ([.ref hm, .int (nI fN)] : List Value).toArray below meth c H locs 0 0 (MQx below (Rn (fun H1 => ∃ so1, va_P D vcl [(hm, .inr (4, [.int th, .ref a1, .ref a2, .ref a3, .ref a4, .ref a5, .ref a6, .ref a7, .ref a8, .ref a9, .ref a10, .ref a11])), (a1, aN cI 4 ki), (a2, aN cI 4 ka), (a3, aN cI 4 kb), (a4, aI cI 4 zs), (a5, aI cI 4 pu), (a6, aN cI 4096 ce), (a7, aN cI 1024 pa), (a8, aN cI 1024 tr), (a9, aI cI 256 so1), (a10, aN cI 6 pl), (a11, aN cI 6 ot)] H1 ∧ shows (cirF f A B n) (2 ^ A) so1)) s 0 0 (Aa [hm, a1, a2, a3, a4, a5, a6, a7, a8, a9, a10, a11] H0.size)) (F0 m 49 ls []) := by
            intro k
            induction k with
            | zero =>
              intro i t sv3 hk49 ht hs3 H locs hP hD hS ls hl
              refine lv_iload hx hb d_M_layOut_49 (lv_at hl 0 rfl) ?_
              refine lv_aload_n hx hb d_M_layOut_51 rfl (lv_at hl 5 rfl) ?_
              refine va_get (D := D) (ci := 4) (v := .ref a4) (C := R_M) (T := T_M) (N := 12) hx hb (us_M G hW) (fun _ h => h) hown hK hP 0 rfl rfl 4 (by decide) (fl_M_19 G hW) (fun _ h9 => h9) rfl d_M_layOut_52 ?_
              refine lv_iload_n hx hb d_M_layOut_55 rfl (lv_at hl 6 rfl) ?_
              refine ia_ld hx hb hK hP 4 (j := fN) rfl (hF) (by decide) d_M_layOut_56 ?_
              refine tp_i (y := (nI n)) (hz) ?_
              refine lv_icmp_ge (tgt := 114) hx hb d_M_layOut_57 (by decide) (fun c_57 => ?_) (fun c_57 => absurd (nI_le (by omega) (by omega)) c_57)
              have hin : i = n := by omega
              have htn := hqb cy (by omega) n (Nat.le_refl _)
              rw [hin] at ht
              refine lv_iload hx hb d_M_layOut_114 (lv_at hl 1 rfl) ?_
              refine lv_iload_n hx hb d_M_layOut_116 rfl (lv_at hl 4 rfl) ?_
              refine lv_icmp_le (tgt := 127) hx hb d_M_layOut_117 (by decide) (fun c_117 => ?_) (fun c_117 => ?_)
              · refine lv_iconst (v := (nI 0)) hx hb d_M_layOut_127 (by decide) ?_
                refine tp_i (y := (nI (nxt (quo f B) cy n - 2 ^ A))) (by have h9 := (nI_leI (by omega) (by omega)).mp (show nI (nxt (quo f B) cy n) ≤ nI (2 ^ A) by rw [← ht]; exact c_117); rw [Nat.sub_eq_zero_of_le h9]) ?_
                refine lv_istore_n (lv' := [(3, .int (nI (nxt (quo f B) cy n - 2 ^ A))), (6, .int (nI i)), (5, .int (nI t)), (4, .int (nI rd)), (2, .int (nI (2 ^ A))), (0, .ref hm), (1, .int (nI fN))]) hx hb d_M_layOut_128 rfl hl (by decide) rfl (fun ls hl => ?_)
                refine lv_iinc (v := (nI (rd + 1))) (lv' := [(4, .int (nI (rd + 1))), (3, .int (nI (nxt (quo f B) cy n - 2 ^ A))), (6, .int (nI i)), (5, .int (nI t)), (2, .int (nI (2 ^ A))), (0, .ref hm), (1, .int (nI fN))]) hx hb d_M_layOut_129 hl (k := 3) rfl (nI_1 _) (by decide) rfl (fun ls hl => ?_)
                refine lv_goto (tgt := 14) hx hb d_M_layOut_132 (by decide) ?_
                exact ih_14 (rd + 1) (nxt (quo f B) cy n - 2 ^ A) (sv3) (by omega) (fun h9 => absurd h9 (by omega)) (fun h9 => by rw [hc0 (by omega)]; rfl) (fun h9 => by rw [hc1 (by omega), show i = n by omega] at hs3; exact hs3) H locs hP hD hS ls (lv_sub hl [0, 1, 4, 5, 6] rfl)
              · refine lv_iload hx hb d_M_layOut_120 (lv_at hl 1 rfl) ?_
                refine lv_iload_n hx hb d_M_layOut_122 rfl (lv_at hl 4 rfl) ?_
                refine lv_isub hx hb d_M_layOut_123 ?_
                refine tp_i (y := (nI (nxt (quo f B) cy n - 2 ^ A))) (by rw [ht]; exact pk_sub (by have h9 := c_117; rw [ht] at h9; have h10 : ¬ nxt (quo f B) cy n ≤ 2 ^ A := fun h11 => h9 (nI_le h11 (by omega)); omega)) ?_
                refine lv_goto (tgt := 128) hx hb d_M_layOut_124 (by decide) ?_
                refine lv_istore_n (lv' := [(3, .int (nI (nxt (quo f B) cy n - 2 ^ A))), (6, .int (nI i)), (5, .int (nI t)), (4, .int (nI rd)), (2, .int (nI (2 ^ A))), (0, .ref hm), (1, .int (nI fN))]) hx hb d_M_layOut_128 rfl hl (by decide) rfl (fun ls hl => ?_)
                refine lv_iinc (v := (nI (rd + 1))) (lv' := [(4, .int (nI (rd + 1))), (3, .int (nI (nxt (quo f B) cy n - 2 ^ A))), (6, .int (nI i)), (5, .int (nI t)), (2, .int (nI (2 ^ A))), (0, .ref hm), (1, .int (nI fN))]) hx hb d_M_layOut_129 hl (k := 3) rfl (nI_1 _) (by decide) rfl (fun ls hl => ?_)
                refine lv_goto (tgt := 14) hx hb d_M_layOut_132 (by decide) ?_
                exact ih_14 (rd + 1) (nxt (quo f B) cy n - 2 ^ A) (sv3) (by omega) (fun h9 => absurd h9 (by omega)) (fun h9 => by rw [hc0 (by omega)]; rfl) (fun h9 => by rw [hc1 (by omega), show i = n by omega] at hs3; exact hs3) H locs hP hD hS ls (lv_sub hl [0, 1, 4, 5, 6] rfl)
            | succ k ih_49 =>
              intro i t sv3 hk49 ht hs3 H locs hP hD hS ls hl
              refine lv_iload hx hb d_M_layOut_49 (lv_at hl 0 rfl) ?_
              refine lv_aload_n hx hb d_M_layOut_51 rfl (lv_at hl 5 rfl) ?_
              refine va_get (D := D) (ci := 4) (v := .ref a4) (C := R_M) (T := T_M) (N := 12) hx hb (us_M G hW) (fun _ h => h) hown hK hP 0 rfl rfl 4 (by decide) (fl_M_19 G hW) (fun _ h9 => h9) rfl d_M_layOut_52 ?_
              refine lv_iload_n hx hb d_M_layOut_55 rfl (lv_at hl 6 rfl) ?_
              refine ia_ld hx hb hK hP 4 (j := fN) rfl (hF) (by decide) d_M_layOut_56 ?_
              refine tp_i (y := (nI n)) (hz) ?_
              refine lv_icmp_ge (tgt := 114) hx hb d_M_layOut_57 (by decide) (fun c_57 => absurd c_57 (nI_ge (by omega) (by omega))) (fun c_57 => ?_)
              refine lv_aload_n hx hb d_M_layOut_60 rfl (lv_at hl 5 rfl) ?_
              refine va_get (D := D) (ci := 4) (v := .ref a7) (C := R_M) (T := T_M) (N := 12) hx hb (us_M G hW) (fun _ h => h) hown hK hP 0 rfl rfl 7 (by decide) (fl_M_28 G hW) (fun _ h9 => h9) rfl d_M_layOut_61 ?_
              refine lv_sipush (v := (nI 256)) hx hb d_M_layOut_64 (by decide) ?_
              refine lv_iload_n hx hb d_M_layOut_67 rfl (lv_at hl 6 rfl) ?_
              refine lv_imul hx hb d_M_layOut_68 ?_
              refine tp_i (y := (nI (256 * fN))) (pk_mul _ _) ?_
              refine lv_iload hx hb d_M_layOut_69 (lv_at hl 0 rfl) ?_
              refine lv_iadd hx hb d_M_layOut_71 ?_
              refine tp_i (y := (nI ((256 * fN) + i))) (nI_add _ _) ?_
              refine ia_ld hx hb hK hP 7 (j := ((256 * fN) + i)) rfl (by omega) (by decide) d_M_layOut_72 ?_
              refine tp_i (y := (nI (pa ((256 * fN) + i)))) rfl ?_
              refine tp_i (y := (nI (enc B (f i)))) (by rw [hpa i (by omega)]) ?_
              refine lv_bipush (v := (nI 20)) hx hb d_M_layOut_73 (by decide) ?_
              refine lv_ishr hx hb d_M_layOut_75 ?_
              refine tp_i (y := (nI (quo f B i))) (by rw [shr_B (by have := enc_lt hA hB (hf i (by omega)); omega) (by decide), enc_div hB]; rfl) ?_
              refine lv_istore (lv' := [(7, .int (nI (quo f B i))), (6, .int (nI i)), (5, .int (nI t)), (4, .int (nI rd)), (3, .int (nI cy)), (2, .int (nI (2 ^ A))), (0, .ref hm), (1, .int (nI fN))]) hx hb d_M_layOut_76 hl (by decide) rfl (fun ls hl => ?_)
              refine lv_iload hx hb d_M_layOut_78 (lv_at hl 2 rfl) ?_
              refine lv_iload hx hb d_M_layOut_80 (lv_at hl 0 rfl) ?_
              refine lv_icmp_ge (tgt := 90) hx hb d_M_layOut_82 (by decide) (fun c_82 => ?_) (fun c_82 => ?_)
              · refine lv_iload hx hb d_M_layOut_90 (lv_at hl 2 rfl) ?_
                refine tp_i (y := (nI (slt (quo f B) cy i))) (by unfold slt; rw [if_neg (Nat.not_lt.mpr ((nI_leI (by have := hq2 i (by omega); omega) (by have := hqb cy (by omega) i (by omega); omega)).mp (by rw [← ht]; exact c_82)))]; rw [ht]) ?_
                refine lv_istore (lv' := [(5, .int (nI (slt (quo f B) cy i))), (7, .int (nI (quo f B i))), (6, .int (nI i)), (4, .int (nI rd)), (3, .int (nI cy)), (2, .int (nI (2 ^ A))), (0, .ref hm), (1, .int (nI fN))]) hx hb d_M_layOut_92 hl (by decide) rfl (fun ls hl => ?_)
                refine lv_aload_n hx hb d_M_layOut_94 rfl (lv_at hl 6 rfl) ?_
                refine va_get (D := D) (ci := 4) (v := .ref a9) (C := R_M) (T := T_M) (N := 12) hx hb (us_M G hW) (fun _ h => h) hown hK hP 0 rfl rfl 9 (by decide) (fl_M_34 G hW) (fun _ h9 => h9) rfl d_M_layOut_95 ?_
                refine lv_iload hx hb d_M_layOut_98 (lv_at hl 0 rfl) ?_
                refine lv_iload_n hx hb d_M_layOut_100 rfl (lv_at hl 5 rfl) ?_
                refine lv_irem hx hb d_M_layOut_101 (nI_ne0 hA0 (by omega)) ?_
                refine tp_i (y := (nI ((slt (quo f B) cy i) % 2 ^ A))) (pk_rem (by have := hqb cy (by omega) (i + 1) (by omega); rw [nxt_s] at this; omega) hA0 (by omega)) ?_
                refine lv_iload hx hb d_M_layOut_102 (lv_at hl 2 rfl) ?_
                refine ia_st hx hb hK hP hD hS 9 (j := ((slt (quo f B) cy i) % 2 ^ A)) rfl (Nat.lt_of_lt_of_le (Nat.mod_lt _ hA0) (by omega)) (by decide) d_M_layOut_104 (fun H locs hP hD hS => ?_)
                have hP : va_P D vcl [(hm, .inr (4, [.int th, .ref a1, .ref a2, .ref a3, .ref a4, .ref a5, .ref a6, .ref a7, .ref a8, .ref a9, .ref a10, .ref a11])), (a1, aN cI 4 ki), (a2, aN cI 4 ka), (a3, aN cI 4 kb), (a4, aI cI 4 zs), (a5, aI cI 4 pu), (a6, aN cI 4096 ce), (a7, aN cI 1024 pa), (a8, aN cI 1024 tr), (a9, aI cI 256 (upd sv3 ((slt (quo f B) cy i) % 2 ^ A) (nI i))), (a10, aN cI 6 pl), (a11, aN cI 6 ot)] H := hP
                have hD : va_D (Aa [hm, a1, a2, a3, a4, a5, a6, a7, a8, a9, a10, a11] H0.size) [(hm, .inr (4, [.int th, .ref a1, .ref a2, .ref a3, .ref a4, .ref a5, .ref a6, .ref a7, .ref a8, .ref a9, .ref a10, .ref a11])), (a1, aN cI 4 ki), (a2, aN cI 4 ka), (a3, aN cI 4 kb), (a4, aI cI 4 zs), (a5, aI cI 4 pu), (a6, aN cI 4096 ce), (a7, aN cI 1024 pa), (a8, aN cI 1024 tr), (a9, aI cI 256 (upd sv3 ((slt (quo f B) cy i) % 2 ^ A) (nI i))), (a10, aN cI 6 pl), (a11, aN cI 6 ot)] := hD
                refine lv_iinc (v := (nI (nxt (quo f B) cy (i + 1)))) (lv' := [(5, .int (nI (nxt (quo f B) cy (i + 1)))), (7, .int (nI (quo f B i))), (6, .int (nI i)), (4, .int (nI rd)), (3, .int (nI cy)), (2, .int (nI (2 ^ A))), (0, .ref hm), (1, .int (nI fN))]) hx hb d_M_layOut_105 hl (k := 0) rfl (nI_1 _) (by decide) rfl (fun ls hl => ?_)
                refine lv_iinc (v := (nI (i + 1))) (lv' := [(6, .int (nI (i + 1))), (5, .int (nI (nxt (quo f B) cy (i + 1)))), (7, .int (nI (quo f B i))), (4, .int (nI rd)), (3, .int (nI cy)), (2, .int (nI (2 ^ A))), (0, .ref hm), (1, .int (nI fN))]) hx hb d_M_layOut_108 hl (k := 2) rfl (nI_1 _) (by decide) rfl (fun ls hl => ?_)
                refine lv_goto (tgt := 49) hx hb d_M_layOut_111 (by decide) ?_
                exact ih_49 (i + 1) (nxt (quo f B) cy (i + 1)) (upd sv3 ((slt (quo f B) cy i) % 2 ^ A) (nI i)) (by omega) (rfl) (shows_up hs3) H locs hP hD hS ls (lv_sub hl [0, 1, 3, 4, 5, 6, 7] rfl)
              · refine lv_iload hx hb d_M_layOut_85 (lv_at hl 0 rfl) ?_
                refine lv_goto (tgt := 92) hx hb d_M_layOut_87 (by decide) ?_
                refine tp_i (y := (nI (slt (quo f B) cy i))) (by unfold slt; rw [if_pos (Nat.not_le.mp (fun h9 => c_82 (by rw [ht]; exact nI_le h9 (by have := hqb cy (by omega) i (by omega); omega))))]) ?_
                refine lv_istore (lv' := [(5, .int (nI (slt (quo f B) cy i))), (7, .int (nI (quo f B i))), (6, .int (nI i)), (4, .int (nI rd)), (3, .int (nI cy)), (2, .int (nI (2 ^ A))), (0, .ref hm), (1, .int (nI fN))]) hx hb d_M_layOut_92 hl (by decide) rfl (fun ls hl => ?_)
                refine lv_aload_n hx hb d_M_layOut_94 rfl (lv_at hl 6 rfl) ?_
                refine va_get (D := D) (ci := 4) (v := .ref a9) (C := R_M) (T := T_M) (N := 12) hx hb (us_M G hW) (fun _ h => h) hown hK hP 0 rfl rfl 9 (by decide) (fl_M_34 G hW) (fun _ h9 => h9) rfl d_M_layOut_95 ?_
                refine lv_iload hx hb d_M_layOut_98 (lv_at hl 0 rfl) ?_
                refine lv_iload_n hx hb d_M_layOut_100 rfl (lv_at hl 5 rfl) ?_
                refine lv_irem hx hb d_M_layOut_101 (nI_ne0 hA0 (by omega)) ?_
                refine tp_i (y := (nI ((slt (quo f B) cy i) % 2 ^ A))) (pk_rem (by have := hqb cy (by omega) (i + 1) (by omega); rw [nxt_s] at this; omega) hA0 (by omega)) ?_
                refine lv_iload hx hb d_M_layOut_102 (lv_at hl 2 rfl) ?_
                refine ia_st hx hb hK hP hD hS 9 (j := ((slt (quo f B) cy i) % 2 ^ A)) rfl (Nat.lt_of_lt_of_le (Nat.mod_lt _ hA0) (by omega)) (by decide) d_M_layOut_104 (fun H locs hP hD hS => ?_)
                have hP : va_P D vcl [(hm, .inr (4, [.int th, .ref a1, .ref a2, .ref a3, .ref a4, .ref a5, .ref a6, .ref a7, .ref a8, .ref a9, .ref a10, .ref a11])), (a1, aN cI 4 ki), (a2, aN cI 4 ka), (a3, aN cI 4 kb), (a4, aI cI 4 zs), (a5, aI cI 4 pu), (a6, aN cI 4096 ce), (a7, aN cI 1024 pa), (a8, aN cI 1024 tr), (a9, aI cI 256 (upd sv3 ((slt (quo f B) cy i) % 2 ^ A) (nI i))), (a10, aN cI 6 pl), (a11, aN cI 6 ot)] H := hP
                have hD : va_D (Aa [hm, a1, a2, a3, a4, a5, a6, a7, a8, a9, a10, a11] H0.size) [(hm, .inr (4, [.int th, .ref a1, .ref a2, .ref a3, .ref a4, .ref a5, .ref a6, .ref a7, .ref a8, .ref a9, .ref a10, .ref a11])), (a1, aN cI 4 ki), (a2, aN cI 4 ka), (a3, aN cI 4 kb), (a4, aI cI 4 zs), (a5, aI cI 4 pu), (a6, aN cI 4096 ce), (a7, aN cI 1024 pa), (a8, aN cI 1024 tr), (a9, aI cI 256 (upd sv3 ((slt (quo f B) cy i) % 2 ^ A) (nI i))), (a10, aN cI 6 pl), (a11, aN cI 6 ot)] := hD
                refine lv_iinc (v := (nI (nxt (quo f B) cy (i + 1)))) (lv' := [(5, .int (nI (nxt (quo f B) cy (i + 1)))), (7, .int (nI (quo f B i))), (6, .int (nI i)), (4, .int (nI rd)), (3, .int (nI cy)), (2, .int (nI (2 ^ A))), (0, .ref hm), (1, .int (nI fN))]) hx hb d_M_layOut_105 hl (k := 0) rfl (nI_1 _) (by decide) rfl (fun ls hl => ?_)
                refine lv_iinc (v := (nI (i + 1))) (lv' := [(6, .int (nI (i + 1))), (5, .int (nI (nxt (quo f B) cy (i + 1)))), (7, .int (nI (quo f B i))), (4, .int (nI rd)), (3, .int (nI cy)), (2, .int (nI (2 ^ A))), (0, .ref hm), (1, .int (nI fN))]) hx hb d_M_layOut_108 hl (k := 2) rfl (nI_1 _) (by decide) rfl (fun ls hl => ?_)
                refine lv_goto (tgt := 49) hx hb d_M_layOut_111 (by decide) ?_
                exact ih_49 (i + 1) (nxt (quo f B) cy (i + 1)) (upd sv3 ((slt (quo f B) cy i) % 2 ^ A) (nI i)) (by omega) (rfl) (shows_up hs3) H locs hP hD hS ls (lv_sub hl [0, 1, 3, 4, 5, 6, 7] rfl)
          exact loop_49 (n) (0) (cy) (sv2) (by omega) (rfl) (fun z hz => hs2 z (by omega)) H locs hP hD hS ls (lv_sub hl [0, 1, 2, 3, 4, 5, 6] rfl)
        | succ k ih_23 =>
          intro i2 sv2 hk23 hs2 H locs hP hD hS ls hl
          refine lv_iload hx hb d_M_layOut_23 (lv_at hl 0 rfl) ?_
          refine lv_iload_n hx hb d_M_layOut_25 rfl (lv_at hl 3 rfl) ?_
          refine lv_icmp_ge (tgt := 43) hx hb d_M_layOut_26 (by decide) (fun c_26 => absurd c_26 (nI_ge (by omega) (by omega))) (fun c_26 => ?_)
          refine lv_aload_n hx hb d_M_layOut_29 rfl (lv_at hl 4 rfl) ?_
          refine va_get (D := D) (ci := 4) (v := .ref a9) (C := R_M) (T := T_M) (N := 12) hx hb (us_M G hW) (fun _ h => h) hown hK hP 0 rfl rfl 9 (by decide) (fl_M_34 G hW) (fun _ h9 => h9) rfl d_M_layOut_30 ?_
          refine lv_iload hx hb d_M_layOut_33 (lv_at hl 0 rfl) ?_
          refine lv_iconst (v := (-1)) hx hb d_M_layOut_35 (by decide) ?_
          refine ia_st hx hb hK hP hD hS 9 (j := i2) rfl (by omega) (by decide) d_M_layOut_36 (fun H locs hP hD hS => ?_)
          have hP : va_P D vcl [(hm, .inr (4, [.int th, .ref a1, .ref a2, .ref a3, .ref a4, .ref a5, .ref a6, .ref a7, .ref a8, .ref a9, .ref a10, .ref a11])), (a1, aN cI 4 ki), (a2, aN cI 4 ka), (a3, aN cI 4 kb), (a4, aI cI 4 zs), (a5, aI cI 4 pu), (a6, aN cI 4096 ce), (a7, aN cI 1024 pa), (a8, aN cI 1024 tr), (a9, aI cI 256 (upd sv2 i2 (-1))), (a10, aN cI 6 pl), (a11, aN cI 6 ot)] H := hP
          have hD : va_D (Aa [hm, a1, a2, a3, a4, a5, a6, a7, a8, a9, a10, a11] H0.size) [(hm, .inr (4, [.int th, .ref a1, .ref a2, .ref a3, .ref a4, .ref a5, .ref a6, .ref a7, .ref a8, .ref a9, .ref a10, .ref a11])), (a1, aN cI 4 ki), (a2, aN cI 4 ka), (a3, aN cI 4 kb), (a4, aI cI 4 zs), (a5, aI cI 4 pu), (a6, aN cI 4096 ce), (a7, aN cI 1024 pa), (a8, aN cI 1024 tr), (a9, aI cI 256 (upd sv2 i2 (-1))), (a10, aN cI 6 pl), (a11, aN cI 6 ot)] := hD
          refine lv_iinc (v := (nI (i2 + 1))) (lv' := [(5, .int (nI (i2 + 1))), (4, .int (nI rd)), (3, .int (nI cy)), (2, .int (nI (2 ^ A))), (0, .ref hm), (1, .int (nI fN))]) hx hb d_M_layOut_37 hl (k := 0) rfl (nI_1 _) (by decide) rfl (fun ls hl => ?_)
          refine lv_goto (tgt := 23) hx hb d_M_layOut_40 (by decide) ?_
          exact ih_23 (i2 + 1) (upd sv2 i2 (-1)) (by omega) (fun z hz => by by_cases e9 : z = i2; (subst e9; exact pk_us); (rw [pk_un e9]; exact hs2 z (by omega))) H locs hP hD hS ls (lv_sub hl [0, 1, 2, 3, 4, 5] rfl)
      exact loop_23 (2 ^ A) (0) (sv) (by omega) (fun z hz => absurd hz (by omega)) H locs hP hD hS ls (lv_sub hl [0, 1, 2, 3, 4, 5] rfl)
  exact loop_14 (2) (0) (0) (so) (rfl) (fun _ => rfl) (fun h9 => absurd h9 (by decide)) (fun h9 => absurd h9 (by decide)) H0 [] hP hD hS ls (lv_sub hl [0, 1, 2, 3, 4] rfl)
