set_option maxHeartbeats 4000000 in
set_option maxRecDepth 100000 in
theorem c_M_runCell {l : Launch} {s0 : State} {D : va_G} {cI cF cJ : ClassId} (G : Gx l s0 D cI cF cJ) (hm a1 a2 a3 a4 a5 a6 a7 a8 a9 a10 a11 : Nat) (th : Int32) (ki ka kb : Nat → Nat) (zs pu : Nat → Int32) (ce pa tr : Nat → Nat) (so : Nat → Int32) (pl ot : Nat → Nat) (fN : Nat) (A B : Nat) (n : Nat) (f : Nat → Nat) (z : Nat) {H0 : Heap} {A0 : Nat → Prop} (hP : va_P D vcl [(hm, .inr (4, [.int th, .ref a1, .ref a2, .ref a3, .ref a4, .ref a5, .ref a6, .ref a7, .ref a8, .ref a9, .ref a10, .ref a11])), (a1, aN cI 4 ki), (a2, aN cI 4 ka), (a3, aN cI 4 kb), (a4, aI cI 4 zs), (a5, aI cI 4 pu), (a6, aN cI 4096 ce), (a7, aN cI 1024 pa), (a8, aN cI 1024 tr), (a9, aI cI 256 so), (a10, aN cI 6 pl), (a11, aN cI 6 ot)] H0) (hD : va_D A0 [(hm, .inr (4, [.int th, .ref a1, .ref a2, .ref a3, .ref a4, .ref a5, .ref a6, .ref a7, .ref a8, .ref a9, .ref a10, .ref a11])), (a1, aN cI 4 ki), (a2, aN cI 4 ka), (a3, aN cI 4 kb), (a4, aI cI 4 zs), (a5, aI cI 4 pu), (a6, aN cI 4096 ce), (a7, aN cI 1024 pa), (a8, aN cI 1024 tr), (a9, aI cI 256 so), (a10, aN cI 6 pl), (a11, aN cI 6 ot)]) (hF : fN < 4) (hka : ka fN = A) (hkb : kb fN = B) (hA2 : 2 ≤ A) (hA : A ≤ 8) (hB4 : 4 ≤ B) (hB : B ≤ 20) (hz : zs fN = nI n) (hn : n ≤ 256) (hpa : ∀ i, i < n → pa ((256 * fN) + i) = enc B (f i)) (hf : ∀ i, i < n → f i < 2 ^ (A + B)) (hz2 : z < 2 ^ A) : Mx l s0 y_M_runCell (.code y_M_runCell b_M_runCell 8 (some .int)) { frames := 1, cells := 0, slots := 0, locals := 27 } [.ref hm, .int (nI fN), .int (nI z)] H0 (Aa [hm, a1, a2, a3, a4, a5, a6, a7, a8, a9, a10, a11] H0.size) (Rw (.int (nI (rcM f B n z ((cirF f A B n) z)))) (fun H1 => ∃ so1, va_P D vcl [(hm, .inr (4, [.int th, .ref a1, .ref a2, .ref a3, .ref a4, .ref a5, .ref a6, .ref a7, .ref a8, .ref a9, .ref a10, .ref a11])), (a1, aN cI 4 ki), (a2, aN cI 4 ka), (a3, aN cI 4 kb), (a4, aI cI 4 zs), (a5, aI cI 4 pu), (a6, aN cI 4096 ce), (a7, aN cI 1024 pa), (a8, aN cI 1024 tr), (a9, aI cI 256 so1), (a10, aN cI 6 pl), (a11, aN cI 6 ot)] H1 ∧ shows (cirF f A B n) (2 ^ A) so1)) := by
  refine Mx.ofW (own := "FewBitsModel") rfl rfl ?_
  rintro p e s m below meth c ⟨hx, hb, hml, hr, hown, hW, hlk⟩ hnm het hH
  have hK := G.k hW
  have hD := hD.aa (sz := H0.size)
  have hD : va_D (Aa [hm, a1, a2, a3, a4, a5, a6, a7, a8, a9, a10, a11] H0.size) [(hm, .inr (4, [.int th, .ref a1, .ref a2, .ref a3, .ref a4, .ref a5, .ref a6, .ref a7, .ref a8, .ref a9, .ref a10, .ref a11])), (a1, aN cI 4 ki), (a2, aN cI 4 ka), (a3, aN cI 4 kb), (a4, aI cI 4 zs), (a5, aI cI 4 pu), (a6, aN cI 4096 ce), (a7, aN cI 1024 pa), (a8, aN cI 1024 tr), (a9, aI cI 256 so), (a10, aN cI 6 pl), (a11, aN cI 6 ot)] := hD
  have hS : va_S (Aa [hm, a1, a2, a3, a4, a5, a6, a7, a8, a9, a10, a11] H0.size) H0 H0 [] := va_S.rf
  have h8 := p2_le hA
  have hz1 := hz2
  have hl := lv_entry ([.ref hm, .int (nI fN), .int (nI z)]) (n := 8) (Nat.le_of_ble_eq_true rfl)
  rw [lg_entry_eq]
  generalize (lg_sl ([.ref hm, .int (nI fN), .int (nI z)]) ++ List.replicate (8 - (lg_sl ([.ref hm, .int (nI fN), .int (nI z)])).length) Slot.unset).toArray = ls at hl ⊢
  have hl : lv_has ls 8 [(0, .ref hm), (1, .int (nI fN)), (2, .int (nI z))] := hl
  refine lv_aload_n hx hb d_M_runCell_0 rfl (lv_at hl 0 rfl) ?_
  refine lv_iload_n hx hb d_M_runCell_1 rfl (lv_at hl 1 rfl) ?_
  refine mx_callN (c_M_layOut G hm a1 a2 a3 a4 a5 a6 a7 a8 a9 a10 a11 th ki ka kb zs pu ce pa tr so pl ot fN A B n f hP hD hF hka hkb hA2 hA hB4 hB hz hn hpa hf) hW (iv_M_runCell_2 G hx hb hown hW (va_recv hK hP (ci := 4) (q0 := 0) rfl rfl) [.int (nI fN)] [] rfl) hml hl.1 (by rw [hb]; exact d_M_runCell_2) (cd_M_layOut G hW) ⟨Nat.le_of_ble_eq_true rfl, Nat.le_of_ble_eq_true rfl⟩ (Nat.le_of_ble_eq_true rfl) (Nat.le_of_ble_eq_true rfl) (Nat.le_of_ble_eq_true rfl) hS (Aa.mono (fun _ h => h) hS.1) (fun H locs hP _ _ hS => ?_)
  obtain ⟨so1, hP, hsh⟩ := hP
  have hP : va_P D vcl [(hm, .inr (4, [.int th, .ref a1, .ref a2, .ref a3, .ref a4, .ref a5, .ref a6, .ref a7, .ref a8, .ref a9, .ref a10, .ref a11])), (a1, aN cI 4 ki), (a2, aN cI 4 ka), (a3, aN cI 4 kb), (a4, aI cI 4 zs), (a5, aI cI 4 pu), (a6, aN cI 4096 ce), (a7, aN cI 1024 pa), (a8, aN cI 1024 tr), (a9, aI cI 256 so1), (a10, aN cI 6 pl), (a11, aN cI 6 ot)] H := hP
  have hD : va_D (Aa [hm, a1, a2, a3, a4, a5, a6, a7, a8, a9, a10, a11] H0.size) [(hm, .inr (4, [.int th, .ref a1, .ref a2, .ref a3, .ref a4, .ref a5, .ref a6, .ref a7, .ref a8, .ref a9, .ref a10, .ref a11])), (a1, aN cI 4 ki), (a2, aN cI 4 ka), (a3, aN cI 4 kb), (a4, aI cI 4 zs), (a5, aI cI 4 pu), (a6, aN cI 4096 ce), (a7, aN cI 1024 pa), (a8, aN cI 1024 tr), (a9, aI cI 256 so1), (a10, aN cI 6 pl), (a11, aN cI 6 ot)] := va_D.same2 [hm, a1, a2, a3, a4, a5, a6, a7, a8, a9, a10, a11] hD rfl rfl
  refine lv_iconst (v := (bI false)) hx hb d_M_runCell_5 (by decide) ?_
  refine lv_istore_n (lv' := [(3, .int (bI false)), (0, .ref hm), (1, .int (nI fN)), (2, .int (nI z))]) hx hb d_M_runCell_6 rfl hl (by decide) rfl (fun ls hl => ?_)
  refine lv_iconst (v := (nI 0)) hx hb d_M_runCell_7 (by decide) ?_
  refine lv_istore (lv' := [(4, .int (nI 0)), (3, .int (bI false)), (0, .ref hm), (1, .int (nI fN)), (2, .int (nI z))]) hx hb d_M_runCell_8 hl (by decide) rfl (fun ls hl => ?_)
  have loop_10 : ∀ (k : Nat) (i : Nat) (b : Bool), (i + k = n) → (b = (anyN (fun i => decide (quo f B i = z)) i)) → ∀ (ls : Array Slot), lv_has ls 8 [(4, .int (nI i)), (3, .int (bI b)), (0, .ref hm), (1, .int (nI fN)), (2, .int (nI z))] → W p l e { frames := 1, cells := 0, slots := 0, locals := 27 } s m ([.ref hm, .int (nI fN), .int (nI z)] : List Value).toArray below meth c H locs 0 0 (MQx below (Rw (.int (nI (rcM f B n z ((cirF f A B n) z)))) (fun H1 => ∃ so1, va_P D vcl [(hm, .inr (4, [.int th, .ref a1, .ref a2, .ref a3, .ref a4, .ref a5, .ref a6, .ref a7, .ref a8, .ref a9, .ref a10, .ref a11])), (a1, aN cI 4 ki), (a2, aN cI 4 ka), (a3, aN cI 4 kb), (a4, aI cI 4 zs), (a5, aI cI 4 pu), (a6, aN cI 4096 ce), (a7, aN cI 1024 pa), (a8, aN cI 1024 tr), (a9, aI cI 256 so1), (a10, aN cI 6 pl), (a11, aN cI 6 ot)] H1 ∧ shows (cirF f A B n) (2 ^ A) so1)) s 0 0 (Aa [hm, a1, a2, a3, a4, a5, a6, a7, a8, a9, a10, a11] H0.size)) (F0 m 10 ls []) := by
    intro k
    induction k with
    | zero =>
      intro i b hk hbb  ls hl
      refine lv_iload hx hb d_M_runCell_10 (lv_at hl 0 rfl) ?_
      refine lv_aload_n hx hb d_M_runCell_12 rfl (lv_at hl 2 rfl) ?_
      refine va_get (D := D) (ci := 4) (v := .ref a4) (C := R_M) (T := T_M) (N := 12) hx hb (us_M G hW) (fun _ h => h) hown hK hP 0 rfl rfl 4 (by decide) (fl_M_19 G hW) (fun _ h9 => h9) rfl d_M_runCell_13 ?_
      refine lv_iload_n hx hb d_M_runCell_16 rfl (lv_at hl 3 rfl) ?_
      refine ia_ld hx hb hK hP 4 (j := fN) rfl (hF) (by decide) d_M_runCell_17 ?_
      refine tp_i (y := (nI n)) (hz) ?_
      refine lv_icmp_ge (tgt := 57) hx hb d_M_runCell_18 (by decide) (fun c_18 => ?_) (fun c_18 => absurd (nI_le (by omega) (by omega)) c_18)
      rw [show i = n by omega] at hbb
      refine lv_aload_n hx hb d_M_runCell_57 rfl (lv_at hl 2 rfl) ?_
      refine va_get (D := D) (ci := 4) (v := .ref a9) (C := R_M) (T := T_M) (N := 12) hx hb (us_M G hW) (fun _ h => h) hown hK hP 0 rfl rfl 9 (by decide) (fl_M_34 G hW) (fun _ h9 => h9) rfl d_M_runCell_58 ?_
      refine lv_iload_n hx hb d_M_runCell_61 rfl (lv_at hl 4 rfl) ?_
      refine ia_ld hx hb hK hP 9 (j := z) rfl (by omega) (by decide) d_M_runCell_62 ?_
      refine tp_i (y := (oI ((cirF f A B n) z))) (hsh z hz2) ?_
      refine lv_istore (lv' := [(4, .int (oI ((cirF f A B n) z))), (3, .int (bI b)), (0, .ref hm), (1, .int (nI fN)), (2, .int (nI z))]) hx hb d_M_runCell_63 hl (by decide) rfl (fun ls hl => ?_)
      refine lv_iload_n hx hb d_M_runCell_65 rfl (lv_at hl 1 rfl) ?_
      refine lv_if_eq (tgt := 73) hx hb d_M_runCell_66 (by decide) (fun c_66 => ?_) (fun c_66 => ?_)
      · refine lv_iconst (v := (nI 0)) hx hb d_M_runCell_73 (by decide) ?_
        have hc : (anyN (fun i => decide (quo f B i = z)) n) = false := by rw [← hbb]; exact bI_f c_66
        refine lv_istore (lv' := [(5, .int (nI 0)), (4, .int (oI ((cirF f A B n) z))), (3, .int (bI b)), (0, .ref hm), (1, .int (nI fN)), (2, .int (nI z))]) hx hb d_M_runCell_74 hl (by decide) rfl (fun ls hl => ?_)
        refine lv_iload hx hb d_M_runCell_76 (lv_at hl 1 rfl) ?_
        refine lv_if_ge (tgt := 84) hx hb d_M_runCell_78 (by decide) (fun c_78 => ?_) (fun c_78 => ?_)
        · obtain ⟨j, hj⟩ := (oI_ge (fun j hj => by have := cirN_lt hj; omega)).mp c_78
          have hjn : j < n := cirN_lt hj
          rw [hj] at hl
          have hl : lv_has ls 8 [(5, .int (nI 0)), (4, .int (nI j)), (3, .int (bI b)), (0, .ref hm), (1, .int (nI fN)), (2, .int (nI z))] := hl
          refine lv_aload_n hx hb d_M_runCell_84 rfl (lv_at hl 3 rfl) ?_
          refine va_get (D := D) (ci := 4) (v := .ref a7) (C := R_M) (T := T_M) (N := 12) hx hb (us_M G hW) (fun _ h => h) hown hK hP 0 rfl rfl 7 (by decide) (fl_M_28 G hW) (fun _ h9 => h9) rfl d_M_runCell_85 ?_
          refine lv_sipush (v := (nI 256)) hx hb d_M_runCell_88 (by decide) ?_
          refine lv_iload_n hx hb d_M_runCell_91 rfl (lv_at hl 4 rfl) ?_
          refine lv_imul hx hb d_M_runCell_92 ?_
          refine tp_i (y := (nI (256 * fN))) (pk_mul _ _) ?_
          refine lv_iload hx hb d_M_runCell_93 (lv_at hl 1 rfl) ?_
          refine lv_iadd hx hb d_M_runCell_95 ?_
          refine tp_i (y := (nI ((256 * fN) + j))) (nI_add _ _) ?_
          refine ia_ld hx hb hK hP 7 (j := ((256 * fN) + j)) rfl (by omega) (by decide) d_M_runCell_96 ?_
          refine tp_i (y := (nI (pa ((256 * fN) + j)))) rfl ?_
          refine tp_i (y := (nI (enc B (f j)))) (by rw [hpa j (hjn)]) ?_
          refine lv_istore (lv' := [(6, .int (nI (enc B (f j)))), (5, .int (nI 0)), (4, .int (nI j)), (3, .int (bI b)), (0, .ref hm), (1, .int (nI fN)), (2, .int (nI z))]) hx hb d_M_runCell_97 hl (by decide) rfl (fun ls hl => ?_)
          refine lv_iload hx hb d_M_runCell_99 (lv_at hl 2 rfl) ?_
          refine lv_if_le (tgt := 134) hx hb d_M_runCell_101 (by decide) (fun c_101 => ?_) (fun c_101 => ?_)
          · refine lv_iconst (v := (nI 0)) hx hb d_M_runCell_134 (by decide) ?_
            have hg : (decide (0 < j) && decide (quo f B (j - 1) = quo f B j)) = false := by rw [decide_eq_false (Nat.not_lt.mpr ((nI_leI (b := 0) (by omega) (by decide)).mp c_101))]; rfl
            refine lv_istore (lv' := [(7, .int (nI 0)), (6, .int (nI (enc B (f j)))), (5, .int (nI 0)), (4, .int (nI j)), (3, .int (bI b)), (0, .ref hm), (1, .int (nI fN)), (2, .int (nI z))]) hx hb d_M_runCell_135 hl (by decide) rfl (fun ls hl => ?_)
            refine lv_iload hx hb d_M_runCell_137 (lv_at hl 1 rfl) ?_
            refine lv_ldc (v := 1048575) hx hb hown (G.1.at 822 rfl rfl _ hW) d_M_runCell_139 ?_
            refine lv_iand hx hb d_M_runCell_141 ?_
            refine tp_i (y := (nI (f j % 2 ^ B))) (and20 hB (by have := enc_lt hA hB (hf j (hjn)); omega)) ?_
            refine lv_bipush (v := (nI 8)) hx hb d_M_runCell_142 (by decide) ?_
            refine lv_imul hx hb d_M_runCell_144 ?_
            refine tp_i (y := (nI (f j % 2 ^ B * 8))) (pk_mul _ _) ?_
            refine lv_iload hx hb d_M_runCell_145 (lv_at hl 2 rfl) ?_
            refine lv_iadd hx hb d_M_runCell_147 ?_
            refine tp_i (y := (nI (f j % 2 ^ B * 8 + 0))) (nI_add _ _) ?_
            refine lv_iload hx hb d_M_runCell_148 (lv_at hl 0 rfl) ?_
            refine lv_if_eq (tgt := 157) hx hb d_M_runCell_150 (by decide) (fun c_150 => ?_) (fun c_150 => absurd (by decide) c_150)
            refine lv_iconst (v := (nI 0)) hx hb d_M_runCell_157 (by decide) ?_
            refine lv_iadd hx hb d_M_runCell_158 ?_
            refine tp_i (y := (nI (f j % 2 ^ B * 8 + 0 + 0))) (nI_add _ _) ?_
            refine lv_iload hx hb d_M_runCell_159 (lv_at hl 1 rfl) ?_
            refine lv_bipush (v := (nI 20)) hx hb d_M_runCell_161 (by decide) ?_
            refine lv_ishr hx hb d_M_runCell_163 ?_
            refine tp_i (y := (nI (quo f B j))) (by rw [shr_B (by have := enc_lt hA hB (hf j (hjn)); omega) (by decide), enc_div hB]; rfl) ?_
            refine lv_iload_n hx hb d_M_runCell_164 rfl (lv_at hl 7 rfl) ?_
            refine lv_icmp_ne (tgt := 172) hx hb d_M_runCell_165 (by decide) (fun c_165 => ?_) (fun c_165 => ?_)
            · refine lv_iconst (v := (nI 4)) hx hb d_M_runCell_172 (by decide) ?_
              refine lv_iadd hx hb d_M_runCell_173 ?_
              refine tp_i (y := (nI (f j % 2 ^ B * 8 + 0 + 0 + 4))) (nI_add _ _) ?_
              exact mx_iret hx hb hr hlk d_M_runCell_174 (Nat.le_of_ble_eq_true rfl) (Nat.le_of_ble_eq_true rfl) hS.2.2 (⟨by rw [hj]; show _ = Outcome.returned (some (Value.int (nI (f j % 2 ^ B * 8 + (if (anyN (fun i => decide (quo f B i = z)) n) then 1 else 0) + (if decide (0 < j) && decide (quo f B (j - 1) = quo f B j) then 2 else 0) + (if quo f B j = z then 0 else 4))))); rw [hc, hg, if_neg (show ¬ quo f B j = z from fun h9 => c_165 (congrArg nI h9))]; rfl, so1, hP, hsh⟩)
            · refine lv_iconst (v := (nI 0)) hx hb d_M_runCell_168 (by decide) ?_
              refine lv_goto (tgt := 173) hx hb d_M_runCell_169 (by decide) ?_
              refine lv_iadd hx hb d_M_runCell_173 ?_
              refine tp_i (y := (nI (f j % 2 ^ B * 8 + 0 + 0 + 0))) (nI_add _ _) ?_
              exact mx_iret hx hb hr hlk d_M_runCell_174 (Nat.le_of_ble_eq_true rfl) (Nat.le_of_ble_eq_true rfl) hS.2.2 (⟨by rw [hj]; show _ = Outcome.returned (some (Value.int (nI (f j % 2 ^ B * 8 + (if (anyN (fun i => decide (quo f B i = z)) n) then 1 else 0) + (if decide (0 < j) && decide (quo f B (j - 1) = quo f B j) then 2 else 0) + (if quo f B j = z then 0 else 4))))); rw [hc, hg, if_pos ((nI_eq (by have h9 : quo f B j < 2 ^ A := div_lt_A (hf j hjn); omega) (by omega)).mp c_165)]; rfl, so1, hP, hsh⟩)
          · have hj0 : 0 < j := Nat.pos_of_ne_zero (fun h9 => c_101 (by rw [h9]; decide))
            refine lv_aload_n hx hb d_M_runCell_104 rfl (lv_at hl 4 rfl) ?_
            refine va_get (D := D) (ci := 4) (v := .ref a7) (C := R_M) (T := T_M) (N := 12) hx hb (us_M G hW) (fun _ h => h) hown hK hP 0 rfl rfl 7 (by decide) (fl_M_28 G hW) (fun _ h9 => h9) rfl d_M_runCell_105 ?_
            refine lv_sipush (v := (nI 256)) hx hb d_M_runCell_108 (by decide) ?_
            refine lv_iload_n hx hb d_M_runCell_111 rfl (lv_at hl 5 rfl) ?_
            refine lv_imul hx hb d_M_runCell_112 ?_
            refine tp_i (y := (nI (256 * fN))) (pk_mul _ _) ?_
            refine lv_iload hx hb d_M_runCell_113 (lv_at hl 2 rfl) ?_
            refine lv_iadd hx hb d_M_runCell_115 ?_
            refine tp_i (y := (nI ((256 * fN) + j))) (nI_add _ _) ?_
            refine lv_iconst (v := (nI 1)) hx hb d_M_runCell_116 (by decide) ?_
            refine lv_isub hx hb d_M_runCell_117 ?_
            refine tp_i (y := (nI ((256 * fN) + (j - 1)))) (by rw [pk_sub (by omega)]; congr 1; omega) ?_
            refine ia_ld hx hb hK hP 7 (j := ((256 * fN) + (j - 1))) rfl (by omega) (by decide) d_M_runCell_118 ?_
            refine tp_i (y := (nI (pa ((256 * fN) + (j - 1))))) rfl ?_
            refine tp_i (y := (nI (enc B (f (j - 1))))) (by rw [hpa (j - 1) (by omega)]) ?_
            refine lv_bipush (v := (nI 20)) hx hb d_M_runCell_119 (by decide) ?_
            refine lv_ishr hx hb d_M_runCell_121 ?_
            refine tp_i (y := (nI (quo f B (j - 1)))) (by rw [shr_B (by have := enc_lt hA hB (hf (j - 1) (by omega)); omega) (by decide), enc_div hB]; rfl) ?_
            refine lv_iload hx hb d_M_runCell_122 (lv_at hl 0 rfl) ?_
            refine lv_bipush (v := (nI 20)) hx hb d_M_runCell_124 (by decide) ?_
            refine lv_ishr hx hb d_M_runCell_126 ?_
            refine tp_i (y := (nI (quo f B j))) (by rw [shr_B (by have := enc_lt hA hB (hf j (hjn)); omega) (by decide), enc_div hB]; rfl) ?_
            refine lv_icmp_ne (tgt := 134) hx hb d_M_runCell_127 (by decide) (fun c_127 => ?_) (fun c_127 => ?_)
            · refine lv_iconst (v := (nI 0)) hx hb d_M_runCell_134 (by decide) ?_
              have hg : (decide (0 < j) && decide (quo f B (j - 1) = quo f B j)) = false := by rw [decide_eq_false (show ¬ quo f B (j - 1) = quo f B j from fun h9 => c_127 (congrArg nI h9))]; simp
              refine lv_istore (lv' := [(7, .int (nI 0)), (6, .int (nI (enc B (f j)))), (5, .int (nI 0)), (4, .int (nI j)), (3, .int (bI b)), (0, .ref hm), (1, .int (nI fN)), (2, .int (nI z))]) hx hb d_M_runCell_135 hl (by decide) rfl (fun ls hl => ?_)
              refine lv_iload hx hb d_M_runCell_137 (lv_at hl 1 rfl) ?_
              refine lv_ldc (v := 1048575) hx hb hown (G.1.at 822 rfl rfl _ hW) d_M_runCell_139 ?_
              refine lv_iand hx hb d_M_runCell_141 ?_
              refine tp_i (y := (nI (f j % 2 ^ B))) (and20 hB (by have := enc_lt hA hB (hf j (hjn)); omega)) ?_
              refine lv_bipush (v := (nI 8)) hx hb d_M_runCell_142 (by decide) ?_
              refine lv_imul hx hb d_M_runCell_144 ?_
              refine tp_i (y := (nI (f j % 2 ^ B * 8))) (pk_mul _ _) ?_
              refine lv_iload hx hb d_M_runCell_145 (lv_at hl 2 rfl) ?_
              refine lv_iadd hx hb d_M_runCell_147 ?_
              refine tp_i (y := (nI (f j % 2 ^ B * 8 + 0))) (nI_add _ _) ?_
              refine lv_iload hx hb d_M_runCell_148 (lv_at hl 0 rfl) ?_
              refine lv_if_eq (tgt := 157) hx hb d_M_runCell_150 (by decide) (fun c_150 => ?_) (fun c_150 => absurd (by decide) c_150)
              refine lv_iconst (v := (nI 0)) hx hb d_M_runCell_157 (by decide) ?_
              refine lv_iadd hx hb d_M_runCell_158 ?_
              refine tp_i (y := (nI (f j % 2 ^ B * 8 + 0 + 0))) (nI_add _ _) ?_
              refine lv_iload hx hb d_M_runCell_159 (lv_at hl 1 rfl) ?_
              refine lv_bipush (v := (nI 20)) hx hb d_M_runCell_161 (by decide) ?_
              refine lv_ishr hx hb d_M_runCell_163 ?_
              refine tp_i (y := (nI (quo f B j))) (by rw [shr_B (by have := enc_lt hA hB (hf j (hjn)); omega) (by decide), enc_div hB]; rfl) ?_
              refine lv_iload_n hx hb d_M_runCell_164 rfl (lv_at hl 7 rfl) ?_
              refine lv_icmp_ne (tgt := 172) hx hb d_M_runCell_165 (by decide) (fun c_165 => ?_) (fun c_165 => ?_)
              · refine lv_iconst (v := (nI 4)) hx hb d_M_runCell_172 (by decide) ?_
                refine lv_iadd hx hb d_M_runCell_173 ?_
                refine tp_i (y := (nI (f j % 2 ^ B * 8 + 0 + 0 + 4))) (nI_add _ _) ?_
                exact mx_iret hx hb hr hlk d_M_runCell_174 (Nat.le_of_ble_eq_true rfl) (Nat.le_of_ble_eq_true rfl) hS.2.2 (⟨by rw [hj]; show _ = Outcome.returned (some (Value.int (nI (f j % 2 ^ B * 8 + (if (anyN (fun i => decide (quo f B i = z)) n) then 1 else 0) + (if decide (0 < j) && decide (quo f B (j - 1) = quo f B j) then 2 else 0) + (if quo f B j = z then 0 else 4))))); rw [hc, hg, if_neg (show ¬ quo f B j = z from fun h9 => c_165 (congrArg nI h9))]; rfl, so1, hP, hsh⟩)
              · refine lv_iconst (v := (nI 0)) hx hb d_M_runCell_168 (by decide) ?_
                refine lv_goto (tgt := 173) hx hb d_M_runCell_169 (by decide) ?_
                refine lv_iadd hx hb d_M_runCell_173 ?_
                refine tp_i (y := (nI (f j % 2 ^ B * 8 + 0 + 0 + 0))) (nI_add _ _) ?_
                exact mx_iret hx hb hr hlk d_M_runCell_174 (Nat.le_of_ble_eq_true rfl) (Nat.le_of_ble_eq_true rfl) hS.2.2 (⟨by rw [hj]; show _ = Outcome.returned (some (Value.int (nI (f j % 2 ^ B * 8 + (if (anyN (fun i => decide (quo f B i = z)) n) then 1 else 0) + (if decide (0 < j) && decide (quo f B (j - 1) = quo f B j) then 2 else 0) + (if quo f B j = z then 0 else 4))))); rw [hc, hg, if_pos ((nI_eq (by have h9 : quo f B j < 2 ^ A := div_lt_A (hf j hjn); omega) (by omega)).mp c_165)]; rfl, so1, hP, hsh⟩)
            · refine lv_iconst (v := (nI 1)) hx hb d_M_runCell_130 (by decide) ?_
              refine lv_goto (tgt := 135) hx hb d_M_runCell_131 (by decide) ?_
              have hg : (decide (0 < j) && decide (quo f B (j - 1) = quo f B j)) = true := by rw [decide_eq_true hj0, decide_eq_true (show quo f B (j - 1) = quo f B j from (nI_eq (by have h9 : quo f B (j - 1) < 2 ^ A := div_lt_A (hf _ (by omega)); omega) (by have h9 : quo f B j < 2 ^ A := div_lt_A (hf j hjn); omega)).mp c_127)]; rfl
              refine lv_istore (lv' := [(7, .int (nI 1)), (6, .int (nI (enc B (f j)))), (5, .int (nI 0)), (4, .int (nI j)), (3, .int (bI b)), (0, .ref hm), (1, .int (nI fN)), (2, .int (nI z))]) hx hb d_M_runCell_135 hl (by decide) rfl (fun ls hl => ?_)
              refine lv_iload hx hb d_M_runCell_137 (lv_at hl 1 rfl) ?_
              refine lv_ldc (v := 1048575) hx hb hown (G.1.at 822 rfl rfl _ hW) d_M_runCell_139 ?_
              refine lv_iand hx hb d_M_runCell_141 ?_
              refine tp_i (y := (nI (f j % 2 ^ B))) (and20 hB (by have := enc_lt hA hB (hf j (hjn)); omega)) ?_
              refine lv_bipush (v := (nI 8)) hx hb d_M_runCell_142 (by decide) ?_
              refine lv_imul hx hb d_M_runCell_144 ?_
              refine tp_i (y := (nI (f j % 2 ^ B * 8))) (pk_mul _ _) ?_
              refine lv_iload hx hb d_M_runCell_145 (lv_at hl 2 rfl) ?_
              refine lv_iadd hx hb d_M_runCell_147 ?_
              refine tp_i (y := (nI (f j % 2 ^ B * 8 + 0))) (nI_add _ _) ?_
              refine lv_iload hx hb d_M_runCell_148 (lv_at hl 0 rfl) ?_
              refine lv_if_eq (tgt := 157) hx hb d_M_runCell_150 (by decide) (fun c_150 => absurd c_150 (by decide)) (fun c_150 => ?_)
              refine lv_iconst (v := (nI 2)) hx hb d_M_runCell_153 (by decide) ?_
              refine lv_goto (tgt := 158) hx hb d_M_runCell_154 (by decide) ?_
              refine lv_iadd hx hb d_M_runCell_158 ?_
              refine tp_i (y := (nI (f j % 2 ^ B * 8 + 0 + 2))) (nI_add _ _) ?_
              refine lv_iload hx hb d_M_runCell_159 (lv_at hl 1 rfl) ?_
              refine lv_bipush (v := (nI 20)) hx hb d_M_runCell_161 (by decide) ?_
              refine lv_ishr hx hb d_M_runCell_163 ?_
              refine tp_i (y := (nI (quo f B j))) (by rw [shr_B (by have := enc_lt hA hB (hf j (hjn)); omega) (by decide), enc_div hB]; rfl) ?_
              refine lv_iload_n hx hb d_M_runCell_164 rfl (lv_at hl 7 rfl) ?_
              refine lv_icmp_ne (tgt := 172) hx hb d_M_runCell_165 (by decide) (fun c_165 => ?_) (fun c_165 => ?_)
              · refine lv_iconst (v := (nI 4)) hx hb d_M_runCell_172 (by decide) ?_
                refine lv_iadd hx hb d_M_runCell_173 ?_
                refine tp_i (y := (nI (f j % 2 ^ B * 8 + 0 + 2 + 4))) (nI_add _ _) ?_
                exact mx_iret hx hb hr hlk d_M_runCell_174 (Nat.le_of_ble_eq_true rfl) (Nat.le_of_ble_eq_true rfl) hS.2.2 (⟨by rw [hj]; show _ = Outcome.returned (some (Value.int (nI (f j % 2 ^ B * 8 + (if (anyN (fun i => decide (quo f B i = z)) n) then 1 else 0) + (if decide (0 < j) && decide (quo f B (j - 1) = quo f B j) then 2 else 0) + (if quo f B j = z then 0 else 4))))); rw [hc, hg, if_neg (show ¬ quo f B j = z from fun h9 => c_165 (congrArg nI h9))]; rfl, so1, hP, hsh⟩)
              · refine lv_iconst (v := (nI 0)) hx hb d_M_runCell_168 (by decide) ?_
                refine lv_goto (tgt := 173) hx hb d_M_runCell_169 (by decide) ?_
                refine lv_iadd hx hb d_M_runCell_173 ?_
                refine tp_i (y := (nI (f j % 2 ^ B * 8 + 0 + 2 + 0))) (nI_add _ _) ?_
                exact mx_iret hx hb hr hlk d_M_runCell_174 (Nat.le_of_ble_eq_true rfl) (Nat.le_of_ble_eq_true rfl) hS.2.2 (⟨by rw [hj]; show _ = Outcome.returned (some (Value.int (nI (f j % 2 ^ B * 8 + (if (anyN (fun i => decide (quo f B i = z)) n) then 1 else 0) + (if decide (0 < j) && decide (quo f B (j - 1) = quo f B j) then 2 else 0) + (if quo f B j = z then 0 else 4))))); rw [hc, hg, if_pos ((nI_eq (by have h9 : quo f B j < 2 ^ A := div_lt_A (hf j hjn); omega) (by omega)).mp c_165)]; rfl, so1, hP, hsh⟩)
        · refine lv_iload hx hb d_M_runCell_81 (lv_at hl 0 rfl) ?_
          exact mx_iret hx hb hr hlk d_M_runCell_83 (Nat.le_of_ble_eq_true rfl) (Nat.le_of_ble_eq_true rfl) hS.2.2 (by cases e9 : (cirF f A B n) z with | none => exact ⟨by show _ = Outcome.returned (some (Value.int (nI (if (anyN (fun i => decide (quo f B i = z)) n) then 1 else 0)))); rw [hc]; rfl, so1, hP, hsh⟩ | some j => exact absurd ((oI_ge (fun j hj => by have := cirN_lt hj; omega)).mpr ⟨j, e9⟩) c_78)
      · refine lv_iconst (v := (nI 1)) hx hb d_M_runCell_69 (by decide) ?_
        refine lv_goto (tgt := 74) hx hb d_M_runCell_70 (by decide) ?_
        have hc : (anyN (fun i => decide (quo f B i = z)) n) = true := by rw [← hbb]; exact bI_t c_66
        refine lv_istore (lv' := [(5, .int (nI 1)), (4, .int (oI ((cirF f A B n) z))), (3, .int (bI b)), (0, .ref hm), (1, .int (nI fN)), (2, .int (nI z))]) hx hb d_M_runCell_74 hl (by decide) rfl (fun ls hl => ?_)
        refine lv_iload hx hb d_M_runCell_76 (lv_at hl 1 rfl) ?_
        refine lv_if_ge (tgt := 84) hx hb d_M_runCell_78 (by decide) (fun c_78 => ?_) (fun c_78 => ?_)
        · obtain ⟨j, hj⟩ := (oI_ge (fun j hj => by have := cirN_lt hj; omega)).mp c_78
          have hjn : j < n := cirN_lt hj
          rw [hj] at hl
          have hl : lv_has ls 8 [(5, .int (nI 1)), (4, .int (nI j)), (3, .int (bI b)), (0, .ref hm), (1, .int (nI fN)), (2, .int (nI z))] := hl
          refine lv_aload_n hx hb d_M_runCell_84 rfl (lv_at hl 3 rfl) ?_
          refine va_get (D := D) (ci := 4) (v := .ref a7) (C := R_M) (T := T_M) (N := 12) hx hb (us_M G hW) (fun _ h => h) hown hK hP 0 rfl rfl 7 (by decide) (fl_M_28 G hW) (fun _ h9 => h9) rfl d_M_runCell_85 ?_
          refine lv_sipush (v := (nI 256)) hx hb d_M_runCell_88 (by decide) ?_
          refine lv_iload_n hx hb d_M_runCell_91 rfl (lv_at hl 4 rfl) ?_
          refine lv_imul hx hb d_M_runCell_92 ?_
          refine tp_i (y := (nI (256 * fN))) (pk_mul _ _) ?_
          refine lv_iload hx hb d_M_runCell_93 (lv_at hl 1 rfl) ?_
          refine lv_iadd hx hb d_M_runCell_95 ?_
          refine tp_i (y := (nI ((256 * fN) + j))) (nI_add _ _) ?_
          refine ia_ld hx hb hK hP 7 (j := ((256 * fN) + j)) rfl (by omega) (by decide) d_M_runCell_96 ?_
          refine tp_i (y := (nI (pa ((256 * fN) + j)))) rfl ?_
          refine tp_i (y := (nI (enc B (f j)))) (by rw [hpa j (hjn)]) ?_
          refine lv_istore (lv' := [(6, .int (nI (enc B (f j)))), (5, .int (nI 1)), (4, .int (nI j)), (3, .int (bI b)), (0, .ref hm), (1, .int (nI fN)), (2, .int (nI z))]) hx hb d_M_runCell_97 hl (by decide) rfl (fun ls hl => ?_)
          refine lv_iload hx hb d_M_runCell_99 (lv_at hl 2 rfl) ?_
          refine lv_if_le (tgt := 134) hx hb d_M_runCell_101 (by decide) (fun c_101 => ?_) (fun c_101 => ?_)
          · refine lv_iconst (v := (nI 0)) hx hb d_M_runCell_134 (by decide) ?_
            have hg : (decide (0 < j) && decide (quo f B (j - 1) = quo f B j)) = false := by rw [decide_eq_false (Nat.not_lt.mpr ((nI_leI (b := 0) (by omega) (by decide)).mp c_101))]; rfl
            refine lv_istore (lv' := [(7, .int (nI 0)), (6, .int (nI (enc B (f j)))), (5, .int (nI 1)), (4, .int (nI j)), (3, .int (bI b)), (0, .ref hm), (1, .int (nI fN)), (2, .int (nI z))]) hx hb d_M_runCell_135 hl (by decide) rfl (fun ls hl => ?_)
            refine lv_iload hx hb d_M_runCell_137 (lv_at hl 1 rfl) ?_
            refine lv_ldc (v := 1048575) hx hb hown (G.1.at 822 rfl rfl _ hW) d_M_runCell_139 ?_
            refine lv_iand hx hb d_M_runCell_141 ?_
            refine tp_i (y := (nI (f j % 2 ^ B))) (and20 hB (by have := enc_lt hA hB (hf j (hjn)); omega)) ?_
            refine lv_bipush (v := (nI 8)) hx hb d_M_runCell_142 (by decide) ?_
            refine lv_imul hx hb d_M_runCell_144 ?_
            refine tp_i (y := (nI (f j % 2 ^ B * 8))) (pk_mul _ _) ?_
            refine lv_iload hx hb d_M_runCell_145 (lv_at hl 2 rfl) ?_
            refine lv_iadd hx hb d_M_runCell_147 ?_
            refine tp_i (y := (nI (f j % 2 ^ B * 8 + 1))) (nI_add _ _) ?_
            refine lv_iload hx hb d_M_runCell_148 (lv_at hl 0 rfl) ?_
            refine lv_if_eq (tgt := 157) hx hb d_M_runCell_150 (by decide) (fun c_150 => ?_) (fun c_150 => absurd (by decide) c_150)
            refine lv_iconst (v := (nI 0)) hx hb d_M_runCell_157 (by decide) ?_
            refine lv_iadd hx hb d_M_runCell_158 ?_
            refine tp_i (y := (nI (f j % 2 ^ B * 8 + 1 + 0))) (nI_add _ _) ?_
            refine lv_iload hx hb d_M_runCell_159 (lv_at hl 1 rfl) ?_
            refine lv_bipush (v := (nI 20)) hx hb d_M_runCell_161 (by decide) ?_
            refine lv_ishr hx hb d_M_runCell_163 ?_
            refine tp_i (y := (nI (quo f B j))) (by rw [shr_B (by have := enc_lt hA hB (hf j (hjn)); omega) (by decide), enc_div hB]; rfl) ?_
            refine lv_iload_n hx hb d_M_runCell_164 rfl (lv_at hl 7 rfl) ?_
            refine lv_icmp_ne (tgt := 172) hx hb d_M_runCell_165 (by decide) (fun c_165 => ?_) (fun c_165 => ?_)
            · refine lv_iconst (v := (nI 4)) hx hb d_M_runCell_172 (by decide) ?_
              refine lv_iadd hx hb d_M_runCell_173 ?_
              refine tp_i (y := (nI (f j % 2 ^ B * 8 + 1 + 0 + 4))) (nI_add _ _) ?_
              exact mx_iret hx hb hr hlk d_M_runCell_174 (Nat.le_of_ble_eq_true rfl) (Nat.le_of_ble_eq_true rfl) hS.2.2 (⟨by rw [hj]; show _ = Outcome.returned (some (Value.int (nI (f j % 2 ^ B * 8 + (if (anyN (fun i => decide (quo f B i = z)) n) then 1 else 0) + (if decide (0 < j) && decide (quo f B (j - 1) = quo f B j) then 2 else 0) + (if quo f B j = z then 0 else 4))))); rw [hc, hg, if_neg (show ¬ quo f B j = z from fun h9 => c_165 (congrArg nI h9))]; rfl, so1, hP, hsh⟩)
            · refine lv_iconst (v := (nI 0)) hx hb d_M_runCell_168 (by decide) ?_
              refine lv_goto (tgt := 173) hx hb d_M_runCell_169 (by decide) ?_
              refine lv_iadd hx hb d_M_runCell_173 ?_
              refine tp_i (y := (nI (f j % 2 ^ B * 8 + 1 + 0 + 0))) (nI_add _ _) ?_
              exact mx_iret hx hb hr hlk d_M_runCell_174 (Nat.le_of_ble_eq_true rfl) (Nat.le_of_ble_eq_true rfl) hS.2.2 (⟨by rw [hj]; show _ = Outcome.returned (some (Value.int (nI (f j % 2 ^ B * 8 + (if (anyN (fun i => decide (quo f B i = z)) n) then 1 else 0) + (if decide (0 < j) && decide (quo f B (j - 1) = quo f B j) then 2 else 0) + (if quo f B j = z then 0 else 4))))); rw [hc, hg, if_pos ((nI_eq (by have h9 : quo f B j < 2 ^ A := div_lt_A (hf j hjn); omega) (by omega)).mp c_165)]; rfl, so1, hP, hsh⟩)
          · have hj0 : 0 < j := Nat.pos_of_ne_zero (fun h9 => c_101 (by rw [h9]; decide))
            refine lv_aload_n hx hb d_M_runCell_104 rfl (lv_at hl 4 rfl) ?_
            refine va_get (D := D) (ci := 4) (v := .ref a7) (C := R_M) (T := T_M) (N := 12) hx hb (us_M G hW) (fun _ h => h) hown hK hP 0 rfl rfl 7 (by decide) (fl_M_28 G hW) (fun _ h9 => h9) rfl d_M_runCell_105 ?_
            refine lv_sipush (v := (nI 256)) hx hb d_M_runCell_108 (by decide) ?_
            refine lv_iload_n hx hb d_M_runCell_111 rfl (lv_at hl 5 rfl) ?_
            refine lv_imul hx hb d_M_runCell_112 ?_
            refine tp_i (y := (nI (256 * fN))) (pk_mul _ _) ?_
            refine lv_iload hx hb d_M_runCell_113 (lv_at hl 2 rfl) ?_
            refine lv_iadd hx hb d_M_runCell_115 ?_
            refine tp_i (y := (nI ((256 * fN) + j))) (nI_add _ _) ?_
            refine lv_iconst (v := (nI 1)) hx hb d_M_runCell_116 (by decide) ?_
            refine lv_isub hx hb d_M_runCell_117 ?_
            refine tp_i (y := (nI ((256 * fN) + (j - 1)))) (by rw [pk_sub (by omega)]; congr 1; omega) ?_
            refine ia_ld hx hb hK hP 7 (j := ((256 * fN) + (j - 1))) rfl (by omega) (by decide) d_M_runCell_118 ?_
            refine tp_i (y := (nI (pa ((256 * fN) + (j - 1))))) rfl ?_
            refine tp_i (y := (nI (enc B (f (j - 1))))) (by rw [hpa (j - 1) (by omega)]) ?_
            refine lv_bipush (v := (nI 20)) hx hb d_M_runCell_119 (by decide) ?_
            refine lv_ishr hx hb d_M_runCell_121 ?_
            refine tp_i (y := (nI (quo f B (j - 1)))) (by rw [shr_B (by have := enc_lt hA hB (hf (j - 1) (by omega)); omega) (by decide), enc_div hB]; rfl) ?_
            refine lv_iload hx hb d_M_runCell_122 (lv_at hl 0 rfl) ?_
            refine lv_bipush (v := (nI 20)) hx hb d_M_runCell_124 (by decide) ?_
            refine lv_ishr hx hb d_M_runCell_126 ?_
            refine tp_i (y := (nI (quo f B j))) (by rw [shr_B (by have := enc_lt hA hB (hf j (hjn)); omega) (by decide), enc_div hB]; rfl) ?_
            refine lv_icmp_ne (tgt := 134) hx hb d_M_runCell_127 (by decide) (fun c_127 => ?_) (fun c_127 => ?_)
            · refine lv_iconst (v := (nI 0)) hx hb d_M_runCell_134 (by decide) ?_
              have hg : (decide (0 < j) && decide (quo f B (j - 1) = quo f B j)) = false := by rw [decide_eq_false (show ¬ quo f B (j - 1) = quo f B j from fun h9 => c_127 (congrArg nI h9))]; simp
              refine lv_istore (lv' := [(7, .int (nI 0)), (6, .int (nI (enc B (f j)))), (5, .int (nI 1)), (4, .int (nI j)), (3, .int (bI b)), (0, .ref hm), (1, .int (nI fN)), (2, .int (nI z))]) hx hb d_M_runCell_135 hl (by decide) rfl (fun ls hl => ?_)
              refine lv_iload hx hb d_M_runCell_137 (lv_at hl 1 rfl) ?_
              refine lv_ldc (v := 1048575) hx hb hown (G.1.at 822 rfl rfl _ hW) d_M_runCell_139 ?_
              refine lv_iand hx hb d_M_runCell_141 ?_
              refine tp_i (y := (nI (f j % 2 ^ B))) (and20 hB (by have := enc_lt hA hB (hf j (hjn)); omega)) ?_
              refine lv_bipush (v := (nI 8)) hx hb d_M_runCell_142 (by decide) ?_
              refine lv_imul hx hb d_M_runCell_144 ?_
              refine tp_i (y := (nI (f j % 2 ^ B * 8))) (pk_mul _ _) ?_
              refine lv_iload hx hb d_M_runCell_145 (lv_at hl 2 rfl) ?_
              refine lv_iadd hx hb d_M_runCell_147 ?_
              refine tp_i (y := (nI (f j % 2 ^ B * 8 + 1))) (nI_add _ _) ?_
              refine lv_iload hx hb d_M_runCell_148 (lv_at hl 0 rfl) ?_
              refine lv_if_eq (tgt := 157) hx hb d_M_runCell_150 (by decide) (fun c_150 => ?_) (fun c_150 => absurd (by decide) c_150)
              refine lv_iconst (v := (nI 0)) hx hb d_M_runCell_157 (by decide) ?_
              refine lv_iadd hx hb d_M_runCell_158 ?_
              refine tp_i (y := (nI (f j % 2 ^ B * 8 + 1 + 0))) (nI_add _ _) ?_
              refine lv_iload hx hb d_M_runCell_159 (lv_at hl 1 rfl) ?_
              refine lv_bipush (v := (nI 20)) hx hb d_M_runCell_161 (by decide) ?_
              refine lv_ishr hx hb d_M_runCell_163 ?_
              refine tp_i (y := (nI (quo f B j))) (by rw [shr_B (by have := enc_lt hA hB (hf j (hjn)); omega) (by decide), enc_div hB]; rfl) ?_
              refine lv_iload_n hx hb d_M_runCell_164 rfl (lv_at hl 7 rfl) ?_
              refine lv_icmp_ne (tgt := 172) hx hb d_M_runCell_165 (by decide) (fun c_165 => ?_) (fun c_165 => ?_)
              · refine lv_iconst (v := (nI 4)) hx hb d_M_runCell_172 (by decide) ?_
                refine lv_iadd hx hb d_M_runCell_173 ?_
                refine tp_i (y := (nI (f j % 2 ^ B * 8 + 1 + 0 + 4))) (nI_add _ _) ?_
                exact mx_iret hx hb hr hlk d_M_runCell_174 (Nat.le_of_ble_eq_true rfl) (Nat.le_of_ble_eq_true rfl) hS.2.2 (⟨by rw [hj]; show _ = Outcome.returned (some (Value.int (nI (f j % 2 ^ B * 8 + (if (anyN (fun i => decide (quo f B i = z)) n) then 1 else 0) + (if decide (0 < j) && decide (quo f B (j - 1) = quo f B j) then 2 else 0) + (if quo f B j = z then 0 else 4))))); rw [hc, hg, if_neg (show ¬ quo f B j = z from fun h9 => c_165 (congrArg nI h9))]; rfl, so1, hP, hsh⟩)
              · refine lv_iconst (v := (nI 0)) hx hb d_M_runCell_168 (by decide) ?_
                refine lv_goto (tgt := 173) hx hb d_M_runCell_169 (by decide) ?_
                refine lv_iadd hx hb d_M_runCell_173 ?_
                refine tp_i (y := (nI (f j % 2 ^ B * 8 + 1 + 0 + 0))) (nI_add _ _) ?_
                exact mx_iret hx hb hr hlk d_M_runCell_174 (Nat.le_of_ble_eq_true rfl) (Nat.le_of_ble_eq_true rfl) hS.2.2 (⟨by rw [hj]; show _ = Outcome.returned (some (Value.int (nI (f j % 2 ^ B * 8 + (if (anyN (fun i => decide (quo f B i = z)) n) then 1 else 0) + (if decide (0 < j) && decide (quo f B (j - 1) = quo f B j) then 2 else 0) + (if quo f B j = z then 0 else 4))))); rw [hc, hg, if_pos ((nI_eq (by have h9 : quo f B j < 2 ^ A := div_lt_A (hf j hjn); omega) (by omega)).mp c_165)]; rfl, so1, hP, hsh⟩)
            · refine lv_iconst (v := (nI 1)) hx hb d_M_runCell_130 (by decide) ?_
              refine lv_goto (tgt := 135) hx hb d_M_runCell_131 (by decide) ?_
              have hg : (decide (0 < j) && decide (quo f B (j - 1) = quo f B j)) = true := by rw [decide_eq_true hj0, decide_eq_true (show quo f B (j - 1) = quo f B j from (nI_eq (by have h9 : quo f B (j - 1) < 2 ^ A := div_lt_A (hf _ (by omega)); omega) (by have h9 : quo f B j < 2 ^ A := div_lt_A (hf j hjn); omega)).mp c_127)]; rfl
              refine lv_istore (lv' := [(7, .int (nI 1)), (6, .int (nI (enc B (f j)))), (5, .int (nI 1)), (4, .int (nI j)), (3, .int (bI b)), (0, .ref hm), (1, .int (nI fN)), (2, .int (nI z))]) hx hb d_M_runCell_135 hl (by decide) rfl (fun ls hl => ?_)
              refine lv_iload hx hb d_M_runCell_137 (lv_at hl 1 rfl) ?_
              refine lv_ldc (v := 1048575) hx hb hown (G.1.at 822 rfl rfl _ hW) d_M_runCell_139 ?_
              refine lv_iand hx hb d_M_runCell_141 ?_
              refine tp_i (y := (nI (f j % 2 ^ B))) (and20 hB (by have := enc_lt hA hB (hf j (hjn)); omega)) ?_
              refine lv_bipush (v := (nI 8)) hx hb d_M_runCell_142 (by decide) ?_
              refine lv_imul hx hb d_M_runCell_144 ?_
              refine tp_i (y := (nI (f j % 2 ^ B * 8))) (pk_mul _ _) ?_
              refine lv_iload hx hb d_M_runCell_145 (lv_at hl 2 rfl) ?_
              refine lv_iadd hx hb d_M_runCell_147 ?_
              refine tp_i (y := (nI (f j % 2 ^ B * 8 + 1))) (nI_add _ _) ?_
              refine lv_iload hx hb d_M_runCell_148 (lv_at hl 0 rfl) ?_
              refine lv_if_eq (tgt := 157) hx hb d_M_runCell_150 (by decide) (fun c_150 => absurd c_150 (by decide)) (fun c_150 => ?_)
              refine lv_iconst (v := (nI 2)) hx hb d_M_runCell_153 (by decide) ?_
              refine lv_goto (tgt := 158) hx hb d_M_runCell_154 (by decide) ?_
              refine lv_iadd hx hb d_M_runCell_158 ?_
              refine tp_i (y := (nI (f j % 2 ^ B * 8 + 1 + 2))) (nI_add _ _) ?_
              refine lv_iload hx hb d_M_runCell_159 (lv_at hl 1 rfl) ?_
              refine lv_bipush (v := (nI 20)) hx hb d_M_runCell_161 (by decide) ?_
              refine lv_ishr hx hb d_M_runCell_163 ?_
              refine tp_i (y := (nI (quo f B j))) (by rw [shr_B (by have := enc_lt hA hB (hf j (hjn)); omega) (by decide), enc_div hB]; rfl) ?_
              refine lv_iload_n hx hb d_M_runCell_164 rfl (lv_at hl 7 rfl) ?_
              refine lv_icmp_ne (tgt := 172) hx hb d_M_runCell_165 (by decide) (fun c_165 => ?_) (fun c_165 => ?_)
              · refine lv_iconst (v := (nI 4)) hx hb d_M_runCell_172 (by decide) ?_
                refine lv_iadd hx hb d_M_runCell_173 ?_
                refine tp_i (y := (nI (f j % 2 ^ B * 8 + 1 + 2 + 4))) (nI_add _ _) ?_
                exact mx_iret hx hb hr hlk d_M_runCell_174 (Nat.le_of_ble_eq_true rfl) (Nat.le_of_ble_eq_true rfl) hS.2.2 (⟨by rw [hj]; show _ = Outcome.returned (some (Value.int (nI (f j % 2 ^ B * 8 + (if (anyN (fun i => decide (quo f B i = z)) n) then 1 else 0) + (if decide (0 < j) && decide (quo f B (j - 1) = quo f B j) then 2 else 0) + (if quo f B j = z then 0 else 4))))); rw [hc, hg, if_neg (show ¬ quo f B j = z from fun h9 => c_165 (congrArg nI h9))]; rfl, so1, hP, hsh⟩)
              · refine lv_iconst (v := (nI 0)) hx hb d_M_runCell_168 (by decide) ?_
                refine lv_goto (tgt := 173) hx hb d_M_runCell_169 (by decide) ?_
                refine lv_iadd hx hb d_M_runCell_173 ?_
                refine tp_i (y := (nI (f j % 2 ^ B * 8 + 1 + 2 + 0))) (nI_add _ _) ?_
                exact mx_iret hx hb hr hlk d_M_runCell_174 (Nat.le_of_ble_eq_true rfl) (Nat.le_of_ble_eq_true rfl) hS.2.2 (⟨by rw [hj]; show _ = Outcome.returned (some (Value.int (nI (f j % 2 ^ B * 8 + (if (anyN (fun i => decide (quo f B i = z)) n) then 1 else 0) + (if decide (0 < j) && decide (quo f B (j - 1) = quo f B j) then 2 else 0) + (if quo f B j = z then 0 else 4))))); rw [hc, hg, if_pos ((nI_eq (by have h9 : quo f B j < 2 ^ A := div_lt_A (hf j hjn); omega) (by omega)).mp c_165)]; rfl, so1, hP, hsh⟩)
        · refine lv_iload hx hb d_M_runCell_81 (lv_at hl 0 rfl) ?_
          exact mx_iret hx hb hr hlk d_M_runCell_83 (Nat.le_of_ble_eq_true rfl) (Nat.le_of_ble_eq_true rfl) hS.2.2 (by cases e9 : (cirF f A B n) z with | none => exact ⟨by show _ = Outcome.returned (some (Value.int (nI (if (anyN (fun i => decide (quo f B i = z)) n) then 1 else 0)))); rw [hc]; rfl, so1, hP, hsh⟩ | some j => exact absurd ((oI_ge (fun j hj => by have := cirN_lt hj; omega)).mpr ⟨j, e9⟩) c_78)
    | succ k ih_10 =>
      intro i b hk hbb  ls hl
      refine lv_iload hx hb d_M_runCell_10 (lv_at hl 0 rfl) ?_
      refine lv_aload_n hx hb d_M_runCell_12 rfl (lv_at hl 2 rfl) ?_
      refine va_get (D := D) (ci := 4) (v := .ref a4) (C := R_M) (T := T_M) (N := 12) hx hb (us_M G hW) (fun _ h => h) hown hK hP 0 rfl rfl 4 (by decide) (fl_M_19 G hW) (fun _ h9 => h9) rfl d_M_runCell_13 ?_
      refine lv_iload_n hx hb d_M_runCell_16 rfl (lv_at hl 3 rfl) ?_
      refine ia_ld hx hb hK hP 4 (j := fN) rfl (hF) (by decide) d_M_runCell_17 ?_
      refine tp_i (y := (nI n)) (hz) ?_
      refine lv_icmp_ge (tgt := 57) hx hb d_M_runCell_18 (by decide) (fun c_18 => absurd c_18 (nI_ge (by omega) (by omega))) (fun c_18 => ?_)
      refine lv_iload_n hx hb d_M_runCell_21 rfl (lv_at hl 1 rfl) ?_
      refine lv_if_ne (tgt := 45) hx hb d_M_runCell_22 (by decide) (fun c_22 => ?_) (fun c_22 => ?_)
      · refine lv_iconst (v := (bI true)) hx hb d_M_runCell_45 (by decide) ?_
        refine lv_goto (tgt := 50) hx hb d_M_runCell_46 (by decide) ?_
        refine lv_istore_n (lv' := [(3, .int (bI true)), (4, .int (nI i)), (0, .ref hm), (1, .int (nI fN)), (2, .int (nI z))]) hx hb d_M_runCell_50 rfl hl (by decide) rfl (fun ls hl => ?_)
        refine lv_iinc (v := (nI (i + 1))) (lv' := [(4, .int (nI (i + 1))), (3, .int (bI true)), (0, .ref hm), (1, .int (nI fN)), (2, .int (nI z))]) hx hb d_M_runCell_51 hl (k := 1) rfl (nI_1 _) (by decide) rfl (fun ls hl => ?_)
        refine lv_goto (tgt := 10) hx hb d_M_runCell_54 (by decide) ?_
        exact ih_10 (i + 1) (true) (by omega) (by show true = (_ || _); rw [← hbb, bI_t c_22]; rfl) ls (lv_sub hl [0, 1, 2, 3, 4] rfl)
      · refine lv_aload_n hx hb d_M_runCell_25 rfl (lv_at hl 2 rfl) ?_
        refine va_get (D := D) (ci := 4) (v := .ref a7) (C := R_M) (T := T_M) (N := 12) hx hb (us_M G hW) (fun _ h => h) hown hK hP 0 rfl rfl 7 (by decide) (fl_M_28 G hW) (fun _ h9 => h9) rfl d_M_runCell_26 ?_
        refine lv_sipush (v := (nI 256)) hx hb d_M_runCell_29 (by decide) ?_
        refine lv_iload_n hx hb d_M_runCell_32 rfl (lv_at hl 3 rfl) ?_
        refine lv_imul hx hb d_M_runCell_33 ?_
        refine tp_i (y := (nI (256 * fN))) (pk_mul _ _) ?_
        refine lv_iload hx hb d_M_runCell_34 (lv_at hl 0 rfl) ?_
        refine lv_iadd hx hb d_M_runCell_36 ?_
        refine tp_i (y := (nI ((256 * fN) + i))) (nI_add _ _) ?_
        refine ia_ld hx hb hK hP 7 (j := ((256 * fN) + i)) rfl (by omega) (by decide) d_M_runCell_37 ?_
        refine tp_i (y := (nI (pa ((256 * fN) + i)))) rfl ?_
        refine tp_i (y := (nI (enc B (f i)))) (by rw [hpa i (by omega)]) ?_
        refine lv_bipush (v := (nI 20)) hx hb d_M_runCell_38 (by decide) ?_
        refine lv_ishr hx hb d_M_runCell_40 ?_
        refine tp_i (y := (nI (quo f B i))) (by rw [shr_B (by have := enc_lt hA hB (hf i (by omega)); omega) (by decide), enc_div hB]; rfl) ?_
        refine lv_iload_n hx hb d_M_runCell_41 rfl (lv_at hl 4 rfl) ?_
        refine lv_icmp_ne (tgt := 49) hx hb d_M_runCell_42 (by decide) (fun c_42 => ?_) (fun c_42 => ?_)
        · refine lv_iconst (v := (bI false)) hx hb d_M_runCell_49 (by decide) ?_
          refine lv_istore_n (lv' := [(3, .int (bI false)), (4, .int (nI i)), (0, .ref hm), (1, .int (nI fN)), (2, .int (nI z))]) hx hb d_M_runCell_50 rfl hl (by decide) rfl (fun ls hl => ?_)
          refine lv_iinc (v := (nI (i + 1))) (lv' := [(4, .int (nI (i + 1))), (3, .int (bI false)), (0, .ref hm), (1, .int (nI fN)), (2, .int (nI z))]) hx hb d_M_runCell_51 hl (k := 1) rfl (nI_1 _) (by decide) rfl (fun ls hl => ?_)
          refine lv_goto (tgt := 10) hx hb d_M_runCell_54 (by decide) ?_
          exact ih_10 (i + 1) (false) (by omega) (by show false = (_ || decide (quo f B i = z)); rw [← hbb, bI_f c_22, decide_eq_false (fun h9 => c_42 (congrArg nI h9))]; rfl) ls (lv_sub hl [0, 1, 2, 3, 4] rfl)
        · refine lv_iconst (v := (bI true)) hx hb d_M_runCell_45 (by decide) ?_
          refine lv_goto (tgt := 50) hx hb d_M_runCell_46 (by decide) ?_
          refine lv_istore_n (lv' := [(3, .int (bI true)), (4, .int (nI i)), (0, .ref hm), (1, .int (nI fN)), (2, .int (nI z))]) hx hb d_M_runCell_50 rfl hl (by decide) rfl (fun ls hl => ?_)
          refine lv_iinc (v := (nI (i + 1))) (lv' := [(4, .int (nI (i + 1))), (3, .int (bI true)), (0, .ref hm), (1, .int (nI fN)), (2, .int (nI z))]) hx hb d_M_runCell_51 hl (k := 1) rfl (nI_1 _) (by decide) rfl (fun ls hl => ?_)
          refine lv_goto (tgt := 10) hx hb d_M_runCell_54 (by decide) ?_
          exact ih_10 (i + 1) (true) (by omega) (by show true = (_ || decide (quo f B i = z)); rw [decide_eq_true ((nI_eq (by have h9 : quo f B i < 2 ^ A := div_lt_A (hf i (by omega)); omega) (by omega)).mp c_42)]; simp) ls (lv_sub hl [0, 1, 2, 3, 4] rfl)
  exact loop_10 (n) (0) (false) (by omega) (rfl) ls (lv_sub hl [0, 1, 2, 3, 4] rfl)

set_option maxHeartbeats 4000000 in
set_option maxRecDepth 100000 in
theorem c_M_longestRow {l : Launch} {s0 : State} {D : va_G} {cI cF cJ : ClassId} (G : Gx l s0 D cI cF cJ) (hm a1 a2 a3 a4 a5 a6 a7 a8 a9 a10 a11 : Nat) (th : Int32) (ki ka kb : Nat → Nat) (zs pu : Nat → Int32) (ce pa tr : Nat → Nat) (so : Nat → Int32) (pl ot : Nat → Nat) (fN : Nat) (A B : Nat) (n : Nat) (f : Nat → Nat) {H0 : Heap} {A0 : Nat → Prop} (hP : va_P D vcl [(hm, .inr (4, [.int th, .ref a1, .ref a2, .ref a3, .ref a4, .ref a5, .ref a6, .ref a7, .ref a8, .ref a9, .ref a10, .ref a11])), (a1, aN cI 4 ki), (a2, aN cI 4 ka), (a3, aN cI 4 kb), (a4, aI cI 4 zs), (a5, aI cI 4 pu), (a6, aN cI 4096 ce), (a7, aN cI 1024 pa), (a8, aN cI 1024 tr), (a9, aI cI 256 so), (a10, aN cI 6 pl), (a11, aN cI 6 ot)] H0) (hD : va_D A0 [(hm, .inr (4, [.int th, .ref a1, .ref a2, .ref a3, .ref a4, .ref a5, .ref a6, .ref a7, .ref a8, .ref a9, .ref a10, .ref a11])), (a1, aN cI 4 ki), (a2, aN cI 4 ka), (a3, aN cI 4 kb), (a4, aI cI 4 zs), (a5, aI cI 4 pu), (a6, aN cI 4096 ce), (a7, aN cI 1024 pa), (a8, aN cI 1024 tr), (a9, aI cI 256 so), (a10, aN cI 6 pl), (a11, aN cI 6 ot)]) (hF : fN < 4) (hka : ka fN = A) (hkb : kb fN = B) (hA2 : 2 ≤ A) (hA : A ≤ 8) (hB4 : 4 ≤ B) (hB : B ≤ 20) (hz : zs fN = nI n) (hn : n ≤ 256) (hpa : ∀ i, i < n → pa ((256 * fN) + i) = enc B (f i)) (hf : ∀ i, i < n → f i < 2 ^ (A + B)) : Mx l s0 y_M_longestRow (.code y_M_longestRow b_M_longestRow 6 (some .int)) { frames := 1, cells := 0, slots := 0, locals := 27 } [.ref hm, .int (nI fN)] H0 (Aa [hm, a1, a2, a3, a4, a5, a6, a7, a8, a9, a10, a11] H0.size) (Rw (.int (nI (bstN (cirF f A B n) (2 ^ A) (2 ^ A)))) (fun H1 => ∃ so1, va_P D vcl [(hm, .inr (4, [.int th, .ref a1, .ref a2, .ref a3, .ref a4, .ref a5, .ref a6, .ref a7, .ref a8, .ref a9, .ref a10, .ref a11])), (a1, aN cI 4 ki), (a2, aN cI 4 ka), (a3, aN cI 4 kb), (a4, aI cI 4 zs), (a5, aI cI 4 pu), (a6, aN cI 4096 ce), (a7, aN cI 1024 pa), (a8, aN cI 1024 tr), (a9, aI cI 256 so1), (a10, aN cI 6 pl), (a11, aN cI 6 ot)] H1 ∧ shows (cirF f A B n) (2 ^ A) so1)) := by
  refine Mx.ofW (own := "FewBitsModel") rfl rfl ?_
  rintro p e s m below meth c ⟨hx, hb, hml, hr, hown, hW, hlk⟩ hnm het hH
  have hK := G.k hW
  have hD := hD.aa (sz := H0.size)
  have hD : va_D (Aa [hm, a1, a2, a3, a4, a5, a6, a7, a8, a9, a10, a11] H0.size) [(hm, .inr (4, [.int th, .ref a1, .ref a2, .ref a3, .ref a4, .ref a5, .ref a6, .ref a7, .ref a8, .ref a9, .ref a10, .ref a11])), (a1, aN cI 4 ki), (a2, aN cI 4 ka), (a3, aN cI 4 kb), (a4, aI cI 4 zs), (a5, aI cI 4 pu), (a6, aN cI 4096 ce), (a7, aN cI 1024 pa), (a8, aN cI 1024 tr), (a9, aI cI 256 so), (a10, aN cI 6 pl), (a11, aN cI 6 ot)] := hD
  have hS : va_S (Aa [hm, a1, a2, a3, a4, a5, a6, a7, a8, a9, a10, a11] H0.size) H0 H0 [] := va_S.rf
  have h8 := p2_le hA
  have hA0 := Nat.two_pow_pos A
  have hl := lv_entry ([.ref hm, .int (nI fN)]) (n := 6) (Nat.le_of_ble_eq_true rfl)
  rw [lg_entry_eq]
  generalize (lg_sl ([.ref hm, .int (nI fN)]) ++ List.replicate (6 - (lg_sl ([.ref hm, .int (nI fN)])).length) Slot.unset).toArray = ls at hl ⊢
  have hl : lv_has ls 6 [(0, .ref hm), (1, .int (nI fN))] := hl
  refine lv_aload_n hx hb d_M_longestRow_0 rfl (lv_at hl 0 rfl) ?_
  refine lv_iload_n hx hb d_M_longestRow_1 rfl (lv_at hl 1 rfl) ?_
  refine mx_callN (c_M_layOut G hm a1 a2 a3 a4 a5 a6 a7 a8 a9 a10 a11 th ki ka kb zs pu ce pa tr so pl ot fN A B n f hP hD hF hka hkb hA2 hA hB4 hB hz hn hpa hf) hW (iv_M_longestRow_2 G hx hb hown hW (va_recv hK hP (ci := 4) (q0 := 0) rfl rfl) [.int (nI fN)] [] rfl) hml hl.1 (by rw [hb]; exact d_M_longestRow_2) (cd_M_layOut G hW) ⟨Nat.le_of_ble_eq_true rfl, Nat.le_of_ble_eq_true rfl⟩ (Nat.le_of_ble_eq_true rfl) (Nat.le_of_ble_eq_true rfl) (Nat.le_of_ble_eq_true rfl) hS (Aa.mono (fun _ h => h) hS.1) (fun H locs hP _ _ hS => ?_)
  obtain ⟨so1, hP, hsh⟩ := hP
  have hP : va_P D vcl [(hm, .inr (4, [.int th, .ref a1, .ref a2, .ref a3, .ref a4, .ref a5, .ref a6, .ref a7, .ref a8, .ref a9, .ref a10, .ref a11])), (a1, aN cI 4 ki), (a2, aN cI 4 ka), (a3, aN cI 4 kb), (a4, aI cI 4 zs), (a5, aI cI 4 pu), (a6, aN cI 4096 ce), (a7, aN cI 1024 pa), (a8, aN cI 1024 tr), (a9, aI cI 256 so1), (a10, aN cI 6 pl), (a11, aN cI 6 ot)] H := hP
  have hD : va_D (Aa [hm, a1, a2, a3, a4, a5, a6, a7, a8, a9, a10, a11] H0.size) [(hm, .inr (4, [.int th, .ref a1, .ref a2, .ref a3, .ref a4, .ref a5, .ref a6, .ref a7, .ref a8, .ref a9, .ref a10, .ref a11])), (a1, aN cI 4 ki), (a2, aN cI 4 ka), (a3, aN cI 4 kb), (a4, aI cI 4 zs), (a5, aI cI 4 pu), (a6, aN cI 4096 ce), (a7, aN cI 1024 pa), (a8, aN cI 1024 tr), (a9, aI cI 256 so1), (a10, aN cI 6 pl), (a11, aN cI 6 ot)] := va_D.same2 [hm, a1, a2, a3, a4, a5, a6, a7, a8, a9, a10, a11] hD rfl rfl
  refine lv_iconst (v := (nI 1)) hx hb d_M_longestRow_5 (by decide) ?_
  refine lv_aload_n hx hb d_M_longestRow_6 rfl (lv_at hl 0 rfl) ?_
  refine va_get (D := D) (ci := 4) (v := .ref a2) (C := R_M) (T := T_M) (N := 12) hx hb (us_M G hW) (fun _ h => h) hown hK hP 0 rfl rfl 2 (by decide) (fl_M_13 G hW) (fun _ h9 => h9) rfl d_M_longestRow_7 ?_
  refine lv_iload_n hx hb d_M_longestRow_10 rfl (lv_at hl 1 rfl) ?_
  refine ia_ld hx hb hK hP 2 (j := fN) rfl (hF) (by decide) d_M_longestRow_11 ?_
  refine tp_i (y := (nI (ka fN))) rfl ?_
  refine tp_i (y := (nI A)) (by rw [hka]) ?_
  refine lv_ishl hx hb d_M_longestRow_12 ?_
  refine tp_i (y := (nI (2 ^ A))) (pw_shl A (by omega)) ?_
  refine lv_istore_n (lv' := [(2, .int (nI (2 ^ A))), (0, .ref hm), (1, .int (nI fN))]) hx hb d_M_longestRow_13 rfl hl (by decide) rfl (fun ls hl => ?_)
  refine lv_iconst (v := (nI 0)) hx hb d_M_longestRow_14 (by decide) ?_
  refine lv_istore_n (lv' := [(3, .int (nI 0)), (2, .int (nI (2 ^ A))), (0, .ref hm), (1, .int (nI fN))]) hx hb d_M_longestRow_15 rfl hl (by decide) rfl (fun ls hl => ?_)
  refine lv_iconst (v := (nI 0)) hx hb d_M_longestRow_16 (by decide) ?_
  refine lv_istore (lv' := [(4, .int (nI 0)), (3, .int (nI 0)), (2, .int (nI (2 ^ A))), (0, .ref hm), (1, .int (nI fN))]) hx hb d_M_longestRow_17 hl (by decide) rfl (fun ls hl => ?_)
  have loop_19 : ∀ (k : Nat) (a : Nat) (t : Nat), (a + k = 2 ^ A) → (t = bstN (cirF f A B n) (2 ^ A) a) → ∀ (ls : Array Slot), lv_has ls 6 [(4, .int (nI a)), (3, .int (nI t)), (2, .int (nI (2 ^ A))), (0, .ref hm), (1, .int (nI fN))] → W p l e { frames := 1, cells := 0, slots := 0, locals := 27 } s m ([.ref hm, .int (nI fN)] : List Value).toArray below meth c H locs 0 0 (MQx below (Rw (.int (nI (bstN (cirF f A B n) (2 ^ A) (2 ^ A)))) (fun H1 => ∃ so1, va_P D vcl [(hm, .inr (4, [.int th, .ref a1, .ref a2, .ref a3, .ref a4, .ref a5, .ref a6, .ref a7, .ref a8, .ref a9, .ref a10, .ref a11])), (a1, aN cI 4 ki), (a2, aN cI 4 ka), (a3, aN cI 4 kb), (a4, aI cI 4 zs), (a5, aI cI 4 pu), (a6, aN cI 4096 ce), (a7, aN cI 1024 pa), (a8, aN cI 1024 tr), (a9, aI cI 256 so1), (a10, aN cI 6 pl), (a11, aN cI 6 ot)] H1 ∧ shows (cirF f A B n) (2 ^ A) so1)) s 0 0 (Aa [hm, a1, a2, a3, a4, a5, a6, a7, a8, a9, a10, a11] H0.size)) (F0 m 19 ls []) := by
    intro k
    induction k with
    | zero =>
      intro a t hk19 ht  ls hl
      refine lv_iload hx hb d_M_longestRow_19 (lv_at hl 0 rfl) ?_
      refine lv_iload_n hx hb d_M_longestRow_21 rfl (lv_at hl 2 rfl) ?_
      refine lv_icmp_ge (tgt := 74) hx hb d_M_longestRow_22 (by decide) (fun c_22 => ?_) (fun c_22 => absurd (nI_le (by omega) (by omega)) c_22)
      refine lv_iload_n hx hb d_M_longestRow_74 rfl (lv_at hl 1 rfl) ?_
      exact mx_iret hx hb hr hlk d_M_longestRow_75 (Nat.le_of_ble_eq_true rfl) (Nat.le_of_ble_eq_true rfl) hS.2.2 (⟨by rw [ht, show a = 2 ^ A by omega], so1, hP, hsh⟩)
    | succ k ih_19 =>
      intro a t hk19 ht  ls hl
      refine lv_iload hx hb d_M_longestRow_19 (lv_at hl 0 rfl) ?_
      refine lv_iload_n hx hb d_M_longestRow_21 rfl (lv_at hl 2 rfl) ?_
      refine lv_icmp_ge (tgt := 74) hx hb d_M_longestRow_22 (by decide) (fun c_22 => absurd c_22 (nI_ge (by omega) (by omega))) (fun c_22 => ?_)
      refine lv_iconst (v := (nI 0)) hx hb d_M_longestRow_25 (by decide) ?_
      refine lv_istore (lv' := [(5, .int (nI 0)), (4, .int (nI a)), (3, .int (nI t)), (2, .int (nI (2 ^ A))), (0, .ref hm), (1, .int (nI fN))]) hx hb d_M_longestRow_26 hl (by decide) rfl (fun ls hl => ?_)
      have loop_28 : ∀ (k : Nat) (i : Nat), (i + k = 2 ^ A) → (rln (cirF f A B n) (2 ^ A) a (2 ^ A) 0 = rln (cirF f A B n) (2 ^ A) a k i) → ∀ (ls : Array Slot), lv_has ls 6 [(5, .int (nI i)), (4, .int (nI a)), (3, .int (nI t)), (2, .int (nI (2 ^ A))), (0, .ref hm), (1, .int (nI fN))] → W p l e { frames := 1, cells := 0, slots := 0, locals := 27 } s m ([.ref hm, .int (nI fN)] : List Value).toArray below meth c H locs 0 0 (MQx below (Rw (.int (nI (bstN (cirF f A B n) (2 ^ A) (2 ^ A)))) (fun H1 => ∃ so1, va_P D vcl [(hm, .inr (4, [.int th, .ref a1, .ref a2, .ref a3, .ref a4, .ref a5, .ref a6, .ref a7, .ref a8, .ref a9, .ref a10, .ref a11])), (a1, aN cI 4 ki), (a2, aN cI 4 ka), (a3, aN cI 4 kb), (a4, aI cI 4 zs), (a5, aI cI 4 pu), (a6, aN cI 4096 ce), (a7, aN cI 1024 pa), (a8, aN cI 1024 tr), (a9, aI cI 256 so1), (a10, aN cI 6 pl), (a11, aN cI 6 ot)] H1 ∧ shows (cirF f A B n) (2 ^ A) so1)) s 0 0 (Aa [hm, a1, a2, a3, a4, a5, a6, a7, a8, a9, a10, a11] H0.size)) (F0 m 28 ls []) := by
        intro k
        induction k with
        | zero =>
          intro i hk28 hrl  ls hl
          refine lv_iload hx hb d_M_longestRow_28 (lv_at hl 0 rfl) ?_
          refine lv_iload_n hx hb d_M_longestRow_30 rfl (lv_at hl 3 rfl) ?_
          refine lv_icmp_ge (tgt := 55) hx hb d_M_longestRow_31 (by decide) (fun c_31 => ?_) (fun c_31 => absurd (nI_le (by omega) (by omega)) c_31)
          have hre : rln (cirF f A B n) (2 ^ A) a (2 ^ A) 0 = i := hrl
          refine lv_iload hx hb d_M_longestRow_55 (lv_at hl 0 rfl) ?_
          refine lv_iload_n hx hb d_M_longestRow_57 rfl (lv_at hl 2 rfl) ?_
          refine lv_icmp_le (tgt := 66) hx hb d_M_longestRow_58 (by decide) (fun c_58 => ?_) (fun c_58 => ?_)
          · refine lv_iload_n hx hb d_M_longestRow_66 rfl (lv_at hl 2 rfl) ?_
            refine tp_i (y := (nI (bstN (cirF f A B n) (2 ^ A) (a + 1)))) (by rw [bst_a (by rw [hre, ← ht]; exact (nI_leI (by omega) (by have := bstN_le (cirF f A B n) (2 ^ A) a; omega)).mp c_58), ht]) ?_
            refine lv_istore_n (lv' := [(3, .int (nI (bstN (cirF f A B n) (2 ^ A) (a + 1)))), (5, .int (nI i)), (4, .int (nI a)), (2, .int (nI (2 ^ A))), (0, .ref hm), (1, .int (nI fN))]) hx hb d_M_longestRow_67 rfl hl (by decide) rfl (fun ls hl => ?_)
            refine lv_iinc (v := (nI (a + 1))) (lv' := [(4, .int (nI (a + 1))), (3, .int (nI (bstN (cirF f A B n) (2 ^ A) (a + 1)))), (5, .int (nI i)), (2, .int (nI (2 ^ A))), (0, .ref hm), (1, .int (nI fN))]) hx hb d_M_longestRow_68 hl (k := 2) rfl (nI_1 _) (by decide) rfl (fun ls hl => ?_)
            refine lv_goto (tgt := 19) hx hb d_M_longestRow_71 (by decide) ?_
            exact ih_19 (a + 1) (bstN (cirF f A B n) (2 ^ A) (a + 1)) (by omega) (rfl) ls (lv_sub hl [0, 1, 3, 4, 5] rfl)
          · refine lv_iload hx hb d_M_longestRow_61 (lv_at hl 0 rfl) ?_
            refine lv_goto (tgt := 67) hx hb d_M_longestRow_63 (by decide) ?_
            refine tp_i (y := (nI (bstN (cirF f A B n) (2 ^ A) (a + 1)))) (by rw [bst_b (by rw [hre, ← ht]; exact fun h9 => c_58 (nI_le h9 (by have := bstN_le (cirF f A B n) (2 ^ A) a; omega))), hre]) ?_
            refine lv_istore_n (lv' := [(3, .int (nI (bstN (cirF f A B n) (2 ^ A) (a + 1)))), (5, .int (nI i)), (4, .int (nI a)), (2, .int (nI (2 ^ A))), (0, .ref hm), (1, .int (nI fN))]) hx hb d_M_longestRow_67 rfl hl (by decide) rfl (fun ls hl => ?_)
            refine lv_iinc (v := (nI (a + 1))) (lv' := [(4, .int (nI (a + 1))), (3, .int (nI (bstN (cirF f A B n) (2 ^ A) (a + 1)))), (5, .int (nI i)), (2, .int (nI (2 ^ A))), (0, .ref hm), (1, .int (nI fN))]) hx hb d_M_longestRow_68 hl (k := 2) rfl (nI_1 _) (by decide) rfl (fun ls hl => ?_)
            refine lv_goto (tgt := 19) hx hb d_M_longestRow_71 (by decide) ?_
            exact ih_19 (a + 1) (bstN (cirF f A B n) (2 ^ A) (a + 1)) (by omega) (rfl) ls (lv_sub hl [0, 1, 3, 4, 5] rfl)
        | succ k ih_28 =>
          intro i hk28 hrl  ls hl
          refine lv_iload hx hb d_M_longestRow_28 (lv_at hl 0 rfl) ?_
          refine lv_iload_n hx hb d_M_longestRow_30 rfl (lv_at hl 3 rfl) ?_
          refine lv_icmp_ge (tgt := 55) hx hb d_M_longestRow_31 (by decide) (fun c_31 => absurd c_31 (nI_ge (by omega) (by omega))) (fun c_31 => ?_)
          refine lv_aload_n hx hb d_M_longestRow_34 rfl (lv_at hl 4 rfl) ?_
          refine va_get (D := D) (ci := 4) (v := .ref a9) (C := R_M) (T := T_M) (N := 12) hx hb (us_M G hW) (fun _ h => h) hown hK hP 0 rfl rfl 9 (by decide) (fl_M_34 G hW) (fun _ h9 => h9) rfl d_M_longestRow_35 ?_
          refine lv_iload hx hb d_M_longestRow_38 (lv_at hl 1 rfl) ?_
          refine lv_iload hx hb d_M_longestRow_40 (lv_at hl 0 rfl) ?_
          refine lv_iadd hx hb d_M_longestRow_42 ?_
          refine tp_i (y := (nI (a + i))) (nI_add _ _) ?_
          refine lv_iload_n hx hb d_M_longestRow_43 rfl (lv_at hl 3 rfl) ?_
          refine lv_irem hx hb d_M_longestRow_44 (nI_ne0 hA0 (by omega)) ?_
          refine tp_i (y := (nI ((a + i) % 2 ^ A))) (pk_rem (by omega) hA0 (by omega)) ?_
          refine ia_ld hx hb hK hP 9 (j := ((a + i) % 2 ^ A)) rfl (Nat.lt_of_lt_of_le (Nat.mod_lt _ hA0) (by omega)) (by decide) d_M_longestRow_45 ?_
          refine tp_i (y := (oI ((cirF f A B n) ((a + i) % 2 ^ A)))) (hsh _ (Nat.mod_lt _ hA0)) ?_
          refine lv_if_lt (tgt := 55) hx hb d_M_longestRow_46 (by decide) (fun c_46 => ?_) (fun c_46 => ?_)
          · have hre : rln (cirF f A B n) (2 ^ A) a (2 ^ A) 0 = i := by rw [hrl, rln_n ((oI_lt (fun j hj => by have := cirN_lt hj; omega)).mp c_46)]
            refine lv_iload hx hb d_M_longestRow_55 (lv_at hl 0 rfl) ?_
            refine lv_iload_n hx hb d_M_longestRow_57 rfl (lv_at hl 2 rfl) ?_
            refine lv_icmp_le (tgt := 66) hx hb d_M_longestRow_58 (by decide) (fun c_58 => ?_) (fun c_58 => ?_)
            · refine lv_iload_n hx hb d_M_longestRow_66 rfl (lv_at hl 2 rfl) ?_
              refine tp_i (y := (nI (bstN (cirF f A B n) (2 ^ A) (a + 1)))) (by rw [bst_a (by rw [hre, ← ht]; exact (nI_leI (by omega) (by have := bstN_le (cirF f A B n) (2 ^ A) a; omega)).mp c_58), ht]) ?_
              refine lv_istore_n (lv' := [(3, .int (nI (bstN (cirF f A B n) (2 ^ A) (a + 1)))), (5, .int (nI i)), (4, .int (nI a)), (2, .int (nI (2 ^ A))), (0, .ref hm), (1, .int (nI fN))]) hx hb d_M_longestRow_67 rfl hl (by decide) rfl (fun ls hl => ?_)
              refine lv_iinc (v := (nI (a + 1))) (lv' := [(4, .int (nI (a + 1))), (3, .int (nI (bstN (cirF f A B n) (2 ^ A) (a + 1)))), (5, .int (nI i)), (2, .int (nI (2 ^ A))), (0, .ref hm), (1, .int (nI fN))]) hx hb d_M_longestRow_68 hl (k := 2) rfl (nI_1 _) (by decide) rfl (fun ls hl => ?_)
              refine lv_goto (tgt := 19) hx hb d_M_longestRow_71 (by decide) ?_
              exact ih_19 (a + 1) (bstN (cirF f A B n) (2 ^ A) (a + 1)) (by omega) (rfl) ls (lv_sub hl [0, 1, 3, 4, 5] rfl)
            · refine lv_iload hx hb d_M_longestRow_61 (lv_at hl 0 rfl) ?_
              refine lv_goto (tgt := 67) hx hb d_M_longestRow_63 (by decide) ?_
              refine tp_i (y := (nI (bstN (cirF f A B n) (2 ^ A) (a + 1)))) (by rw [bst_b (by rw [hre, ← ht]; exact fun h9 => c_58 (nI_le h9 (by have := bstN_le (cirF f A B n) (2 ^ A) a; omega))), hre]) ?_
              refine lv_istore_n (lv' := [(3, .int (nI (bstN (cirF f A B n) (2 ^ A) (a + 1)))), (5, .int (nI i)), (4, .int (nI a)), (2, .int (nI (2 ^ A))), (0, .ref hm), (1, .int (nI fN))]) hx hb d_M_longestRow_67 rfl hl (by decide) rfl (fun ls hl => ?_)
              refine lv_iinc (v := (nI (a + 1))) (lv' := [(4, .int (nI (a + 1))), (3, .int (nI (bstN (cirF f A B n) (2 ^ A) (a + 1)))), (5, .int (nI i)), (2, .int (nI (2 ^ A))), (0, .ref hm), (1, .int (nI fN))]) hx hb d_M_longestRow_68 hl (k := 2) rfl (nI_1 _) (by decide) rfl (fun ls hl => ?_)
              refine lv_goto (tgt := 19) hx hb d_M_longestRow_71 (by decide) ?_
              exact ih_19 (a + 1) (bstN (cirF f A B n) (2 ^ A) (a + 1)) (by omega) (rfl) ls (lv_sub hl [0, 1, 3, 4, 5] rfl)
          · refine lv_iinc (v := (nI (i + 1))) (lv' := [(5, .int (nI (i + 1))), (4, .int (nI a)), (3, .int (nI t)), (2, .int (nI (2 ^ A))), (0, .ref hm), (1, .int (nI fN))]) hx hb d_M_longestRow_49 hl (k := 0) rfl (nI_1 _) (by decide) rfl (fun ls hl => ?_)
            refine lv_goto (tgt := 28) hx hb d_M_longestRow_52 (by decide) ?_
            exact ih_28 (i + 1) (by omega) (by cases e9 : (cirF f A B n) ((a + i) % 2 ^ A) with | none => exact absurd ((oI_lt (fun j hj => by have := cirN_lt hj; omega)).mpr e9) c_46 | some j => rw [hrl, rln_s e9]) ls (lv_sub hl [0, 1, 2, 3, 4, 5] rfl)
      exact loop_28 (2 ^ A) (0) (by omega) (rfl) ls (lv_sub hl [0, 1, 2, 3, 4, 5] rfl)
  exact loop_19 (2 ^ A) (0) (0) (by omega) (rfl) ls (lv_sub hl [0, 1, 2, 3, 4] rfl)

set_option maxHeartbeats 4000000 in
set_option maxRecDepth 100000 in
theorem c_M_addPrint {l : Launch} {s0 : State} {D : va_G} {cI cF cJ : ClassId} (G : Gx l s0 D cI cF cJ) (hm a1 a2 a3 a4 a5 a6 a7 a8 a9 a10 a11 : Nat) (th : Int32) (ki ka kb : Nat → Nat) (zs pu : Nat → Int32) (ce pa tr : Nat → Nat) (so : Nat → Int32) (pl ot : Nat → Nat) (fN : Nat) (A B : Nat) (x : Int64) {H0 : Heap} {A0 : Nat → Prop} (hP : va_P D vcl [(hm, .inr (4, [.int th, .ref a1, .ref a2, .ref a3, .ref a4, .ref a5, .ref a6, .ref a7, .ref a8, .ref a9, .ref a10, .ref a11])), (a1, aN cI 4 ki), (a2, aN cI 4 ka), (a3, aN cI 4 kb), (a4, aI cI 4 zs), (a5, aI cI 4 pu), (a6, aN cI 4096 ce), (a7, aN cI 1024 pa), (a8, aN cI 1024 tr), (a9, aI cI 256 so), (a10, aN cI 6 pl), (a11, aN cI 6 ot)] H0) (hD : va_D A0 [(hm, .inr (4, [.int th, .ref a1, .ref a2, .ref a3, .ref a4, .ref a5, .ref a6, .ref a7, .ref a8, .ref a9, .ref a10, .ref a11])), (a1, aN cI 4 ki), (a2, aN cI 4 ka), (a3, aN cI 4 kb), (a4, aI cI 4 zs), (a5, aI cI 4 pu), (a6, aN cI 4096 ce), (a7, aN cI 1024 pa), (a8, aN cI 1024 tr), (a9, aI cI 256 so), (a10, aN cI 6 pl), (a11, aN cI 6 ot)]) (hF : fN < 4) (hka : ka fN = A) (hkb : kb fN = B) (hA : A ≤ 8) (hB4 : 4 ≤ B) (hB : B ≤ 16) (hs : ∀ j, j < 1024 → vw ce (1024 * fN) j < 65536) : Mx l s0 y_M_addPrint (.code y_M_addPrint b_M_addPrint 14 (some .boolean)) { frames := 2, cells := 0, slots := 0, locals := 49 } [.ref hm, .int (nI fN), .long x] H0 (Aa [hm, a1, a2, a3, a4, a5, a6, a7, a8, a9, a10, a11] H0.size) (Rw (.int (bI (putB A B x (vw ce (1024 * fN))).1.isSome)) (fun H1 => ∃ tr1, va_P D vcl [(hm, .inr (4, [.int th, .ref a1, .ref a2, .ref a3, .ref a4, .ref a5, .ref a6, .ref a7, .ref a8, .ref a9, .ref a10, .ref a11])), (a1, aN cI 4 ki), (a2, aN cI 4 ka), (a3, aN cI 4 kb), (a4, aI cI 4 zs), (a5, aI cI 4 (upd pu fN (pu fN + nI (putB A B x (vw ce (1024 * fN))).2))), (a6, aN cI 4096 (stO 1024 ce (1024 * fN) ((putB A B x (vw ce (1024 * fN))).1.getD (vw ce (1024 * fN))))), (a7, aN cI 1024 pa), (a8, aN cI 1024 tr1), (a9, aI cI 256 so), (a10, aN cI 6 pl), (a11, aN cI 6 ot)] H1)) := by
  refine Mx.ofW (own := "FewBitsModel") rfl rfl ?_
  rintro p e s m below meth c ⟨hx, hb, hml, hr, hown, hW, hlk⟩ hnm het hH
  have hK := G.k hW
  have hD := hD.aa (sz := H0.size)
  have hD : va_D (Aa [hm, a1, a2, a3, a4, a5, a6, a7, a8, a9, a10, a11] H0.size) [(hm, .inr (4, [.int th, .ref a1, .ref a2, .ref a3, .ref a4, .ref a5, .ref a6, .ref a7, .ref a8, .ref a9, .ref a10, .ref a11])), (a1, aN cI 4 ki), (a2, aN cI 4 ka), (a3, aN cI 4 kb), (a4, aI cI 4 zs), (a5, aI cI 4 pu), (a6, aN cI 4096 ce), (a7, aN cI 1024 pa), (a8, aN cI 1024 tr), (a9, aI cI 256 so), (a10, aN cI 6 pl), (a11, aN cI 6 ot)] := hD
  have hS : va_S (Aa [hm, a1, a2, a3, a4, a5, a6, a7, a8, a9, a10, a11] H0.size) H0 H0 [] := va_S.rf
  have h8 := p2_le hA
  have hpu0 : upd pu fN (pu fN + nI 0) = pu := by funext j; unfold upd; split; (rename_i e9; rw [e9, nI_0, Int32.add_zero]); rfl
  have hl := lv_entry ([.ref hm, .int (nI fN), .long x]) (n := 14) (Nat.le_of_ble_eq_true rfl)
  rw [lg_entry_eq]
  generalize (lg_sl ([.ref hm, .int (nI fN), .long x]) ++ List.replicate (14 - (lg_sl ([.ref hm, .int (nI fN), .long x])).length) Slot.unset).toArray = ls at hl ⊢
  have hl : lv_has ls 14 [(0, .ref hm), (1, .int (nI fN)), (2, .long x)] := hl
  refine lv_sipush (v := (nI 1024)) hx hb d_M_addPrint_0 (by decide) ?_
  refine lv_iload_n hx hb d_M_addPrint_3 rfl (lv_at hl 1 rfl) ?_
  refine lv_imul hx hb d_M_addPrint_4 ?_
  refine tp_i (y := (nI (1024 * fN))) (pk_mul _ _) ?_
  refine lv_istore (lv' := [(4, .int (nI (1024 * fN))), (0, .ref hm), (1, .int (nI fN)), (2, .long x)]) hx hb d_M_addPrint_5 hl (by decide) rfl (fun ls hl => ?_)
  refine lv_aload_n hx hb d_M_addPrint_7 rfl (lv_at hl 1 rfl) ?_
  refine lv_iload_n hx hb d_M_addPrint_8 rfl (lv_at hl 2 rfl) ?_
  refine lv_lload_n hx hb d_M_addPrint_9 rfl (lv_at hl 3 rfl) ?_
  refine mx_callR (r := .int (nI (fpN B x))) (c_M_fingerprint G hm a1 a2 a3 a4 a5 a6 a7 a8 a9 a10 a11 th ki ka kb zs pu ce pa tr so pl ot fN A B x hP hF hka hkb hB4 hB) hW (iv_M_addPrint_10 G hx hb hown hW (va_recv hK hP (ci := 4) (q0 := 0) rfl rfl) [.int (nI fN), .long x] [] rfl) hml hl.1 (by rw [hb]; exact d_M_addPrint_10) (cd_M_fingerprint G hW) ⟨Nat.le_of_ble_eq_true rfl, Nat.le_of_ble_eq_true rfl⟩ rfl rfl (Nat.le_of_ble_eq_true rfl) (Nat.le_of_ble_eq_true rfl) (Nat.le_of_ble_eq_true rfl) ?_
  refine lv_istore (lv' := [(5, .int (nI (fpN B x))), (4, .int (nI (1024 * fN))), (0, .ref hm), (1, .int (nI fN)), (2, .long x)]) hx hb d_M_addPrint_13 hl (by decide) rfl (fun ls hl => ?_)
  refine lv_aload_n hx hb d_M_addPrint_15 rfl (lv_at hl 2 rfl) ?_
  refine lv_iload_n hx hb d_M_addPrint_16 rfl (lv_at hl 3 rfl) ?_
  refine lv_lload_n hx hb d_M_addPrint_17 rfl (lv_at hl 4 rfl) ?_
  refine mx_callR (r := .int (nI (fbN A x))) (c_M_firstBucket G hm a1 a2 a3 a4 a5 a6 a7 a8 a9 a10 a11 th ki ka kb zs pu ce pa tr so pl ot fN A B x hP hF hka hkb (by omega)) hW (iv_M_addPrint_18 G hx hb hown hW (va_recv hK hP (ci := 4) (q0 := 0) rfl rfl) [.int (nI fN), .long x] [] rfl) hml hl.1 (by rw [hb]; exact d_M_addPrint_18) (cd_M_firstBucket G hW) ⟨Nat.le_of_ble_eq_true rfl, Nat.le_of_ble_eq_true rfl⟩ rfl rfl (Nat.le_of_ble_eq_true rfl) (Nat.le_of_ble_eq_true rfl) (Nat.le_of_ble_eq_true rfl) ?_
  refine lv_istore (lv' := [(6, .int (nI (fbN A x))), (5, .int (nI (fpN B x))), (4, .int (nI (1024 * fN))), (0, .ref hm), (1, .int (nI fN)), (2, .long x)]) hx hb d_M_addPrint_21 hl (by decide) rfl (fun ls hl => ?_)
  refine lv_aload_n hx hb d_M_addPrint_23 rfl (lv_at hl 3 rfl) ?_
  refine lv_aload_n hx hb d_M_addPrint_24 rfl (lv_at hl 3 rfl) ?_
  refine va_get (D := D) (ci := 4) (v := .ref a6) (C := R_M) (T := T_M) (N := 12) hx hb (us_M G hW) (fun _ h => h) hown hK hP 0 rfl rfl 6 (by decide) (fl_M_25 G hW) (fun _ h9 => h9) rfl d_M_addPrint_25 ?_
  refine lv_iload hx hb d_M_addPrint_28 (lv_at hl 2 rfl) ?_
  refine lv_iload hx hb d_M_addPrint_30 (lv_at hl 0 rfl) ?_
  refine lv_iconst (v := (nI 0)) hx hb d_M_addPrint_32 (by decide) ?_
  refine mx_callR (r := .int (oI (fnd ce 0 ((1024 * fN) + 4 * (fbN A x)) 4))) (c_M_slotWith_6 G hm a1 a2 a3 a4 a5 a6 a7 a8 a9 a10 a11 th ki ka kb zs pu ce pa tr so pl ot fN (fbN A x) 0 hP hF (by have := fbN_lt A x; omega) (by decide) (fun j hj => by rw [Nat.add_assoc]; exact hs (4 * (fbN A x) + j) (by have := fbN_lt A x; have := obN_lt (fbN_lt A x) (fpN B x); omega))) hW (iv_M_addPrint_33 G hx hb hown hW (va_recv hK hP (ci := 4) (q0 := 0) rfl rfl) [.ref a6, .int (nI (1024 * fN)), .int (nI (fbN A x)), .int (nI 0)] [] rfl) hml hl.1 (by rw [hb]; exact d_M_addPrint_33) (cd_M_slotWith G hW) ⟨Nat.le_of_ble_eq_true rfl, Nat.le_of_ble_eq_true rfl⟩ rfl rfl (Nat.le_of_ble_eq_true rfl) (Nat.le_of_ble_eq_true rfl) (Nat.le_of_ble_eq_true rfl) ?_
  refine lv_istore (lv' := [(7, .int (oI (fnd ce 0 ((1024 * fN) + 4 * (fbN A x)) 4))), (6, .int (nI (fbN A x))), (5, .int (nI (fpN B x))), (4, .int (nI (1024 * fN))), (0, .ref hm), (1, .int (nI fN)), (2, .long x)]) hx hb d_M_addPrint_36 hl (by decide) rfl (fun ls hl => ?_)
  refine lv_iload hx hb d_M_addPrint_38 (lv_at hl 0 rfl) ?_
  refine lv_if_lt (tgt := 48) hx hb d_M_addPrint_40 (by decide) (fun c_40 => ?_) (fun c_40 => ?_)
  · have hn1 : fnd (vw ce (1024 * fN)) 0 (4 * (fbN A x)) 4 = none := by have h9 := (oI_lt (fun j hj => by have := fnd_in hj; have := fbN_lt A x; have := obN_lt (fbN_lt A x) (fpN B x); omega)).mp c_40; rw [fnd_vw] at h9; exact map_none h9
    have hob := obN_lt (fbN_lt A x) (fpN B x)
    refine lv_aload_n hx hb d_M_addPrint_48 rfl (lv_at hl 4 rfl) ?_
    refine lv_iload_n hx hb d_M_addPrint_49 rfl (lv_at hl 5 rfl) ?_
    refine lv_iload hx hb d_M_addPrint_50 (lv_at hl 2 rfl) ?_
    refine lv_iload hx hb d_M_addPrint_52 (lv_at hl 1 rfl) ?_
    refine mx_callR (r := .int (nI (obN A (fbN A x) (fpN B x)))) (c_M_otherBucket G hm a1 a2 a3 a4 a5 a6 a7 a8 a9 a10 a11 th ki ka kb zs pu ce pa tr so pl ot fN A B (fbN A x) (fpN B x) hP hF hka hkb (by omega)) hW (iv_M_addPrint_54 G hx hb hown hW (va_recv hK hP (ci := 4) (q0 := 0) rfl rfl) [.int (nI fN), .int (nI (fpN B x)), .int (nI (fbN A x))] [] rfl) hml hl.1 (by rw [hb]; exact d_M_addPrint_54) (cd_M_otherBucket G hW) ⟨Nat.le_of_ble_eq_true rfl, Nat.le_of_ble_eq_true rfl⟩ rfl rfl (Nat.le_of_ble_eq_true rfl) (Nat.le_of_ble_eq_true rfl) (Nat.le_of_ble_eq_true rfl) ?_
    refine lv_istore (lv' := [(6, .int (nI (obN A (fbN A x) (fpN B x)))), (7, .int (oI (fnd ce 0 ((1024 * fN) + 4 * (fbN A x)) 4))), (5, .int (nI (fpN B x))), (4, .int (nI (1024 * fN))), (0, .ref hm), (1, .int (nI fN)), (2, .long x)]) hx hb d_M_addPrint_57 hl (by decide) rfl (fun ls hl => ?_)
    refine lv_iload hx hb d_M_addPrint_59 (lv_at hl 1 rfl) ?_
    refine lv_if_lt (tgt := 69) hx hb d_M_addPrint_61 (by decide) (fun c_61 => ?_) (fun c_61 => absurd (c_40) c_61)
    refine lv_aload_n hx hb d_M_addPrint_69 rfl (lv_at hl 4 rfl) ?_
    refine lv_aload_n hx hb d_M_addPrint_70 rfl (lv_at hl 4 rfl) ?_
    refine va_get (D := D) (ci := 4) (v := .ref a6) (C := R_M) (T := T_M) (N := 12) hx hb (us_M G hW) (fun _ h => h) hown hK hP 0 rfl rfl 6 (by decide) (fl_M_25 G hW) (fun _ h9 => h9) rfl d_M_addPrint_71 ?_
    refine lv_iload hx hb d_M_addPrint_74 (lv_at hl 3 rfl) ?_
    refine lv_iload hx hb d_M_addPrint_76 (lv_at hl 0 rfl) ?_
    refine lv_iconst (v := (nI 0)) hx hb d_M_addPrint_78 (by decide) ?_
    refine mx_callR (r := .int (oI (fnd ce 0 ((1024 * fN) + 4 * (obN A (fbN A x) (fpN B x))) 4))) (c_M_slotWith_6 G hm a1 a2 a3 a4 a5 a6 a7 a8 a9 a10 a11 th ki ka kb zs pu ce pa tr so pl ot fN (obN A (fbN A x) (fpN B x)) 0 hP hF (by have := obN_lt (fbN_lt A x) (fpN B x); omega) (by decide) (fun j hj => by rw [Nat.add_assoc]; exact hs (4 * (obN A (fbN A x) (fpN B x)) + j) (by have := fbN_lt A x; have := obN_lt (fbN_lt A x) (fpN B x); omega))) hW (iv_M_addPrint_79 G hx hb hown hW (va_recv hK hP (ci := 4) (q0 := 0) rfl rfl) [.ref a6, .int (nI (1024 * fN)), .int (nI (obN A (fbN A x) (fpN B x))), .int (nI 0)] [] rfl) hml hl.1 (by rw [hb]; exact d_M_addPrint_79) (cd_M_slotWith G hW) ⟨Nat.le_of_ble_eq_true rfl, Nat.le_of_ble_eq_true rfl⟩ rfl rfl (Nat.le_of_ble_eq_true rfl) (Nat.le_of_ble_eq_true rfl) (Nat.le_of_ble_eq_true rfl) ?_
    refine lv_istore (lv' := [(7, .int (oI (fnd ce 0 ((1024 * fN) + 4 * (obN A (fbN A x) (fpN B x))) 4))), (6, .int (nI (obN A (fbN A x) (fpN B x)))), (5, .int (nI (fpN B x))), (4, .int (nI (1024 * fN))), (0, .ref hm), (1, .int (nI fN)), (2, .long x)]) hx hb d_M_addPrint_82 hl (by decide) rfl (fun ls hl => ?_)
    refine lv_iload hx hb d_M_addPrint_84 (lv_at hl 0 rfl) ?_
    refine lv_if_lt (tgt := 100) hx hb d_M_addPrint_86 (by decide) (fun c_86 => ?_) (fun c_86 => ?_)
    · have hn2 : fnd (vw ce (1024 * fN)) 0 (4 * (obN A (fbN A x) (fpN B x))) 4 = none := by have h9 := (oI_lt (fun j hj => by have := fnd_in hj; have := fbN_lt A x; have := obN_lt (fbN_lt A x) (fpN B x); omega)).mp c_86; rw [fnd_vw] at h9; exact map_none h9
      refine lv_iconst (v := (nI 4)) hx hb d_M_addPrint_100 (by decide) ?_
      refine lv_aload_n hx hb d_M_addPrint_101 rfl (lv_at hl 4 rfl) ?_
      refine va_get (D := D) (ci := 4) (v := .ref a2) (C := R_M) (T := T_M) (N := 12) hx hb (us_M G hW) (fun _ h => h) hown hK hP 0 rfl rfl 2 (by decide) (fl_M_13 G hW) (fun _ h9 => h9) rfl d_M_addPrint_102 ?_
      refine lv_iload_n hx hb d_M_addPrint_105 rfl (lv_at hl 5 rfl) ?_
      refine ia_ld hx hb hK hP 2 (j := fN) rfl (hF) (by decide) d_M_addPrint_106 ?_
      refine tp_i (y := (nI (ka fN))) rfl ?_
      refine tp_i (y := (nI A)) (by rw [hka]) ?_
      refine lv_ishl hx hb d_M_addPrint_107 ?_
      refine tp_i (y := (nI (4 * 2 ^ A))) (shl_B (by omega) (by omega)) ?_
      refine lv_istore (lv' := [(8, .int (nI (4 * 2 ^ A))), (7, .int (oI (fnd ce 0 ((1024 * fN) + 4 * (obN A (fbN A x) (fpN B x))) 4))), (6, .int (nI (obN A (fbN A x) (fpN B x)))), (5, .int (nI (fpN B x))), (4, .int (nI (1024 * fN))), (0, .ref hm), (1, .int (nI fN)), (2, .long x)]) hx hb d_M_addPrint_108 hl (by decide) rfl (fun ls hl => ?_)
      refine lv_iconst (v := (nI 0)) hx hb d_M_addPrint_110 (by decide) ?_
      refine lv_istore (lv' := [(9, .int (nI 0)), (8, .int (nI (4 * 2 ^ A))), (7, .int (oI (fnd ce 0 ((1024 * fN) + 4 * (obN A (fbN A x) (fpN B x))) 4))), (6, .int (nI (obN A (fbN A x) (fpN B x)))), (5, .int (nI (fpN B x))), (4, .int (nI (1024 * fN))), (0, .ref hm), (1, .int (nI fN)), (2, .long x)]) hx hb d_M_addPrint_111 hl (by decide) rfl (fun ls hl => ?_)
      have loop_113 : ∀ (k : Nat) (i0 : Nat), (i0 + k = (4 * 2 ^ A)) → ∀ (H : Heap) (locs : List Loc), va_P D vcl [(hm, .inr (4, [.int th, .ref a1, .ref a2, .ref a3, .ref a4, .ref a5, .ref a6, .ref a7, .ref a8, .ref a9, .ref a10, .ref a11])), (a1, aN cI 4 ki), (a2, aN cI 4 ka), (a3, aN cI 4 kb), (a4, aI cI 4 zs), (a5, aI cI 4 pu), (a6, aN cI 4096 ce), (a7, aN cI 1024 pa), (a8, aN cI 1024 (cpT ce (1024 * fN) tr i0)), (a9, aI cI 256 so), (a10, aN cI 6 pl), (a11, aN cI 6 ot)] H → va_D (Aa [hm, a1, a2, a3, a4, a5, a6, a7, a8, a9, a10, a11] H0.size) [(hm, .inr (4, [.int th, .ref a1, .ref a2, .ref a3, .ref a4, .ref a5, .ref a6, .ref a7, .ref a8, .ref a9, .ref a10, .ref a11])), (a1, aN cI 4 ki), (a2, aN cI 4 ka), (a3, aN cI 4 kb), (a4, aI cI 4 zs), (a5, aI cI 4 pu), (a6, aN cI 4096 ce), (a7, aN cI 1024 pa), (a8, aN cI 1024 (cpT ce (1024 * fN) tr i0)), (a9, aI cI 256 so), (a10, aN cI 6 pl), (a11, aN cI 6 ot)] → va_S (Aa [hm, a1, a2, a3, a4, a5, a6, a7, a8, a9, a10, a11] H0.size) H0 H locs → ∀ (ls : Array Slot), lv_has ls 14 [(9, .int (nI i0)), (8, .int (nI (4 * 2 ^ A))), (7, .int (oI (fnd ce 0 ((1024 * fN) + 4 * (obN A (fbN A x) (fpN B x))) 4))), (6, .int (nI (obN A (fbN A x) (fpN B x)))), (5, .int (nI (fpN B x))), (4, .int (nI (1024 * fN))), (0, .ref hm), (1, .int (nI fN)), (2, .long x)] → W p l e { frames := 2, cells := 0, slots := 0, locals := 49 } s m ([.ref hm, .int (nI fN), .long x] : List Value).toArray below meth c H locs 0 0 (MQx below (Rw (.int (bI (putB A B x (vw ce (1024 * fN))).1.isSome)) (fun H1 => ∃ tr1, va_P D vcl [(hm, .inr (4, [.int th, .ref a1, .ref a2, .ref a3, .ref a4, .ref a5, .ref a6, .ref a7, .ref a8, .ref a9, .ref a10, .ref a11])), (a1, aN cI 4 ki), (a2, aN cI 4 ka), (a3, aN cI 4 kb), (a4, aI cI 4 zs), (a5, aI cI 4 (upd pu fN (pu fN + nI (putB A B x (vw ce (1024 * fN))).2))), (a6, aN cI 4096 (stO 1024 ce (1024 * fN) ((putB A B x (vw ce (1024 * fN))).1.getD (vw ce (1024 * fN))))), (a7, aN cI 1024 pa), (a8, aN cI 1024 tr1), (a9, aI cI 256 so), (a10, aN cI 6 pl), (a11, aN cI 6 ot)] H1)) s 0 0 (Aa [hm, a1, a2, a3, a4, a5, a6, a7, a8, a9, a10, a11] H0.size)) (F0 m 113 ls []) := by
        intro k
        induction k with
        | zero =>
          intro i0 hk113 H locs hP hD hS ls hl
          refine lv_iload hx hb d_M_addPrint_113 (lv_at hl 0 rfl) ?_
          refine lv_iload hx hb d_M_addPrint_115 (lv_at hl 1 rfl) ?_
          refine lv_icmp_ge (tgt := 143) hx hb d_M_addPrint_117 (by decide) (fun c_117 => ?_) (fun c_117 => absurd (nI_le (by omega) (by omega)) c_117)
          refine lv_iload hx hb d_M_addPrint_143 (lv_at hl 4 rfl) ?_
          refine lv_istore (lv' := [(9, .int (nI (fpN B x))), (8, .int (nI (4 * 2 ^ A))), (7, .int (oI (fnd ce 0 ((1024 * fN) + 4 * (obN A (fbN A x) (fpN B x))) 4))), (6, .int (nI (obN A (fbN A x) (fpN B x)))), (5, .int (nI (fpN B x))), (4, .int (nI (1024 * fN))), (0, .ref hm), (1, .int (nI fN)), (2, .long x)]) hx hb d_M_addPrint_145 hl (by decide) rfl (fun ls hl => ?_)
          refine lv_iconst (v := (nI 0)) hx hb d_M_addPrint_147 (by decide) ?_
          refine lv_istore (lv' := [(10, .int (nI 0)), (9, .int (nI (fpN B x))), (8, .int (nI (4 * 2 ^ A))), (7, .int (oI (fnd ce 0 ((1024 * fN) + 4 * (obN A (fbN A x) (fpN B x))) 4))), (6, .int (nI (obN A (fbN A x) (fpN B x)))), (5, .int (nI (fpN B x))), (4, .int (nI (1024 * fN))), (0, .ref hm), (1, .int (nI fN)), (2, .long x)]) hx hb d_M_addPrint_148 hl (by decide) rfl (fun ls hl => ?_)
          have loop_150 : ∀ (k : Nat) (i : Nat) (av : Nat) (g : Nat) (F : Nat → Nat) (g0 : Nat → Nat), (i + k = 64) → (av < 2 ^ A) → (g < 65536) → (∀ j, j < 1024 → g0 j < 65536) → (∀ j, j < (4 * 2 ^ A) → F j = g0 j) → (∀ j, (4 * 2 ^ A) ≤ j → g0 j = (vw ce (1024 * fN)) j) → ((psh A 64 0 (obN A (fbN A x) (fpN B x)) (fpN B x) (vw ce (1024 * fN))) = psh A k i av g g0) → ∀ (H : Heap) (locs : List Loc), va_P D vcl [(hm, .inr (4, [.int th, .ref a1, .ref a2, .ref a3, .ref a4, .ref a5, .ref a6, .ref a7, .ref a8, .ref a9, .ref a10, .ref a11])), (a1, aN cI 4 ki), (a2, aN cI 4 ka), (a3, aN cI 4 kb), (a4, aI cI 4 zs), (a5, aI cI 4 (upd pu fN (pu fN + nI i))), (a6, aN cI 4096 ce), (a7, aN cI 1024 pa), (a8, aN cI 1024 F), (a9, aI cI 256 so), (a10, aN cI 6 pl), (a11, aN cI 6 ot)] H → va_D (Aa [hm, a1, a2, a3, a4, a5, a6, a7, a8, a9, a10, a11] H0.size) [(hm, .inr (4, [.int th, .ref a1, .ref a2, .ref a3, .ref a4, .ref a5, .ref a6, .ref a7, .ref a8, .ref a9, .ref a10, .ref a11])), (a1, aN cI 4 ki), (a2, aN cI 4 ka), (a3, aN cI 4 kb), (a4, aI cI 4 zs), (a5, aI cI 4 (upd pu fN (pu fN + nI i))), (a6, aN cI 4096 ce), (a7, aN cI 1024 pa), (a8, aN cI 1024 F), (a9, aI cI 256 so), (a10, aN cI 6 pl), (a11, aN cI 6 ot)] → va_S (Aa [hm, a1, a2, a3, a4, a5, a6, a7, a8, a9, a10, a11] H0.size) H0 H locs → ∀ (ls : Array Slot), lv_has ls 14 [(10, .int (nI i)), (9, .int (nI g)), (8, .int (nI (4 * 2 ^ A))), (6, .int (nI av)), (5, .int (nI (fpN B x))), (4, .int (nI (1024 * fN))), (0, .ref hm), (1, .int (nI fN)), (2, .long x)] → W p l e { frames := 2, cells := 0, slots := 0, locals := 49 } s m ([.ref hm, .int (nI fN), .long x] : List Value).toArray below meth c H locs 0 0 (MQx below (Rw (.int (bI (putB A B x (vw ce (1024 * fN))).1.isSome)) (fun H1 => ∃ tr1, va_P D vcl [(hm, .inr (4, [.int th, .ref a1, .ref a2, .ref a3, .ref a4, .ref a5, .ref a6, .ref a7, .ref a8, .ref a9, .ref a10, .ref a11])), (a1, aN cI 4 ki), (a2, aN cI 4 ka), (a3, aN cI 4 kb), (a4, aI cI 4 zs), (a5, aI cI 4 (upd pu fN (pu fN + nI (putB A B x (vw ce (1024 * fN))).2))), (a6, aN cI 4096 (stO 1024 ce (1024 * fN) ((putB A B x (vw ce (1024 * fN))).1.getD (vw ce (1024 * fN))))), (a7, aN cI 1024 pa), (a8, aN cI 1024 tr1), (a9, aI cI 256 so), (a10, aN cI 6 pl), (a11, aN cI 6 ot)] H1)) s 0 0 (Aa [hm, a1, a2, a3, a4, a5, a6, a7, a8, a9, a10, a11] H0.size)) (F0 m 150 ls []) := by
            intro k
            induction k with
            | zero =>
              intro i av g F g0 hk150 hav hg hgs hFg hgo hps H locs hP hD hS ls hl
              refine lv_iload hx hb d_M_addPrint_150 (lv_at hl 0 rfl) ?_
              refine lv_bipush (v := (nI 64)) hx hb d_M_addPrint_152 (by decide) ?_
              refine lv_icmp_ge (tgt := 280) hx hb d_M_addPrint_154 (by decide) (fun c_154 => ?_) (fun c_154 => absurd (nI_le (by omega) (by omega)) c_154)
              refine lv_iconst (v := (nI 0)) hx hb d_M_addPrint_280 (by decide) ?_
              exact mx_zret hx hb hr hlk d_M_addPrint_281 (Nat.le_of_ble_eq_true rfl) (Nat.le_of_ble_eq_true rfl) hS.2.2 (rfl) (⟨by rw [putB_3 hn1 hn2, hps]; rfl, F, by rw [putB_3 hn1 hn2, hps]; show va_P D vcl [(hm, .inr (4, [.int th, .ref a1, .ref a2, .ref a3, .ref a4, .ref a5, .ref a6, .ref a7, .ref a8, .ref a9, .ref a10, .ref a11])), (a1, aN cI 4 ki), (a2, aN cI 4 ka), (a3, aN cI 4 kb), (a4, aI cI 4 zs), (a5, aI cI 4 (upd pu fN (pu fN + nI i))), (a6, aN cI 4096 (stO 1024 ce (1024 * fN) (vw ce (1024 * fN)))), (a7, aN cI 1024 pa), (a8, aN cI 1024 F), (a9, aI cI 256 so), (a10, aN cI 6 pl), (a11, aN cI 6 ot)] H; rw [stO_self]; exact hP⟩)
            | succ k ih_150 =>
              intro i av g F g0 hk150 hav hg hgs hFg hgo hps H locs hP hD hS ls hl
              refine lv_iload hx hb d_M_addPrint_150 (lv_at hl 0 rfl) ?_
              refine lv_bipush (v := (nI 64)) hx hb d_M_addPrint_152 (by decide) ?_
              refine lv_icmp_ge (tgt := 280) hx hb d_M_addPrint_154 (by decide) (fun c_154 => absurd c_154 (nI_ge (by omega) (by omega))) (fun c_154 => ?_)
              refine lv_iconst (v := (nI 4)) hx hb d_M_addPrint_157 (by decide) ?_
              refine lv_iload hx hb d_M_addPrint_158 (lv_at hl 3 rfl) ?_
              refine lv_imul hx hb d_M_addPrint_160 ?_
              refine tp_i (y := (nI (4 * av))) (pk_mul _ _) ?_
              refine lv_iload hx hb d_M_addPrint_161 (lv_at hl 0 rfl) ?_
              refine lv_iconst (v := (nI 4)) hx hb d_M_addPrint_163 (by decide) ?_
              refine lv_irem hx hb d_M_addPrint_164 (by decide) ?_
              refine tp_i (y := (nI (i % 4))) (pk_rem (by omega) (by decide) (by decide)) ?_
              refine lv_iadd hx hb d_M_addPrint_165 ?_
              refine tp_i (y := (nI (4 * av + i % 4))) (nI_add _ _) ?_
              refine lv_istore (lv' := [(11, .int (nI (4 * av + i % 4))), (10, .int (nI i)), (9, .int (nI g)), (8, .int (nI (4 * 2 ^ A))), (6, .int (nI av)), (5, .int (nI (fpN B x))), (4, .int (nI (1024 * fN))), (0, .ref hm), (1, .int (nI fN)), (2, .long x)]) hx hb d_M_addPrint_166 hl (by decide) rfl (fun ls hl => ?_)
              refine lv_aload_n hx hb d_M_addPrint_168 rfl (lv_at hl 7 rfl) ?_
              refine va_get (D := D) (ci := 4) (v := .ref a8) (C := R_M) (T := T_M) (N := 12) hx hb (us_M G hW) (fun _ h => h) hown hK hP 0 rfl rfl 8 (by decide) (fl_M_31 G hW) (fun _ h9 => h9) rfl d_M_addPrint_169 ?_
              refine lv_iload hx hb d_M_addPrint_172 (lv_at hl 0 rfl) ?_
              refine ia_ld hx hb hK hP 8 (j := (4 * av + i % 4)) rfl (by omega) (by decide) d_M_addPrint_174 ?_
              refine tp_i (y := (nI (F (4 * av + i % 4)))) rfl ?_
              refine tp_i (y := (nI (g0 (4 * av + i % 4)))) (by rw [hFg _ (by omega)]) ?_
              refine lv_istore (lv' := [(12, .int (nI (g0 (4 * av + i % 4)))), (11, .int (nI (4 * av + i % 4))), (10, .int (nI i)), (9, .int (nI g)), (8, .int (nI (4 * 2 ^ A))), (6, .int (nI av)), (5, .int (nI (fpN B x))), (4, .int (nI (1024 * fN))), (0, .ref hm), (1, .int (nI fN)), (2, .long x)]) hx hb d_M_addPrint_175 hl (by decide) rfl (fun ls hl => ?_)
              refine lv_aload_n hx hb d_M_addPrint_177 rfl (lv_at hl 8 rfl) ?_
              refine va_get (D := D) (ci := 4) (v := .ref a8) (C := R_M) (T := T_M) (N := 12) hx hb (us_M G hW) (fun _ h => h) hown hK hP 0 rfl rfl 8 (by decide) (fl_M_31 G hW) (fun _ h9 => h9) rfl d_M_addPrint_178 ?_
              refine lv_iload hx hb d_M_addPrint_181 (lv_at hl 1 rfl) ?_
              refine lv_iload hx hb d_M_addPrint_183 (lv_at hl 3 rfl) ?_
              refine ia_stN hx hb hK hP hD hS 8 (j := (4 * av + i % 4)) (x := g) (f := F) rfl (by omega) (by decide) d_M_addPrint_185 (fun H locs hP hD hS => ?_)
              have hP : va_P D vcl [(hm, .inr (4, [.int th, .ref a1, .ref a2, .ref a3, .ref a4, .ref a5, .ref a6, .ref a7, .ref a8, .ref a9, .ref a10, .ref a11])), (a1, aN cI 4 ki), (a2, aN cI 4 ka), (a3, aN cI 4 kb), (a4, aI cI 4 zs), (a5, aI cI 4 (upd pu fN (pu fN + nI i))), (a6, aN cI 4096 ce), (a7, aN cI 1024 pa), (a8, aN cI 1024 (va_up F (4 * av + i % 4) g)), (a9, aI cI 256 so), (a10, aN cI 6 pl), (a11, aN cI 6 ot)] H := hP
              have hD : va_D (Aa [hm, a1, a2, a3, a4, a5, a6, a7, a8, a9, a10, a11] H0.size) [(hm, .inr (4, [.int th, .ref a1, .ref a2, .ref a3, .ref a4, .ref a5, .ref a6, .ref a7, .ref a8, .ref a9, .ref a10, .ref a11])), (a1, aN cI 4 ki), (a2, aN cI 4 ka), (a3, aN cI 4 kb), (a4, aI cI 4 zs), (a5, aI cI 4 (upd pu fN (pu fN + nI i))), (a6, aN cI 4096 ce), (a7, aN cI 1024 pa), (a8, aN cI 1024 (va_up F (4 * av + i % 4) g)), (a9, aI cI 256 so), (a10, aN cI 6 pl), (a11, aN cI 6 ot)] := hD
              refine lv_iload hx hb d_M_addPrint_186 (lv_at hl 0 rfl) ?_
              refine lv_istore (lv' := [(9, .int (nI (g0 (4 * av + i % 4)))), (12, .int (nI (g0 (4 * av + i % 4)))), (11, .int (nI (4 * av + i % 4))), (10, .int (nI i)), (8, .int (nI (4 * 2 ^ A))), (6, .int (nI av)), (5, .int (nI (fpN B x))), (4, .int (nI (1024 * fN))), (0, .ref hm), (1, .int (nI fN)), (2, .long x)]) hx hb d_M_addPrint_188 hl (by decide) rfl (fun ls hl => ?_)
              refine lv_aload_n hx hb d_M_addPrint_190 rfl (lv_at hl 8 rfl) ?_
              refine va_get (D := D) (ci := 4) (v := .ref a5) (C := R_M) (T := T_M) (N := 12) hx hb (us_M G hW) (fun _ h => h) hown hK hP 0 rfl rfl 5 (by decide) (fl_M_22 G hW) (fun _ h9 => h9) rfl d_M_addPrint_191 ?_
              refine lv_iload_n hx hb d_M_addPrint_194 rfl (lv_at hl 9 rfl) ?_
              refine lv_dup2_11 hx hb d_M_addPrint_195 rfl rfl ?_
              refine ia_ld hx hb hK hP 5 (j := fN) rfl (hF) (by decide) d_M_addPrint_196 ?_
              refine tp_i (y := (pu fN + nI i)) (pk_us) ?_
              refine lv_iconst (v := (nI 1)) hx hb d_M_addPrint_197 (by decide) ?_
              refine lv_iadd hx hb d_M_addPrint_198 ?_
              refine tp_i (y := (pu fN + nI (i + 1))) (by rw [Int32.add_assoc, nI_add]) ?_
              refine ia_st hx hb hK hP hD hS 5 (j := fN) rfl (hF) (by decide) d_M_addPrint_199 (fun H locs hP hD hS => ?_)
              have hP : va_P D vcl [(hm, .inr (4, [.int th, .ref a1, .ref a2, .ref a3, .ref a4, .ref a5, .ref a6, .ref a7, .ref a8, .ref a9, .ref a10, .ref a11])), (a1, aN cI 4 ki), (a2, aN cI 4 ka), (a3, aN cI 4 kb), (a4, aI cI 4 zs), (a5, aI cI 4 (upd (upd pu fN (pu fN + nI i)) fN (pu fN + nI (i + 1)))), (a6, aN cI 4096 ce), (a7, aN cI 1024 pa), (a8, aN cI 1024 (va_up F (4 * av + i % 4) g)), (a9, aI cI 256 so), (a10, aN cI 6 pl), (a11, aN cI 6 ot)] H := hP
              have hD : va_D (Aa [hm, a1, a2, a3, a4, a5, a6, a7, a8, a9, a10, a11] H0.size) [(hm, .inr (4, [.int th, .ref a1, .ref a2, .ref a3, .ref a4, .ref a5, .ref a6, .ref a7, .ref a8, .ref a9, .ref a10, .ref a11])), (a1, aN cI 4 ki), (a2, aN cI 4 ka), (a3, aN cI 4 kb), (a4, aI cI 4 zs), (a5, aI cI 4 (upd (upd pu fN (pu fN + nI i)) fN (pu fN + nI (i + 1)))), (a6, aN cI 4096 ce), (a7, aN cI 1024 pa), (a8, aN cI 1024 (va_up F (4 * av + i % 4) g)), (a9, aI cI 256 so), (a10, aN cI 6 pl), (a11, aN cI 6 ot)] := hD
              rw [show upd (upd pu fN (pu fN + nI i)) fN (pu fN + nI (i + 1)) = (upd pu fN (pu fN + nI (i + 1))) by funext j; unfold upd; split <;> simp_all] at hP hD
              refine lv_aload_n hx hb d_M_addPrint_200 rfl (lv_at hl 8 rfl) ?_
              refine lv_iload_n hx hb d_M_addPrint_201 rfl (lv_at hl 9 rfl) ?_
              refine lv_iload hx hb d_M_addPrint_202 (lv_at hl 0 rfl) ?_
              refine lv_iload hx hb d_M_addPrint_204 (lv_at hl 5 rfl) ?_
              refine mx_callR (r := .int (nI (obN A av (g0 (4 * av + i % 4))))) (c_M_otherBucket G hm a1 a2 a3 a4 a5 a6 a7 a8 a9 a10 a11 th ki ka kb zs (upd pu fN (pu fN + nI (i + 1))) ce pa (va_up F (4 * av + i % 4) g) so pl ot fN A B av (g0 (4 * av + i % 4)) hP hF hka hkb (by omega)) hW (iv_M_addPrint_206 G hx hb hown hW (va_recv hK hP (ci := 4) (q0 := 0) rfl rfl) [.int (nI fN), .int (nI (g0 (4 * av + i % 4))), .int (nI av)] [] rfl) hml hl.1 (by rw [hb]; exact d_M_addPrint_206) (cd_M_otherBucket G hW) ⟨Nat.le_of_ble_eq_true rfl, Nat.le_of_ble_eq_true rfl⟩ rfl rfl (Nat.le_of_ble_eq_true rfl) (Nat.le_of_ble_eq_true rfl) (Nat.le_of_ble_eq_true rfl) ?_
              refine lv_istore (lv' := [(6, .int (nI (obN A av (g0 (4 * av + i % 4))))), (9, .int (nI (g0 (4 * av + i % 4)))), (12, .int (nI (g0 (4 * av + i % 4)))), (11, .int (nI (4 * av + i % 4))), (10, .int (nI i)), (8, .int (nI (4 * 2 ^ A))), (5, .int (nI (fpN B x))), (4, .int (nI (1024 * fN))), (0, .ref hm), (1, .int (nI fN)), (2, .long x)]) hx hb d_M_addPrint_209 hl (by decide) rfl (fun ls hl => ?_)
              refine lv_aload_n hx hb d_M_addPrint_211 rfl (lv_at hl 8 rfl) ?_
              refine lv_aload_n hx hb d_M_addPrint_212 rfl (lv_at hl 8 rfl) ?_
              refine va_get (D := D) (ci := 4) (v := .ref a8) (C := R_M) (T := T_M) (N := 12) hx hb (us_M G hW) (fun _ h => h) hown hK hP 0 rfl rfl 8 (by decide) (fl_M_31 G hW) (fun _ h9 => h9) rfl d_M_addPrint_213 ?_
              refine lv_iconst (v := (nI 0)) hx hb d_M_addPrint_216 (by decide) ?_
              refine lv_iload hx hb d_M_addPrint_217 (lv_at hl 0 rfl) ?_
              refine lv_iconst (v := (nI 0)) hx hb d_M_addPrint_219 (by decide) ?_
              refine mx_callR (r := .int (oI (fnd (va_up F (4 * av + i % 4) g) 0 (0 + 4 * (obN A av (g0 (4 * av + i % 4)))) 4))) (c_M_slotWith_8 G hm a1 a2 a3 a4 a5 a6 a7 a8 a9 a10 a11 th ki ka kb zs (upd pu fN (pu fN + nI (i + 1))) ce pa (va_up F (4 * av + i % 4) g) so pl ot (obN A av (g0 (4 * av + i % 4))) 0 hP (by have := obN_lt hav (g0 (4 * av + i % 4)); omega) (by decide) (fun j hj => by rw [Nat.zero_add, va_up_cong hFg _ (by have := obN_lt hav (g0 (4 * av + i % 4)); omega)]; exact up_lt hgs hg _ (by have := obN_lt hav (g0 (4 * av + i % 4)); omega))) hW (iv_M_addPrint_220 G hx hb hown hW (va_recv hK hP (ci := 4) (q0 := 0) rfl rfl) [.ref a8, .int (nI 0), .int (nI (obN A av (g0 (4 * av + i % 4)))), .int (nI 0)] [] rfl) hml hl.1 (by rw [hb]; exact d_M_addPrint_220) (cd_M_slotWith G hW) ⟨Nat.le_of_ble_eq_true rfl, Nat.le_of_ble_eq_true rfl⟩ rfl rfl (Nat.le_of_ble_eq_true rfl) (Nat.le_of_ble_eq_true rfl) (Nat.le_of_ble_eq_true rfl) ?_
              refine tp_i (y := (oI (fnd (va_up g0 (4 * av + i % 4) g) 0 (4 * (obN A av (g0 (4 * av + i % 4)))) 4))) (by rw [Nat.zero_add]; exact congrArg oI (fnd_congr (fun j h1 h2 => va_up_cong hFg j (by have := obN_lt hav (g0 (4 * av + i % 4)); omega)))) ?_
              refine lv_istore (lv' := [(7, .int (oI (fnd (va_up g0 (4 * av + i % 4) g) 0 (4 * (obN A av (g0 (4 * av + i % 4)))) 4))), (6, .int (nI (obN A av (g0 (4 * av + i % 4))))), (9, .int (nI (g0 (4 * av + i % 4)))), (12, .int (nI (g0 (4 * av + i % 4)))), (11, .int (nI (4 * av + i % 4))), (10, .int (nI i)), (8, .int (nI (4 * 2 ^ A))), (5, .int (nI (fpN B x))), (4, .int (nI (1024 * fN))), (0, .ref hm), (1, .int (nI fN)), (2, .long x)]) hx hb d_M_addPrint_223 hl (by decide) rfl (fun ls hl => ?_)
              refine lv_iload hx hb d_M_addPrint_225 (lv_at hl 0 rfl) ?_
              refine lv_if_lt (tgt := 274) hx hb d_M_addPrint_227 (by decide) (fun c_227 => ?_) (fun c_227 => ?_)
              · have hnn : fnd (va_up g0 (4 * av + i % 4) g) 0 (4 * (obN A av (g0 (4 * av + i % 4)))) 4 = none := (oI_lt (fun j hj => by have := fnd_in hj; have := obN_lt hav (g0 (4 * av + i % 4)); omega)).mp c_227
                refine lv_iinc (v := (nI (i + 1))) (lv' := [(10, .int (nI (i + 1))), (7, .int (oI (fnd (va_up g0 (4 * av + i % 4) g) 0 (4 * (obN A av (g0 (4 * av + i % 4)))) 4))), (6, .int (nI (obN A av (g0 (4 * av + i % 4))))), (9, .int (nI (g0 (4 * av + i % 4)))), (12, .int (nI (g0 (4 * av + i % 4)))), (11, .int (nI (4 * av + i % 4))), (8, .int (nI (4 * 2 ^ A))), (5, .int (nI (fpN B x))), (4, .int (nI (1024 * fN))), (0, .ref hm), (1, .int (nI fN)), (2, .long x)]) hx hb d_M_addPrint_274 hl (k := 5) rfl (nI_1 _) (by decide) rfl (fun ls hl => ?_)
                refine lv_goto (tgt := 150) hx hb d_M_addPrint_277 (by decide) ?_
                exact ih_150 (i + 1) ((obN A av (g0 (4 * av + i % 4)))) (g0 (4 * av + i % 4)) ((va_up F (4 * av + i % 4) g)) ((va_up g0 (4 * av + i % 4) g)) (by omega) (obN_lt hav _) (hgs _ (by omega)) (up_lt hgs hg) (va_up_cong hFg) (fun j hj => (va_up_ne _ _ (by omega)).trans (hgo j hj)) (by rw [hps, psh_n hnn]) H locs hP hD hS ls (lv_sub hl [0, 3, 6, 2, 7, 8, 9, 10, 11] rfl)
              · have hobv := obN_lt hav (g0 (4 * av + i % 4))
                obtain ⟨j, hj⟩ : ∃ j, fnd (va_up g0 (4 * av + i % 4) g) 0 (4 * (obN A av (g0 (4 * av + i % 4)))) 4 = some j := by cases e9 : fnd (va_up g0 (4 * av + i % 4) g) 0 (4 * (obN A av (g0 (4 * av + i % 4)))) 4 with | none => exact absurd ((oI_lt (fun j hj => by have := fnd_in hj; omega)).mpr e9) c_227 | some j => exact ⟨j, rfl⟩
                have hj2 := fnd_in hj
                rw [hj] at hl
                have hl : lv_has ls 14 [(7, .int (nI j)), (6, .int (nI (obN A av (g0 (4 * av + i % 4))))), (9, .int (nI (g0 (4 * av + i % 4)))), (12, .int (nI (g0 (4 * av + i % 4)))), (11, .int (nI (4 * av + i % 4))), (10, .int (nI i)), (8, .int (nI (4 * 2 ^ A))), (5, .int (nI (fpN B x))), (4, .int (nI (1024 * fN))), (0, .ref hm), (1, .int (nI fN)), (2, .long x)] := hl
                refine lv_aload_n hx hb d_M_addPrint_230 rfl (lv_at hl 9 rfl) ?_
                refine va_get (D := D) (ci := 4) (v := .ref a8) (C := R_M) (T := T_M) (N := 12) hx hb (us_M G hW) (fun _ h => h) hown hK hP 0 rfl rfl 8 (by decide) (fl_M_31 G hW) (fun _ h9 => h9) rfl d_M_addPrint_231 ?_
                refine lv_iload hx hb d_M_addPrint_234 (lv_at hl 0 rfl) ?_
                refine lv_iload hx hb d_M_addPrint_236 (lv_at hl 2 rfl) ?_
                refine ia_stN hx hb hK hP hD hS 8 (j := j) (x := (g0 (4 * av + i % 4))) (f := (va_up F (4 * av + i % 4) g)) rfl (by omega) (by decide) d_M_addPrint_238 (fun H locs hP hD hS => ?_)
                have hP : va_P D vcl [(hm, .inr (4, [.int th, .ref a1, .ref a2, .ref a3, .ref a4, .ref a5, .ref a6, .ref a7, .ref a8, .ref a9, .ref a10, .ref a11])), (a1, aN cI 4 ki), (a2, aN cI 4 ka), (a3, aN cI 4 kb), (a4, aI cI 4 zs), (a5, aI cI 4 (upd pu fN (pu fN + nI (i + 1)))), (a6, aN cI 4096 ce), (a7, aN cI 1024 pa), (a8, aN cI 1024 (va_up (va_up F (4 * av + i % 4) g) j (g0 (4 * av + i % 4)))), (a9, aI cI 256 so), (a10, aN cI 6 pl), (a11, aN cI 6 ot)] H := hP
                have hD : va_D (Aa [hm, a1, a2, a3, a4, a5, a6, a7, a8, a9, a10, a11] H0.size) [(hm, .inr (4, [.int th, .ref a1, .ref a2, .ref a3, .ref a4, .ref a5, .ref a6, .ref a7, .ref a8, .ref a9, .ref a10, .ref a11])), (a1, aN cI 4 ki), (a2, aN cI 4 ka), (a3, aN cI 4 kb), (a4, aI cI 4 zs), (a5, aI cI 4 (upd pu fN (pu fN + nI (i + 1)))), (a6, aN cI 4096 ce), (a7, aN cI 1024 pa), (a8, aN cI 1024 (va_up (va_up F (4 * av + i % 4) g) j (g0 (4 * av + i % 4)))), (a9, aI cI 256 so), (a10, aN cI 6 pl), (a11, aN cI 6 ot)] := hD
                refine lv_iconst (v := (nI 0)) hx hb d_M_addPrint_239 (by decide) ?_
                refine lv_istore (lv' := [(13, .int (nI 0)), (7, .int (nI j)), (6, .int (nI (obN A av (g0 (4 * av + i % 4))))), (9, .int (nI (g0 (4 * av + i % 4)))), (12, .int (nI (g0 (4 * av + i % 4)))), (11, .int (nI (4 * av + i % 4))), (10, .int (nI i)), (8, .int (nI (4 * 2 ^ A))), (5, .int (nI (fpN B x))), (4, .int (nI (1024 * fN))), (0, .ref hm), (1, .int (nI fN)), (2, .long x)]) hx hb d_M_addPrint_240 hl (by decide) rfl (fun ls hl => ?_)
                have loop_242 : ∀ (k : Nat) (i3 : Nat), (i3 + k = (4 * 2 ^ A)) → ∀ (H : Heap) (locs : List Loc), va_P D vcl [(hm, .inr (4, [.int th, .ref a1, .ref a2, .ref a3, .ref a4, .ref a5, .ref a6, .ref a7, .ref a8, .ref a9, .ref a10, .ref a11])), (a1, aN cI 4 ki), (a2, aN cI 4 ka), (a3, aN cI 4 kb), (a4, aI cI 4 zs), (a5, aI cI 4 (upd pu fN (pu fN + nI (i + 1)))), (a6, aN cI 4096 (stO i3 ce (1024 * fN) (va_up (va_up F (4 * av + i % 4) g) j (g0 (4 * av + i % 4))))), (a7, aN cI 1024 pa), (a8, aN cI 1024 (va_up (va_up F (4 * av + i % 4) g) j (g0 (4 * av + i % 4)))), (a9, aI cI 256 so), (a10, aN cI 6 pl), (a11, aN cI 6 ot)] H → va_D (Aa [hm, a1, a2, a3, a4, a5, a6, a7, a8, a9, a10, a11] H0.size) [(hm, .inr (4, [.int th, .ref a1, .ref a2, .ref a3, .ref a4, .ref a5, .ref a6, .ref a7, .ref a8, .ref a9, .ref a10, .ref a11])), (a1, aN cI 4 ki), (a2, aN cI 4 ka), (a3, aN cI 4 kb), (a4, aI cI 4 zs), (a5, aI cI 4 (upd pu fN (pu fN + nI (i + 1)))), (a6, aN cI 4096 (stO i3 ce (1024 * fN) (va_up (va_up F (4 * av + i % 4) g) j (g0 (4 * av + i % 4))))), (a7, aN cI 1024 pa), (a8, aN cI 1024 (va_up (va_up F (4 * av + i % 4) g) j (g0 (4 * av + i % 4)))), (a9, aI cI 256 so), (a10, aN cI 6 pl), (a11, aN cI 6 ot)] → va_S (Aa [hm, a1, a2, a3, a4, a5, a6, a7, a8, a9, a10, a11] H0.size) H0 H locs → ∀ (ls : Array Slot), lv_has ls 14 [(13, .int (nI i3)), (7, .int (nI j)), (6, .int (nI (obN A av (g0 (4 * av + i % 4))))), (9, .int (nI (g0 (4 * av + i % 4)))), (12, .int (nI (g0 (4 * av + i % 4)))), (11, .int (nI (4 * av + i % 4))), (10, .int (nI i)), (8, .int (nI (4 * 2 ^ A))), (5, .int (nI (fpN B x))), (4, .int (nI (1024 * fN))), (0, .ref hm), (1, .int (nI fN)), (2, .long x)] → W p l e { frames := 2, cells := 0, slots := 0, locals := 49 } s m ([.ref hm, .int (nI fN), .long x] : List Value).toArray below meth c H locs 0 0 (MQx below (Rw (.int (bI (putB A B x (vw ce (1024 * fN))).1.isSome)) (fun H1 => ∃ tr1, va_P D vcl [(hm, .inr (4, [.int th, .ref a1, .ref a2, .ref a3, .ref a4, .ref a5, .ref a6, .ref a7, .ref a8, .ref a9, .ref a10, .ref a11])), (a1, aN cI 4 ki), (a2, aN cI 4 ka), (a3, aN cI 4 kb), (a4, aI cI 4 zs), (a5, aI cI 4 (upd pu fN (pu fN + nI (putB A B x (vw ce (1024 * fN))).2))), (a6, aN cI 4096 (stO 1024 ce (1024 * fN) ((putB A B x (vw ce (1024 * fN))).1.getD (vw ce (1024 * fN))))), (a7, aN cI 1024 pa), (a8, aN cI 1024 tr1), (a9, aI cI 256 so), (a10, aN cI 6 pl), (a11, aN cI 6 ot)] H1)) s 0 0 (Aa [hm, a1, a2, a3, a4, a5, a6, a7, a8, a9, a10, a11] H0.size)) (F0 m 242 ls []) := by
                  intro k
                  induction k with
                  | zero =>
                    intro i3 hk242 H locs hP hD hS ls hl
                    refine lv_iload hx hb d_M_addPrint_242 (lv_at hl 0 rfl) ?_
                    refine lv_iload hx hb d_M_addPrint_244 (lv_at hl 7 rfl) ?_
                    refine lv_icmp_ge (tgt := 272) hx hb d_M_addPrint_246 (by decide) (fun c_246 => ?_) (fun c_246 => absurd (nI_le (by omega) (by omega)) c_246)
                    refine lv_iconst (v := (nI 1)) hx hb d_M_addPrint_272 (by decide) ?_
                    exact mx_zret hx hb hr hlk d_M_addPrint_273 (Nat.le_of_ble_eq_true rfl) (Nat.le_of_ble_eq_true rfl) hS.2.2 (rfl) (⟨by rw [putB_3 hn1 hn2, hps, psh_s hj]; rfl, _, by rw [putB_3 hn1 hn2, hps, psh_s hj]; show va_P D vcl [(hm, .inr (4, [.int th, .ref a1, .ref a2, .ref a3, .ref a4, .ref a5, .ref a6, .ref a7, .ref a8, .ref a9, .ref a10, .ref a11])), (a1, aN cI 4 ki), (a2, aN cI 4 ka), (a3, aN cI 4 kb), (a4, aI cI 4 zs), (a5, aI cI 4 (upd pu fN (pu fN + nI (i + 1)))), (a6, aN cI 4096 (stO 1024 ce (1024 * fN) (va_up (va_up g0 (4 * av + i % 4) g) j (g0 (4 * av + i % 4))))), (a7, aN cI 1024 pa), (a8, aN cI 1024 (va_up (va_up F (4 * av + i % 4) g) j (g0 (4 * av + i % 4)))), (a9, aI cI 256 so), (a10, aN cI 6 pl), (a11, aN cI 6 ot)] H; rw [show i3 = (4 * 2 ^ A) by omega, stO_cong (va_up_cong (va_up_cong hFg)), stO_more (by omega) (fun q h1 h2 => ((va_up_ne _ _ (by omega)).trans (va_up_ne _ _ (by omega))).trans (hgo q h1))] at hP; exact hP⟩)
                  | succ k ih_242 =>
                    intro i3 hk242 H locs hP hD hS ls hl
                    refine lv_iload hx hb d_M_addPrint_242 (lv_at hl 0 rfl) ?_
                    refine lv_iload hx hb d_M_addPrint_244 (lv_at hl 7 rfl) ?_
                    refine lv_icmp_ge (tgt := 272) hx hb d_M_addPrint_246 (by decide) (fun c_246 => absurd c_246 (nI_ge (by omega) (by omega))) (fun c_246 => ?_)
                    refine lv_aload_n hx hb d_M_addPrint_249 rfl (lv_at hl 10 rfl) ?_
                    refine va_get (D := D) (ci := 4) (v := .ref a6) (C := R_M) (T := T_M) (N := 12) hx hb (us_M G hW) (fun _ h => h) hown hK hP 0 rfl rfl 6 (by decide) (fl_M_25 G hW) (fun _ h9 => h9) rfl d_M_addPrint_250 ?_
                    refine lv_iload hx hb d_M_addPrint_253 (lv_at hl 9 rfl) ?_
                    refine lv_iload hx hb d_M_addPrint_255 (lv_at hl 0 rfl) ?_
                    refine lv_iadd hx hb d_M_addPrint_257 ?_
                    refine tp_i (y := (nI ((1024 * fN) + i3))) (nI_add _ _) ?_
                    refine lv_aload_n hx hb d_M_addPrint_258 rfl (lv_at hl 10 rfl) ?_
                    refine va_get (D := D) (ci := 4) (v := .ref a8) (C := R_M) (T := T_M) (N := 12) hx hb (us_M G hW) (fun _ h => h) hown hK hP 0 rfl rfl 8 (by decide) (fl_M_31 G hW) (fun _ h9 => h9) rfl d_M_addPrint_259 ?_
                    refine lv_iload hx hb d_M_addPrint_262 (lv_at hl 0 rfl) ?_
                    refine ia_ld hx hb hK hP 8 (j := i3) rfl (by omega) (by decide) d_M_addPrint_264 ?_
                    refine tp_i (y := (nI ((va_up (va_up F (4 * av + i % 4) g) j (g0 (4 * av + i % 4))) i3))) rfl ?_
                    refine ia_stN hx hb hK hP hD hS 6 (j := ((1024 * fN) + i3)) (x := ((va_up (va_up F (4 * av + i % 4) g) j (g0 (4 * av + i % 4))) i3)) (f := (stO i3 ce (1024 * fN) (va_up (va_up F (4 * av + i % 4) g) j (g0 (4 * av + i % 4))))) rfl (by omega) (by decide) d_M_addPrint_265 (fun H locs hP hD hS => ?_)
                    have hP : va_P D vcl [(hm, .inr (4, [.int th, .ref a1, .ref a2, .ref a3, .ref a4, .ref a5, .ref a6, .ref a7, .ref a8, .ref a9, .ref a10, .ref a11])), (a1, aN cI 4 ki), (a2, aN cI 4 ka), (a3, aN cI 4 kb), (a4, aI cI 4 zs), (a5, aI cI 4 (upd pu fN (pu fN + nI (i + 1)))), (a6, aN cI 4096 (va_up (stO i3 ce (1024 * fN) (va_up (va_up F (4 * av + i % 4) g) j (g0 (4 * av + i % 4)))) ((1024 * fN) + i3) ((va_up (va_up F (4 * av + i % 4) g) j (g0 (4 * av + i % 4))) i3))), (a7, aN cI 1024 pa), (a8, aN cI 1024 (va_up (va_up F (4 * av + i % 4) g) j (g0 (4 * av + i % 4)))), (a9, aI cI 256 so), (a10, aN cI 6 pl), (a11, aN cI 6 ot)] H := hP
                    have hD : va_D (Aa [hm, a1, a2, a3, a4, a5, a6, a7, a8, a9, a10, a11] H0.size) [(hm, .inr (4, [.int th, .ref a1, .ref a2, .ref a3, .ref a4, .ref a5, .ref a6, .ref a7, .ref a8, .ref a9, .ref a10, .ref a11])), (a1, aN cI 4 ki), (a2, aN cI 4 ka), (a3, aN cI 4 kb), (a4, aI cI 4 zs), (a5, aI cI 4 (upd pu fN (pu fN + nI (i + 1)))), (a6, aN cI 4096 (va_up (stO i3 ce (1024 * fN) (va_up (va_up F (4 * av + i % 4) g) j (g0 (4 * av + i % 4)))) ((1024 * fN) + i3) ((va_up (va_up F (4 * av + i % 4) g) j (g0 (4 * av + i % 4))) i3))), (a7, aN cI 1024 pa), (a8, aN cI 1024 (va_up (va_up F (4 * av + i % 4) g) j (g0 (4 * av + i % 4)))), (a9, aI cI 256 so), (a10, aN cI 6 pl), (a11, aN cI 6 ot)] := hD
                    rw [stO_n] at hP hD
                    refine lv_iinc (v := (nI (i3 + 1))) (lv' := [(13, .int (nI (i3 + 1))), (7, .int (nI j)), (6, .int (nI (obN A av (g0 (4 * av + i % 4))))), (9, .int (nI (g0 (4 * av + i % 4)))), (12, .int (nI (g0 (4 * av + i % 4)))), (11, .int (nI (4 * av + i % 4))), (10, .int (nI i)), (8, .int (nI (4 * 2 ^ A))), (5, .int (nI (fpN B x))), (4, .int (nI (1024 * fN))), (0, .ref hm), (1, .int (nI fN)), (2, .long x)]) hx hb d_M_addPrint_266 hl (k := 0) rfl (nI_1 _) (by decide) rfl (fun ls hl => ?_)
                    refine lv_goto (tgt := 242) hx hb d_M_addPrint_269 (by decide) ?_
                    exact ih_242 (i3 + 1) (by omega) H locs hP hD hS ls (lv_sub hl [0, 1, 2, 3, 4, 5, 6, 7, 8, 9, 10, 11, 12] rfl)
                rw [← stO_z ce (1024 * fN) (va_up (va_up F (4 * av + i % 4) g) j (g0 (4 * av + i % 4)))] at hP hD
                exact loop_242 ((4 * 2 ^ A)) (0) (by omega) H locs hP hD hS ls (lv_sub hl [0, 1, 2, 3, 4, 5, 6, 7, 8, 9, 10, 11, 12] rfl)
          rw [← hpu0] at hP hD
          exact loop_150 (64) (0) ((obN A (fbN A x) (fpN B x))) ((fpN B x)) (cpT ce (1024 * fN) tr i0) ((vw ce (1024 * fN))) (by omega) (hob) (fpN_lt hB4 hB x) (hs) (fun j hj => by unfold cpT; rw [if_pos (by omega)]; rfl) (fun j hj => rfl) (rfl) H locs hP hD hS ls (lv_sub hl [0, 1, 2, 4, 5, 6, 7, 8, 9] rfl)
        | succ k ih_113 =>
          intro i0 hk113 H locs hP hD hS ls hl
          refine lv_iload hx hb d_M_addPrint_113 (lv_at hl 0 rfl) ?_
          refine lv_iload hx hb d_M_addPrint_115 (lv_at hl 1 rfl) ?_
          refine lv_icmp_ge (tgt := 143) hx hb d_M_addPrint_117 (by decide) (fun c_117 => absurd c_117 (nI_ge (by omega) (by omega))) (fun c_117 => ?_)
          refine lv_aload_n hx hb d_M_addPrint_120 rfl (lv_at hl 6 rfl) ?_
          refine va_get (D := D) (ci := 4) (v := .ref a8) (C := R_M) (T := T_M) (N := 12) hx hb (us_M G hW) (fun _ h => h) hown hK hP 0 rfl rfl 8 (by decide) (fl_M_31 G hW) (fun _ h9 => h9) rfl d_M_addPrint_121 ?_
          refine lv_iload hx hb d_M_addPrint_124 (lv_at hl 0 rfl) ?_
          refine lv_aload_n hx hb d_M_addPrint_126 rfl (lv_at hl 6 rfl) ?_
          refine va_get (D := D) (ci := 4) (v := .ref a6) (C := R_M) (T := T_M) (N := 12) hx hb (us_M G hW) (fun _ h => h) hown hK hP 0 rfl rfl 6 (by decide) (fl_M_25 G hW) (fun _ h9 => h9) rfl d_M_addPrint_127 ?_
          refine lv_iload hx hb d_M_addPrint_130 (lv_at hl 5 rfl) ?_
          refine lv_iload hx hb d_M_addPrint_132 (lv_at hl 0 rfl) ?_
          refine lv_iadd hx hb d_M_addPrint_134 ?_
          refine tp_i (y := (nI ((1024 * fN) + i0))) (nI_add _ _) ?_
          refine ia_ld hx hb hK hP 6 (j := ((1024 * fN) + i0)) rfl (by omega) (by decide) d_M_addPrint_135 ?_
          refine tp_i (y := (nI (ce ((1024 * fN) + i0)))) rfl ?_
          refine ia_stN hx hb hK hP hD hS 8 (j := i0) (x := (ce ((1024 * fN) + i0))) (f := (cpT ce (1024 * fN) tr i0)) rfl (by omega) (by decide) d_M_addPrint_136 (fun H locs hP hD hS => ?_)
          have hP : va_P D vcl [(hm, .inr (4, [.int th, .ref a1, .ref a2, .ref a3, .ref a4, .ref a5, .ref a6, .ref a7, .ref a8, .ref a9, .ref a10, .ref a11])), (a1, aN cI 4 ki), (a2, aN cI 4 ka), (a3, aN cI 4 kb), (a4, aI cI 4 zs), (a5, aI cI 4 pu), (a6, aN cI 4096 ce), (a7, aN cI 1024 pa), (a8, aN cI 1024 (va_up (cpT ce (1024 * fN) tr i0) i0 (ce ((1024 * fN) + i0)))), (a9, aI cI 256 so), (a10, aN cI 6 pl), (a11, aN cI 6 ot)] H := hP
          have hD : va_D (Aa [hm, a1, a2, a3, a4, a5, a6, a7, a8, a9, a10, a11] H0.size) [(hm, .inr (4, [.int th, .ref a1, .ref a2, .ref a3, .ref a4, .ref a5, .ref a6, .ref a7, .ref a8, .ref a9, .ref a10, .ref a11])), (a1, aN cI 4 ki), (a2, aN cI 4 ka), (a3, aN cI 4 kb), (a4, aI cI 4 zs), (a5, aI cI 4 pu), (a6, aN cI 4096 ce), (a7, aN cI 1024 pa), (a8, aN cI 1024 (va_up (cpT ce (1024 * fN) tr i0) i0 (ce ((1024 * fN) + i0)))), (a9, aI cI 256 so), (a10, aN cI 6 pl), (a11, aN cI 6 ot)] := hD
          rw [cpT_s] at hP hD
          refine lv_iinc (v := (nI (i0 + 1))) (lv' := [(9, .int (nI (i0 + 1))), (8, .int (nI (4 * 2 ^ A))), (7, .int (oI (fnd ce 0 ((1024 * fN) + 4 * (obN A (fbN A x) (fpN B x))) 4))), (6, .int (nI (obN A (fbN A x) (fpN B x)))), (5, .int (nI (fpN B x))), (4, .int (nI (1024 * fN))), (0, .ref hm), (1, .int (nI fN)), (2, .long x)]) hx hb d_M_addPrint_137 hl (k := 0) rfl (nI_1 _) (by decide) rfl (fun ls hl => ?_)
          refine lv_goto (tgt := 113) hx hb d_M_addPrint_140 (by decide) ?_
          exact ih_113 (i0 + 1) (by omega) H locs hP hD hS ls (lv_sub hl [0, 1, 2, 3, 4, 5, 6, 7, 8] rfl)
      rw [← cpT_0 ce (1024 * fN) tr] at hP hD
      exact loop_113 ((4 * 2 ^ A)) (0) (by omega) H0 [] hP hD hS ls (lv_sub hl [0, 1, 2, 3, 4, 5, 6, 7, 8] rfl)
    · obtain ⟨j, hj⟩ : ∃ j, fnd (vw ce (1024 * fN)) 0 (4 * (obN A (fbN A x) (fpN B x))) 4 = some j := by cases e9 : fnd ce 0 ((1024 * fN) + 4 * (obN A (fbN A x) (fpN B x))) 4 with | none => exact absurd ((oI_lt (fun j hj => by have := fnd_in hj; have := fbN_lt A x; have := obN_lt (fbN_lt A x) (fpN B x); omega)).mpr e9) c_86 | some j => (rw [fnd_vw] at e9; obtain ⟨i, hi, -⟩ := map_some e9; exact ⟨i, hi⟩)
      have hj2 := fnd_in hj
      have hfj : fnd ce 0 ((1024 * fN) + 4 * (obN A (fbN A x) (fpN B x))) 4 = some ((1024 * fN) + j) := by rw [fnd_vw, hj]; rfl
      rw [hfj] at hl
      have hl : lv_has ls 14 [(7, .int (nI ((1024 * fN) + j))), (6, .int (nI (obN A (fbN A x) (fpN B x)))), (5, .int (nI (fpN B x))), (4, .int (nI (1024 * fN))), (0, .ref hm), (1, .int (nI fN)), (2, .long x)] := hl
      refine lv_aload_n hx hb d_M_addPrint_89 rfl (lv_at hl 4 rfl) ?_
      refine va_get (D := D) (ci := 4) (v := .ref a6) (C := R_M) (T := T_M) (N := 12) hx hb (us_M G hW) (fun _ h => h) hown hK hP 0 rfl rfl 6 (by decide) (fl_M_25 G hW) (fun _ h9 => h9) rfl d_M_addPrint_90 ?_
      refine lv_iload hx hb d_M_addPrint_93 (lv_at hl 0 rfl) ?_
      refine lv_iload hx hb d_M_addPrint_95 (lv_at hl 2 rfl) ?_
      refine ia_stN hx hb hK hP hD hS 6 (j := ((1024 * fN) + j)) (x := (fpN B x)) (f := ce) rfl (by omega) (by decide) d_M_addPrint_97 (fun H locs hP hD hS => ?_)
      have hP : va_P D vcl [(hm, .inr (4, [.int th, .ref a1, .ref a2, .ref a3, .ref a4, .ref a5, .ref a6, .ref a7, .ref a8, .ref a9, .ref a10, .ref a11])), (a1, aN cI 4 ki), (a2, aN cI 4 ka), (a3, aN cI 4 kb), (a4, aI cI 4 zs), (a5, aI cI 4 pu), (a6, aN cI 4096 (va_up ce ((1024 * fN) + j) (fpN B x))), (a7, aN cI 1024 pa), (a8, aN cI 1024 tr), (a9, aI cI 256 so), (a10, aN cI 6 pl), (a11, aN cI 6 ot)] H := hP
      have hD : va_D (Aa [hm, a1, a2, a3, a4, a5, a6, a7, a8, a9, a10, a11] H0.size) [(hm, .inr (4, [.int th, .ref a1, .ref a2, .ref a3, .ref a4, .ref a5, .ref a6, .ref a7, .ref a8, .ref a9, .ref a10, .ref a11])), (a1, aN cI 4 ki), (a2, aN cI 4 ka), (a3, aN cI 4 kb), (a4, aI cI 4 zs), (a5, aI cI 4 pu), (a6, aN cI 4096 (va_up ce ((1024 * fN) + j) (fpN B x))), (a7, aN cI 1024 pa), (a8, aN cI 1024 tr), (a9, aI cI 256 so), (a10, aN cI 6 pl), (a11, aN cI 6 ot)] := hD
      refine lv_iconst (v := (nI 1)) hx hb d_M_addPrint_98 (by decide) ?_
      exact mx_zret hx hb hr hlk d_M_addPrint_99 (Nat.le_of_ble_eq_true rfl) (Nat.le_of_ble_eq_true rfl) hS.2.2 (rfl) (⟨by rw [putB_2 hn1 hj]; rfl, tr, by rw [putB_2 hn1 hj]; show va_P D vcl [(hm, .inr (4, [.int th, .ref a1, .ref a2, .ref a3, .ref a4, .ref a5, .ref a6, .ref a7, .ref a8, .ref a9, .ref a10, .ref a11])), (a1, aN cI 4 ki), (a2, aN cI 4 ka), (a3, aN cI 4 kb), (a4, aI cI 4 zs), (a5, aI cI 4 (upd pu fN (pu fN + nI 0))), (a6, aN cI 4096 (stO 1024 ce (1024 * fN) (va_up (vw ce (1024 * fN)) j (fpN B x)))), (a7, aN cI 1024 pa), (a8, aN cI 1024 tr), (a9, aI cI 256 so), (a10, aN cI 6 pl), (a11, aN cI 6 ot)] H; rw [hpu0, ← stO_up (show j < 1024 by omega), stO_self]; exact hP⟩)
  · obtain ⟨j, hj⟩ : ∃ j, fnd (vw ce (1024 * fN)) 0 (4 * (fbN A x)) 4 = some j := by cases e9 : fnd ce 0 ((1024 * fN) + 4 * (fbN A x)) 4 with | none => exact absurd ((oI_lt (fun j hj => by have := fnd_in hj; have := fbN_lt A x; have := obN_lt (fbN_lt A x) (fpN B x); omega)).mpr e9) c_40 | some j => (rw [fnd_vw] at e9; obtain ⟨i, hi, -⟩ := map_some e9; exact ⟨i, hi⟩)
    have hj2 := fnd_in hj
    have hb1 := fbN_lt A x
    have hfj : fnd ce 0 ((1024 * fN) + 4 * (fbN A x)) 4 = some ((1024 * fN) + j) := by rw [fnd_vw, hj]; rfl
    rw [hfj] at hl
    have hl : lv_has ls 14 [(7, .int (nI ((1024 * fN) + j))), (6, .int (nI (fbN A x))), (5, .int (nI (fpN B x))), (4, .int (nI (1024 * fN))), (0, .ref hm), (1, .int (nI fN)), (2, .long x)] := hl
    refine lv_iload hx hb d_M_addPrint_43 (lv_at hl 1 rfl) ?_
    refine lv_goto (tgt := 57) hx hb d_M_addPrint_45 (by decide) ?_
    refine lv_istore (lv' := [(6, .int (nI (fbN A x))), (7, .int (nI ((1024 * fN) + j))), (5, .int (nI (fpN B x))), (4, .int (nI (1024 * fN))), (0, .ref hm), (1, .int (nI fN)), (2, .long x)]) hx hb d_M_addPrint_57 hl (by decide) rfl (fun ls hl => ?_)
    refine lv_iload hx hb d_M_addPrint_59 (lv_at hl 1 rfl) ?_
    refine lv_if_lt (tgt := 69) hx hb d_M_addPrint_61 (by decide) (fun c_61 => absurd c_61 (nI_pos (by omega))) (fun c_61 => ?_)
    refine lv_iload hx hb d_M_addPrint_64 (lv_at hl 1 rfl) ?_
    refine lv_goto (tgt := 82) hx hb d_M_addPrint_66 (by decide) ?_
    refine lv_istore (lv' := [(7, .int (nI ((1024 * fN) + j))), (6, .int (nI (fbN A x))), (5, .int (nI (fpN B x))), (4, .int (nI (1024 * fN))), (0, .ref hm), (1, .int (nI fN)), (2, .long x)]) hx hb d_M_addPrint_82 hl (by decide) rfl (fun ls hl => ?_)
    refine lv_iload hx hb d_M_addPrint_84 (lv_at hl 0 rfl) ?_
    refine lv_if_lt (tgt := 100) hx hb d_M_addPrint_86 (by decide) (fun c_86 => absurd c_86 (nI_pos (by omega))) (fun c_86 => ?_)
    refine lv_aload_n hx hb d_M_addPrint_89 rfl (lv_at hl 4 rfl) ?_
    refine va_get (D := D) (ci := 4) (v := .ref a6) (C := R_M) (T := T_M) (N := 12) hx hb (us_M G hW) (fun _ h => h) hown hK hP 0 rfl rfl 6 (by decide) (fl_M_25 G hW) (fun _ h9 => h9) rfl d_M_addPrint_90 ?_
    refine lv_iload hx hb d_M_addPrint_93 (lv_at hl 0 rfl) ?_
    refine lv_iload hx hb d_M_addPrint_95 (lv_at hl 2 rfl) ?_
    refine ia_stN hx hb hK hP hD hS 6 (j := ((1024 * fN) + j)) (x := (fpN B x)) (f := ce) rfl (by omega) (by decide) d_M_addPrint_97 (fun H locs hP hD hS => ?_)
    have hP : va_P D vcl [(hm, .inr (4, [.int th, .ref a1, .ref a2, .ref a3, .ref a4, .ref a5, .ref a6, .ref a7, .ref a8, .ref a9, .ref a10, .ref a11])), (a1, aN cI 4 ki), (a2, aN cI 4 ka), (a3, aN cI 4 kb), (a4, aI cI 4 zs), (a5, aI cI 4 pu), (a6, aN cI 4096 (va_up ce ((1024 * fN) + j) (fpN B x))), (a7, aN cI 1024 pa), (a8, aN cI 1024 tr), (a9, aI cI 256 so), (a10, aN cI 6 pl), (a11, aN cI 6 ot)] H := hP
    have hD : va_D (Aa [hm, a1, a2, a3, a4, a5, a6, a7, a8, a9, a10, a11] H0.size) [(hm, .inr (4, [.int th, .ref a1, .ref a2, .ref a3, .ref a4, .ref a5, .ref a6, .ref a7, .ref a8, .ref a9, .ref a10, .ref a11])), (a1, aN cI 4 ki), (a2, aN cI 4 ka), (a3, aN cI 4 kb), (a4, aI cI 4 zs), (a5, aI cI 4 pu), (a6, aN cI 4096 (va_up ce ((1024 * fN) + j) (fpN B x))), (a7, aN cI 1024 pa), (a8, aN cI 1024 tr), (a9, aI cI 256 so), (a10, aN cI 6 pl), (a11, aN cI 6 ot)] := hD
    refine lv_iconst (v := (nI 1)) hx hb d_M_addPrint_98 (by decide) ?_
    exact mx_zret hx hb hr hlk d_M_addPrint_99 (Nat.le_of_ble_eq_true rfl) (Nat.le_of_ble_eq_true rfl) hS.2.2 (rfl) (⟨by rw [putB_1 hj]; rfl, tr, by rw [putB_1 hj]; show va_P D vcl [(hm, .inr (4, [.int th, .ref a1, .ref a2, .ref a3, .ref a4, .ref a5, .ref a6, .ref a7, .ref a8, .ref a9, .ref a10, .ref a11])), (a1, aN cI 4 ki), (a2, aN cI 4 ka), (a3, aN cI 4 kb), (a4, aI cI 4 zs), (a5, aI cI 4 (upd pu fN (pu fN + nI 0))), (a6, aN cI 4096 (stO 1024 ce (1024 * fN) (va_up (vw ce (1024 * fN)) j (fpN B x)))), (a7, aN cI 1024 pa), (a8, aN cI 1024 tr), (a9, aI cI 256 so), (a10, aN cI 6 pl), (a11, aN cI 6 ot)] H; rw [hpu0, ← stO_up (show j < 1024 by omega), stO_self]; exact hP⟩)
