set_option maxHeartbeats 4000000 in
set_option maxRecDepth 100000 in
theorem c_R_acceptPairs_o {l : Launch} {s0 : State} {D : va_G} {cI cF cJ : ClassId} (G : Gx l s0 D cI cF cJ) (h h1 h2 A B n : Nat) (f : Nat → Nat) (g : Nat → Int32) (k0 k1 k2 A2 B2 n2 : Nat) (g2 : Nat → Nat) {H0 : Heap} {A0 : Nat → Prop} (hP : va_P D vcl [(h, .inr (2, [.int (nI A), .int (nI B), .int (nI n), .ref h1, .ref h2])), (h1, aN cI 256 f), (h2, aI cI 256 g), (k0, .inr (2, [.int (nI A2), .int (nI B2), .int (nI n2), .ref k1, .ref k2])), (k1, aN cI 256 g2)] H0) (hD : va_D A0 [(h, .inr (2, [.int (nI A), .int (nI B), .int (nI n), .ref h1, .ref h2])), (h1, aN cI 256 f), (h2, aI cI 256 g), (k0, .inr (2, [.int (nI A2), .int (nI B2), .int (nI n2), .ref k1, .ref k2])), (k1, aN cI 256 g2)]) (hA : A ≤ 8) (hn : n ≤ 256) (hf : ∀ i, i < n → f i < 2 ^ 28) (hn2 : n2 ≤ 256) (hg2 : ∀ i, i < n2 → g2 i < 2 ^ 28) : Mx l s0 y_R_acceptPairs (.code y_R_acceptPairs b_R_acceptPairs 6 (some .boolean)) { frames := 1, cells := 0, slots := 0, locals := 20 } [.ref h, .ref k0] H0 (Aa [h, h1, h2, k0, k1] H0.size) (Rw (.int (bI (decide (n + n2 ≤ 2 ^ A)))) (fun H1 => va_P D vcl [(h, .inr (2, [.int (nI A), .int (nI B), .int (nI (if (n + n2 ≤ 2 ^ A) then (n + n2) else n)), .ref h1, .ref h2])), (h1, aN cI 256 (if (n + n2 ≤ 2 ^ A) then (mrg g2 (n + n2) n n2 f) else f)), (h2, aI cI 256 g), (k0, .inr (2, [.int (nI A2), .int (nI B2), .int (nI n2), .ref k1, .ref k2])), (k1, aN cI 256 g2)] H1)) := by
  refine Mx.ofW (own := "FewBits$Runs") rfl rfl ?_
  rintro p e s m below meth c ⟨hx, hb, hml, hr, hown, hW, hlk⟩ hnm het hH
  have hK := G.k hW
  have hD := hD.aa (sz := H0.size)
  have hD : va_D (Aa [h, h1, h2, k0, k1] H0.size) [(h, .inr (2, [.int (nI A), .int (nI B), .int (nI n), .ref h1, .ref h2])), (h1, aN cI 256 f), (h2, aI cI 256 g), (k0, .inr (2, [.int (nI A2), .int (nI B2), .int (nI n2), .ref k1, .ref k2])), (k1, aN cI 256 g2)] := hD
  have hS : va_S (Aa [h, h1, h2, k0, k1] H0.size) H0 H0 [] := va_S.rf
  have h8 := p2_le hA
  have hl := lv_entry ([.ref h, .ref k0]) (n := 6) (Nat.le_of_ble_eq_true rfl)
  rw [lg_entry_eq]
  generalize (lg_sl ([.ref h, .ref k0]) ++ List.replicate (6 - (lg_sl ([.ref h, .ref k0])).length) Slot.unset).toArray = ls at hl ⊢
  have hl : lv_has ls 6 [(0, .ref h), (1, .ref k0)] := hl
  refine lv_aload_n hx hb d_R_acceptPairs_0 rfl (lv_at hl 0 rfl) ?_
  refine va_get (D := D) (ci := 2) (v := .int (nI n)) (C := R_R) (T := T_R) (N := 5) hx hb (us_R G hW) (fun _ h => h) hown hK hP 0 rfl rfl 2 (by decide) (fl_R_18 G hW) (u_same (args := ([.ref h, .ref k0] : List Value).toArray) (G.1.at 187 rfl rfl _ hW)) rfl d_R_acceptPairs_1 ?_
  refine lv_iconst (v := (nI 1)) hx hb d_R_acceptPairs_4 (by decide) ?_
  refine lv_isub hx hb d_R_acceptPairs_5 ?_
  refine lv_istore_n (lv' := [(2, .int ((nI n) - (nI 1))), (0, .ref h), (1, .ref k0)]) hx hb d_R_acceptPairs_6 rfl hl (by decide) rfl (fun ls hl => ?_)
  refine lv_aload_n hx hb d_R_acceptPairs_7 rfl (lv_at hl 2 rfl) ?_
  refine va_get (D := D) (ci := 2) (v := .int (nI n2)) (C := R_R) (T := T_R) (N := 5) hx hb (us_R G hW) (fun _ h => h) hown hK hP 3 rfl rfl 2 (by decide) (fl_R_18 G hW) (u_same (args := ([.ref h, .ref k0] : List Value).toArray) (G.1.at 187 rfl rfl _ hW)) rfl d_R_acceptPairs_8 ?_
  refine lv_iconst (v := (nI 1)) hx hb d_R_acceptPairs_11 (by decide) ?_
  refine lv_isub hx hb d_R_acceptPairs_12 ?_
  refine lv_istore_n (lv' := [(3, .int ((nI n2) - (nI 1))), (2, .int ((nI n) - (nI 1))), (0, .ref h), (1, .ref k0)]) hx hb d_R_acceptPairs_13 rfl hl (by decide) rfl (fun ls hl => ?_)
  refine lv_aload_n hx hb d_R_acceptPairs_14 rfl (lv_at hl 2 rfl) ?_
  refine va_get (D := D) (ci := 2) (v := .int (nI n)) (C := R_R) (T := T_R) (N := 5) hx hb (us_R G hW) (fun _ h => h) hown hK hP 0 rfl rfl 2 (by decide) (fl_R_18 G hW) (u_same (args := ([.ref h, .ref k0] : List Value).toArray) (G.1.at 187 rfl rfl _ hW)) rfl d_R_acceptPairs_15 ?_
  refine lv_aload_n hx hb d_R_acceptPairs_18 rfl (lv_at hl 3 rfl) ?_
  refine va_get (D := D) (ci := 2) (v := .int (nI n2)) (C := R_R) (T := T_R) (N := 5) hx hb (us_R G hW) (fun _ h => h) hown hK hP 3 rfl rfl 2 (by decide) (fl_R_18 G hW) (u_same (args := ([.ref h, .ref k0] : List Value).toArray) (G.1.at 187 rfl rfl _ hW)) rfl d_R_acceptPairs_19 ?_
  refine lv_iadd hx hb d_R_acceptPairs_22 ?_
  refine tp_i (y := (nI (n + n2))) (nI_add _ _) ?_
  refine lv_istore (lv' := [(4, .int (nI (n + n2))), (3, .int ((nI n2) - (nI 1))), (2, .int ((nI n) - (nI 1))), (0, .ref h), (1, .ref k0)]) hx hb d_R_acceptPairs_23 hl (by decide) rfl (fun ls hl => ?_)
  refine lv_iload hx hb d_R_acceptPairs_25 (lv_at hl 0 rfl) ?_
  refine lv_aload_n hx hb d_R_acceptPairs_27 rfl (lv_at hl 3 rfl) ?_
  refine mx_callR (r := .int (nI (2 ^ A))) (c_P_power_R G h h1 h2 A B n f g (hP.sub [0, 1, 2] rfl) hA) hW (iv_R_acceptPairs_28 G hx hb hown hW (va_recv hK hP (ci := 2) (q0 := 0) rfl rfl) [] [.int (nI (n + n2))] rfl) hml hl.1 (by rw [hb]; exact d_R_acceptPairs_28) (cd_P_power G hW) ⟨Nat.le_of_ble_eq_true rfl, Nat.le_of_ble_eq_true rfl⟩ rfl rfl (Nat.le_of_ble_eq_true rfl) (Nat.le_of_ble_eq_true rfl) (Nat.le_of_ble_eq_true rfl) ?_
  refine lv_icmp_le (tgt := 36) hx hb d_R_acceptPairs_31 (by decide) (fun c_31 => ?_) (fun c_31 => ?_)
  · have hok : (n + n2 ≤ 2 ^ A) := (nI_leI (by omega) (by omega)).mp c_31
    refine lv_iload hx hb d_R_acceptPairs_36 (lv_at hl 0 rfl) ?_
    refine lv_iconst (v := (nI 1)) hx hb d_R_acceptPairs_38 (by decide) ?_
    refine lv_isub hx hb d_R_acceptPairs_39 ?_
    refine lv_istore (lv' := [(5, .int ((nI (n + n2)) - (nI 1))), (4, .int (nI (n + n2))), (3, .int ((nI n2) - (nI 1))), (2, .int ((nI n) - (nI 1))), (0, .ref h), (1, .ref k0)]) hx hb d_R_acceptPairs_40 hl (by decide) rfl (fun ls hl => ?_)
    have loop_42 : ∀ (k : Nat) (m1 : Nat) (t1 : Nat) (F : Nat → Nat), (m1 + t1 = k) → (k ≤ 2 ^ A) → (m1 ≤ n) → (t1 ≤ n2) → (∀ i, i < m1 → F i = f i) → ((mrg g2 (n + n2) n n2 f) = mrg g2 k m1 t1 F) → ∀ (H : Heap) (locs : List Loc), va_P D vcl [(h, .inr (2, [.int (nI A), .int (nI B), .int (nI n), .ref h1, .ref h2])), (h1, aN cI 256 F), (h2, aI cI 256 g), (k0, .inr (2, [.int (nI A2), .int (nI B2), .int (nI n2), .ref k1, .ref k2])), (k1, aN cI 256 g2)] H → va_D (Aa [h, h1, h2, k0, k1] H0.size) [(h, .inr (2, [.int (nI A), .int (nI B), .int (nI n), .ref h1, .ref h2])), (h1, aN cI 256 F), (h2, aI cI 256 g), (k0, .inr (2, [.int (nI A2), .int (nI B2), .int (nI n2), .ref k1, .ref k2])), (k1, aN cI 256 g2)] → va_S (Aa [h, h1, h2, k0, k1] H0.size) H0 H locs → ∀ (ls : Array Slot), lv_has ls 6 [(5, .int (nI (m1 + t1) - nI 1)), (4, .int (nI (n + n2))), (3, .int (nI t1 - nI 1)), (2, .int (nI m1 - nI 1)), (0, .ref h), (1, .ref k0)] → W p l e { frames := 1, cells := 0, slots := 0, locals := 20 } s m ([.ref h, .ref k0] : List Value).toArray below meth c H locs 0 0 (MQx below (Rw (.int (bI (decide (n + n2 ≤ 2 ^ A)))) (fun H1 => va_P D vcl [(h, .inr (2, [.int (nI A), .int (nI B), .int (nI (if (n + n2 ≤ 2 ^ A) then (n + n2) else n)), .ref h1, .ref h2])), (h1, aN cI 256 (if (n + n2 ≤ 2 ^ A) then (mrg g2 (n + n2) n n2 f) else f)), (h2, aI cI 256 g), (k0, .inr (2, [.int (nI A2), .int (nI B2), .int (nI n2), .ref k1, .ref k2])), (k1, aN cI 256 g2)] H1)) s 0 0 (Aa [h, h1, h2, k0, k1] H0.size)) (F0 m 42 ls []) := by
      intro k
      induction k with
      | zero =>
        intro m1 t1 F hk hk5 hm htt hFm hmr H locs hP hD hS ls hl
        obtain rfl : m1 = 0 := by omega
        obtain rfl : t1 = 0 := by omega
        refine lv_iload hx hb d_R_acceptPairs_42 (lv_at hl 0 rfl) ?_
        refine lv_if_lt (tgt := 111) hx hb d_R_acceptPairs_44 (by decide) (fun c_44 => ?_) (fun c_44 => absurd (by decide) c_44)
        refine lv_aload_n hx hb d_R_acceptPairs_111 rfl (lv_at hl 4 rfl) ?_
        refine lv_iload hx hb d_R_acceptPairs_112 (lv_at hl 1 rfl) ?_
        refine va_put (D := D) (ci := 2) (v := .int (nI (n + n2))) (ty := .int) (C := R_R) (T := T_R) (N := 5) hx hb (us_R G hW) (fun _ h => h) t_R to_R nm_R hown hK hP hD hS 0 rfl rfl 2 (by decide) (fl_R_18 G hW) (u_same (args := ([.ref h, .ref k0] : List Value).toArray) (G.1.at 187 rfl rfl _ hW)) rfl (by decide +kernel) rfl rfl (Nat.le_of_ble_eq_true rfl) d_R_acceptPairs_114 (fun H locs hP hD hS => ?_)
        have hP : va_P D vcl [(h, .inr (2, [.int (nI A), .int (nI B), .int (nI (n + n2)), .ref h1, .ref h2])), (h1, aN cI 256 F), (h2, aI cI 256 g), (k0, .inr (2, [.int (nI A2), .int (nI B2), .int (nI n2), .ref k1, .ref k2])), (k1, aN cI 256 g2)] H := hP
        have hD : va_D (Aa [h, h1, h2, k0, k1] H0.size) [(h, .inr (2, [.int (nI A), .int (nI B), .int (nI (n + n2)), .ref h1, .ref h2])), (h1, aN cI 256 F), (h2, aI cI 256 g), (k0, .inr (2, [.int (nI A2), .int (nI B2), .int (nI n2), .ref k1, .ref k2])), (k1, aN cI 256 g2)] := hD
        refine lv_iconst (v := (nI 1)) hx hb d_R_acceptPairs_117 (by decide) ?_
        exact mx_zret hx hb hr hlk d_R_acceptPairs_118 (Nat.le_of_ble_eq_true rfl) (Nat.le_of_ble_eq_true rfl) hS.2.2 (rfl) (⟨by rw [decide_eq_true hok]; rfl, by rw [if_pos hok, if_pos hok, hmr, mrg_0]; exact hP⟩)
      | succ k ih_42 =>
        intro m1 t1 F hk hk5 hm htt hFm hmr H locs hP hD hS ls hl
        rw [show nI (m1 + t1) - nI 1 = nI k by rw [hk]; exact pk_sub (by omega)] at hl
        have hl : lv_has ls 6 [(5, .int (nI k)), (4, .int (nI (n + n2))), (3, .int (nI t1 - nI 1)), (2, .int (nI m1 - nI 1)), (0, .ref h), (1, .ref k0)] := hl
        refine lv_iload hx hb d_R_acceptPairs_42 (lv_at hl 0 rfl) ?_
        refine lv_if_lt (tgt := 111) hx hb d_R_acceptPairs_44 (by decide) (fun c_44 => absurd c_44 (nI_pos (by omega))) (fun c_44 => ?_)
        refine lv_iload_n hx hb d_R_acceptPairs_47 rfl (lv_at hl 2 rfl) ?_
        refine lv_if_lt (tgt := 111) hx hb d_R_acceptPairs_48 (by decide) (fun c_48 => ?_) (fun c_48 => ?_)
        · obtain rfl : t1 = 0 := (neg1 (by omega)).mp c_48
          refine lv_aload_n hx hb d_R_acceptPairs_111 rfl (lv_at hl 4 rfl) ?_
          refine lv_iload hx hb d_R_acceptPairs_112 (lv_at hl 1 rfl) ?_
          refine va_put (D := D) (ci := 2) (v := .int (nI (n + n2))) (ty := .int) (C := R_R) (T := T_R) (N := 5) hx hb (us_R G hW) (fun _ h => h) t_R to_R nm_R hown hK hP hD hS 0 rfl rfl 2 (by decide) (fl_R_18 G hW) (u_same (args := ([.ref h, .ref k0] : List Value).toArray) (G.1.at 187 rfl rfl _ hW)) rfl (by decide +kernel) rfl rfl (Nat.le_of_ble_eq_true rfl) d_R_acceptPairs_114 (fun H locs hP hD hS => ?_)
          have hP : va_P D vcl [(h, .inr (2, [.int (nI A), .int (nI B), .int (nI (n + n2)), .ref h1, .ref h2])), (h1, aN cI 256 F), (h2, aI cI 256 g), (k0, .inr (2, [.int (nI A2), .int (nI B2), .int (nI n2), .ref k1, .ref k2])), (k1, aN cI 256 g2)] H := hP
          have hD : va_D (Aa [h, h1, h2, k0, k1] H0.size) [(h, .inr (2, [.int (nI A), .int (nI B), .int (nI (n + n2)), .ref h1, .ref h2])), (h1, aN cI 256 F), (h2, aI cI 256 g), (k0, .inr (2, [.int (nI A2), .int (nI B2), .int (nI n2), .ref k1, .ref k2])), (k1, aN cI 256 g2)] := hD
          refine lv_iconst (v := (nI 1)) hx hb d_R_acceptPairs_117 (by decide) ?_
          exact mx_zret hx hb hr hlk d_R_acceptPairs_118 (Nat.le_of_ble_eq_true rfl) (Nat.le_of_ble_eq_true rfl) hS.2.2 (rfl) (⟨by rw [decide_eq_true hok]; rfl, by rw [if_pos hok, if_pos hok, hmr, mrg_0]; exact hP⟩)
        · have ht0 : ¬ t1 = 0 := fun h9 => c_48 ((neg1 (by omega)).mpr h9)
          rw [pk_sub (show 1 ≤ t1 by omega)] at hl
          have hl : lv_has ls 6 [(5, .int (nI k)), (4, .int (nI (n + n2))), (3, .int (nI (t1 - 1))), (2, .int (nI m1 - nI 1)), (0, .ref h), (1, .ref k0)] := hl
          refine lv_iload_n hx hb d_R_acceptPairs_51 rfl (lv_at hl 3 rfl) ?_
          refine lv_if_lt (tgt := 89) hx hb d_R_acceptPairs_52 (by decide) (fun c_52 => ?_) (fun c_52 => ?_)
          · have hng : ¬ (0 < m1 ∧ g2 (t1 - 1) < F (m1 - 1)) := fun h9 => absurd ((neg1 (by omega)).mp c_52) (by omega)
            refine lv_aload_n hx hb d_R_acceptPairs_89 rfl (lv_at hl 4 rfl) ?_
            refine va_get (D := D) (ci := 2) (v := .ref h1) (C := R_R) (T := T_R) (N := 5) hx hb (us_R G hW) (fun _ h => h) hown hK hP 0 rfl rfl 3 (by decide) (fl_R_11 G hW) (fun _ h9 => h9) rfl d_R_acceptPairs_90 ?_
            refine lv_iload hx hb d_R_acceptPairs_93 (lv_at hl 0 rfl) ?_
            refine lv_aload_n hx hb d_R_acceptPairs_95 rfl (lv_at hl 5 rfl) ?_
            refine va_get (D := D) (ci := 2) (v := .ref k1) (C := R_R) (T := T_R) (N := 5) hx hb (us_R G hW) (fun _ h => h) hown hK hP 3 rfl rfl 3 (by decide) (fl_R_11 G hW) (fun _ h9 => h9) rfl d_R_acceptPairs_96 ?_
            refine lv_iload_n hx hb d_R_acceptPairs_99 rfl (lv_at hl 2 rfl) ?_
            refine ia_ld hx hb hK hP 4 (j := (t1 - 1)) rfl (by omega) (by decide) d_R_acceptPairs_100 ?_
            refine tp_i (y := (nI (g2 (t1 - 1)))) rfl ?_
            refine ia_stN hx hb hK hP hD hS 1 (j := k) (x := (g2 (t1 - 1))) (f := F) rfl (by omega) (by decide) d_R_acceptPairs_101 (fun H locs hP hD hS => ?_)
            have hP : va_P D vcl [(h, .inr (2, [.int (nI A), .int (nI B), .int (nI n), .ref h1, .ref h2])), (h1, aN cI 256 (va_up F k (g2 (t1 - 1)))), (h2, aI cI 256 g), (k0, .inr (2, [.int (nI A2), .int (nI B2), .int (nI n2), .ref k1, .ref k2])), (k1, aN cI 256 g2)] H := hP
            have hD : va_D (Aa [h, h1, h2, k0, k1] H0.size) [(h, .inr (2, [.int (nI A), .int (nI B), .int (nI n), .ref h1, .ref h2])), (h1, aN cI 256 (va_up F k (g2 (t1 - 1)))), (h2, aI cI 256 g), (k0, .inr (2, [.int (nI A2), .int (nI B2), .int (nI n2), .ref k1, .ref k2])), (k1, aN cI 256 g2)] := hD
            refine lv_iinc (v := (nI (t1 - 1) - nI 1)) (lv' := [(3, .int (nI (t1 - 1) - nI 1)), (5, .int (nI k)), (4, .int (nI (n + n2))), (2, .int (nI m1 - nI 1)), (0, .ref h), (1, .ref k0)]) hx hb d_R_acceptPairs_102 hl (k := 2) rfl (dec1 _) (by decide) rfl (fun ls hl => ?_)
            refine lv_iinc (v := (nI (m1 + (t1 - 1)) - nI 1)) (lv' := [(5, .int (nI (m1 + (t1 - 1)) - nI 1)), (3, .int (nI (t1 - 1) - nI 1)), (4, .int (nI (n + n2))), (2, .int (nI m1 - nI 1)), (0, .ref h), (1, .ref k0)]) hx hb d_R_acceptPairs_105 hl (k := 1) rfl (by rw [dec1, show m1 + (t1 - 1) = k by omega]) (by decide) rfl (fun ls hl => ?_)
            refine lv_goto (tgt := 42) hx hb d_R_acceptPairs_108 (by decide) ?_
            exact ih_42 (m1) (t1 - 1) (va_up F k (g2 (t1 - 1))) (by omega) (by omega) (hm) (by omega) (fun i hi => (va_up_ne _ _ (by omega)).trans (hFm i hi)) (by rw [hmr, mrg_b ht0 hng]) H locs hP hD hS ls (lv_sub hl [0, 2, 1, 3, 4, 5] rfl)
          · have hm0 : 0 < m1 := Nat.pos_of_ne_zero (fun h9 => c_52 ((neg1 (by omega)).mpr h9))
            rw [pk_sub (show 1 ≤ m1 by omega)] at hl
            have hFv : F (m1 - 1) < 2 ^ 28 := by rw [hFm (m1 - 1) (by omega)]; exact hf _ (by omega)
            have hGv : (g2 (t1 - 1)) < 2 ^ 28 := hg2 _ (by omega)
            have hl : lv_has ls 6 [(5, .int (nI k)), (4, .int (nI (n + n2))), (3, .int (nI (t1 - 1))), (2, .int (nI (m1 - 1))), (0, .ref h), (1, .ref k0)] := hl
            refine lv_aload_n hx hb d_R_acceptPairs_55 rfl (lv_at hl 4 rfl) ?_
            refine va_get (D := D) (ci := 2) (v := .ref h1) (C := R_R) (T := T_R) (N := 5) hx hb (us_R G hW) (fun _ h => h) hown hK hP 0 rfl rfl 3 (by decide) (fl_R_11 G hW) (fun _ h9 => h9) rfl d_R_acceptPairs_56 ?_
            refine lv_iload_n hx hb d_R_acceptPairs_59 rfl (lv_at hl 3 rfl) ?_
            refine ia_ld hx hb hK hP 1 (j := (m1 - 1)) rfl (by omega) (by decide) d_R_acceptPairs_60 ?_
            refine tp_i (y := (nI (F (m1 - 1)))) rfl ?_
            refine lv_aload_n hx hb d_R_acceptPairs_61 rfl (lv_at hl 5 rfl) ?_
            refine va_get (D := D) (ci := 2) (v := .ref k1) (C := R_R) (T := T_R) (N := 5) hx hb (us_R G hW) (fun _ h => h) hown hK hP 3 rfl rfl 3 (by decide) (fl_R_11 G hW) (fun _ h9 => h9) rfl d_R_acceptPairs_62 ?_
            refine lv_iload_n hx hb d_R_acceptPairs_65 rfl (lv_at hl 2 rfl) ?_
            refine ia_ld hx hb hK hP 4 (j := (t1 - 1)) rfl (by omega) (by decide) d_R_acceptPairs_66 ?_
            refine tp_i (y := (nI (g2 (t1 - 1)))) rfl ?_
            refine lv_icmp_le (tgt := 89) hx hb d_R_acceptPairs_67 (by decide) (fun c_67 => ?_) (fun c_67 => ?_)
            · have hng : ¬ (0 < m1 ∧ g2 (t1 - 1) < F (m1 - 1)) := fun h9 => absurd ((nI_leI (by omega) (by omega)).mp c_67) (by have h10 := h9.2; omega)
              refine lv_aload_n hx hb d_R_acceptPairs_89 rfl (lv_at hl 4 rfl) ?_
              refine va_get (D := D) (ci := 2) (v := .ref h1) (C := R_R) (T := T_R) (N := 5) hx hb (us_R G hW) (fun _ h => h) hown hK hP 0 rfl rfl 3 (by decide) (fl_R_11 G hW) (fun _ h9 => h9) rfl d_R_acceptPairs_90 ?_
              refine lv_iload hx hb d_R_acceptPairs_93 (lv_at hl 0 rfl) ?_
              refine lv_aload_n hx hb d_R_acceptPairs_95 rfl (lv_at hl 5 rfl) ?_
              refine va_get (D := D) (ci := 2) (v := .ref k1) (C := R_R) (T := T_R) (N := 5) hx hb (us_R G hW) (fun _ h => h) hown hK hP 3 rfl rfl 3 (by decide) (fl_R_11 G hW) (fun _ h9 => h9) rfl d_R_acceptPairs_96 ?_
              refine lv_iload_n hx hb d_R_acceptPairs_99 rfl (lv_at hl 2 rfl) ?_
              refine ia_ld hx hb hK hP 4 (j := (t1 - 1)) rfl (by omega) (by decide) d_R_acceptPairs_100 ?_
              refine tp_i (y := (nI (g2 (t1 - 1)))) rfl ?_
              refine ia_stN hx hb hK hP hD hS 1 (j := k) (x := (g2 (t1 - 1))) (f := F) rfl (by omega) (by decide) d_R_acceptPairs_101 (fun H locs hP hD hS => ?_)
              have hP : va_P D vcl [(h, .inr (2, [.int (nI A), .int (nI B), .int (nI n), .ref h1, .ref h2])), (h1, aN cI 256 (va_up F k (g2 (t1 - 1)))), (h2, aI cI 256 g), (k0, .inr (2, [.int (nI A2), .int (nI B2), .int (nI n2), .ref k1, .ref k2])), (k1, aN cI 256 g2)] H := hP
              have hD : va_D (Aa [h, h1, h2, k0, k1] H0.size) [(h, .inr (2, [.int (nI A), .int (nI B), .int (nI n), .ref h1, .ref h2])), (h1, aN cI 256 (va_up F k (g2 (t1 - 1)))), (h2, aI cI 256 g), (k0, .inr (2, [.int (nI A2), .int (nI B2), .int (nI n2), .ref k1, .ref k2])), (k1, aN cI 256 g2)] := hD
              refine lv_iinc (v := (nI (t1 - 1) - nI 1)) (lv' := [(3, .int (nI (t1 - 1) - nI 1)), (5, .int (nI k)), (4, .int (nI (n + n2))), (2, .int (nI (m1 - 1))), (0, .ref h), (1, .ref k0)]) hx hb d_R_acceptPairs_102 hl (k := 2) rfl (dec1 _) (by decide) rfl (fun ls hl => ?_)
              refine lv_iinc (v := (nI (m1 + (t1 - 1)) - nI 1)) (lv' := [(5, .int (nI (m1 + (t1 - 1)) - nI 1)), (3, .int (nI (t1 - 1) - nI 1)), (4, .int (nI (n + n2))), (2, .int (nI (m1 - 1))), (0, .ref h), (1, .ref k0)]) hx hb d_R_acceptPairs_105 hl (k := 1) rfl (by rw [dec1, show m1 + (t1 - 1) = k by omega]) (by decide) rfl (fun ls hl => ?_)
              refine lv_goto (tgt := 42) hx hb d_R_acceptPairs_108 (by decide) ?_
              rw [← pk_sub (show 1 ≤ m1 by omega)] at hl
              exact ih_42 (m1) (t1 - 1) (va_up F k (g2 (t1 - 1))) (by omega) (by omega) (hm) (by omega) (fun i hi => (va_up_ne _ _ (by omega)).trans (hFm i hi)) (by rw [hmr, mrg_b ht0 hng]) H locs hP hD hS ls (lv_sub hl [0, 2, 1, 3, 4, 5] rfl)
            · have hgt : g2 (t1 - 1) < F (m1 - 1) := Nat.not_le.mp (fun h9 => c_67 (nI_le h9 (by omega)))
              refine lv_aload_n hx hb d_R_acceptPairs_70 rfl (lv_at hl 4 rfl) ?_
              refine va_get (D := D) (ci := 2) (v := .ref h1) (C := R_R) (T := T_R) (N := 5) hx hb (us_R G hW) (fun _ h => h) hown hK hP 0 rfl rfl 3 (by decide) (fl_R_11 G hW) (fun _ h9 => h9) rfl d_R_acceptPairs_71 ?_
              refine lv_iload hx hb d_R_acceptPairs_74 (lv_at hl 0 rfl) ?_
              refine lv_aload_n hx hb d_R_acceptPairs_76 rfl (lv_at hl 4 rfl) ?_
              refine va_get (D := D) (ci := 2) (v := .ref h1) (C := R_R) (T := T_R) (N := 5) hx hb (us_R G hW) (fun _ h => h) hown hK hP 0 rfl rfl 3 (by decide) (fl_R_11 G hW) (fun _ h9 => h9) rfl d_R_acceptPairs_77 ?_
              refine lv_iload_n hx hb d_R_acceptPairs_80 rfl (lv_at hl 3 rfl) ?_
              refine ia_ld hx hb hK hP 1 (j := (m1 - 1)) rfl (by omega) (by decide) d_R_acceptPairs_81 ?_
              refine tp_i (y := (nI (F (m1 - 1)))) rfl ?_
              refine ia_stN hx hb hK hP hD hS 1 (j := k) (x := (F (m1 - 1))) (f := F) rfl (by omega) (by decide) d_R_acceptPairs_82 (fun H locs hP hD hS => ?_)
              have hP : va_P D vcl [(h, .inr (2, [.int (nI A), .int (nI B), .int (nI n), .ref h1, .ref h2])), (h1, aN cI 256 (va_up F k (F (m1 - 1)))), (h2, aI cI 256 g), (k0, .inr (2, [.int (nI A2), .int (nI B2), .int (nI n2), .ref k1, .ref k2])), (k1, aN cI 256 g2)] H := hP
              have hD : va_D (Aa [h, h1, h2, k0, k1] H0.size) [(h, .inr (2, [.int (nI A), .int (nI B), .int (nI n), .ref h1, .ref h2])), (h1, aN cI 256 (va_up F k (F (m1 - 1)))), (h2, aI cI 256 g), (k0, .inr (2, [.int (nI A2), .int (nI B2), .int (nI n2), .ref k1, .ref k2])), (k1, aN cI 256 g2)] := hD
              refine lv_iinc (v := (nI (m1 - 1) - nI 1)) (lv' := [(2, .int (nI (m1 - 1) - nI 1)), (5, .int (nI k)), (4, .int (nI (n + n2))), (3, .int (nI (t1 - 1))), (0, .ref h), (1, .ref k0)]) hx hb d_R_acceptPairs_83 hl (k := 3) rfl (dec1 _) (by decide) rfl (fun ls hl => ?_)
              refine lv_goto (tgt := 105) hx hb d_R_acceptPairs_86 (by decide) ?_
              refine lv_iinc (v := (nI (m1 - 1 + t1) - nI 1)) (lv' := [(5, .int (nI (m1 - 1 + t1) - nI 1)), (2, .int (nI (m1 - 1) - nI 1)), (4, .int (nI (n + n2))), (3, .int (nI (t1 - 1))), (0, .ref h), (1, .ref k0)]) hx hb d_R_acceptPairs_105 hl (k := 1) rfl (by rw [dec1, show m1 - 1 + t1 = k by omega]) (by decide) rfl (fun ls hl => ?_)
              refine lv_goto (tgt := 42) hx hb d_R_acceptPairs_108 (by decide) ?_
              rw [← pk_sub (show 1 ≤ t1 by omega)] at hl
              exact ih_42 (m1 - 1) (t1) (va_up F k (F (m1 - 1))) (by omega) (by omega) (by omega) (htt) (fun i hi => (va_up_ne _ _ (by omega)).trans (hFm i (by omega))) (by rw [hmr, mrg_a ht0 ⟨hm0, hgt⟩]) H locs hP hD hS ls (lv_sub hl [0, 2, 3, 1, 4, 5] rfl)
    exact loop_42 ((n + n2)) (n) (n2) (f) (rfl) (hok) (Nat.le_refl _) (Nat.le_refl _) (fun i _ => rfl) (rfl) H0 [] hP hD hS ls (lv_sub hl [0, 1, 2, 3, 4, 5] rfl)
  · refine lv_iconst (v := (nI 0)) hx hb d_R_acceptPairs_34 (by decide) ?_
    exact mx_zret hx hb hr hlk d_R_acceptPairs_35 (Nat.le_of_ble_eq_true rfl) (Nat.le_of_ble_eq_true rfl) (fun _ h => nomatch h) (rfl) (⟨by rw [decide_eq_false (fun h9 => c_31 (nI_le h9 (by omega)))]; rfl, by rw [if_neg (fun h9 => c_31 (nI_le h9 (by omega))), if_neg (fun h9 => c_31 (nI_le h9 (by omega)))]; exact hP⟩)

set_option maxHeartbeats 4000000 in
set_option maxRecDepth 100000 in
theorem c_R_acceptPairs_s {l : Launch} {s0 : State} {D : va_G} {cI cF cJ : ClassId} (G : Gx l s0 D cI cF cJ) (h h1 h2 A B n : Nat) (f : Nat → Nat) (g : Nat → Int32) {H0 : Heap} {A0 : Nat → Prop} (hP : va_P D vcl [(h, .inr (2, [.int (nI A), .int (nI B), .int (nI n), .ref h1, .ref h2])), (h1, aN cI 256 f), (h2, aI cI 256 g)] H0) (hD : va_D A0 [(h, .inr (2, [.int (nI A), .int (nI B), .int (nI n), .ref h1, .ref h2])), (h1, aN cI 256 f), (h2, aI cI 256 g)]) (hA : A ≤ 8) (hn : n ≤ 256) (hf : ∀ i, i < n → f i < 2 ^ 28) : Mx l s0 y_R_acceptPairs (.code y_R_acceptPairs b_R_acceptPairs 6 (some .boolean)) { frames := 1, cells := 0, slots := 0, locals := 20 } [.ref h, .ref h] H0 (Aa [h, h1, h2] H0.size) (Rw (.int (bI (decide (n + n ≤ 2 ^ A)))) (fun H1 => va_P D vcl [(h, .inr (2, [.int (nI A), .int (nI B), .int (nI (if (n + n ≤ 2 ^ A) then (n + n) else n)), .ref h1, .ref h2])), (h1, aN cI 256 (if (n + n ≤ 2 ^ A) then (mrg f (n + n) n n f) else f)), (h2, aI cI 256 g)] H1)) := by
  refine Mx.ofW (own := "FewBits$Runs") rfl rfl ?_
  rintro p e s m below meth c ⟨hx, hb, hml, hr, hown, hW, hlk⟩ hnm het hH
  have hK := G.k hW
  have hD := hD.aa (sz := H0.size)
  have hD : va_D (Aa [h, h1, h2] H0.size) [(h, .inr (2, [.int (nI A), .int (nI B), .int (nI n), .ref h1, .ref h2])), (h1, aN cI 256 f), (h2, aI cI 256 g)] := hD
  have hS : va_S (Aa [h, h1, h2] H0.size) H0 H0 [] := va_S.rf
  have h8 := p2_le hA
  have hl := lv_entry ([.ref h, .ref h]) (n := 6) (Nat.le_of_ble_eq_true rfl)
  rw [lg_entry_eq]
  generalize (lg_sl ([.ref h, .ref h]) ++ List.replicate (6 - (lg_sl ([.ref h, .ref h])).length) Slot.unset).toArray = ls at hl ⊢
  have hl : lv_has ls 6 [(0, .ref h), (1, .ref h)] := hl
  refine lv_aload_n hx hb d_R_acceptPairs_0 rfl (lv_at hl 0 rfl) ?_
  refine va_get (D := D) (ci := 2) (v := .int (nI n)) (C := R_R) (T := T_R) (N := 5) hx hb (us_R G hW) (fun _ h => h) hown hK hP 0 rfl rfl 2 (by decide) (fl_R_18 G hW) (u_same (args := ([.ref h, .ref h] : List Value).toArray) (G.1.at 187 rfl rfl _ hW)) rfl d_R_acceptPairs_1 ?_
  refine lv_iconst (v := (nI 1)) hx hb d_R_acceptPairs_4 (by decide) ?_
  refine lv_isub hx hb d_R_acceptPairs_5 ?_
  refine lv_istore_n (lv' := [(2, .int ((nI n) - (nI 1))), (0, .ref h), (1, .ref h)]) hx hb d_R_acceptPairs_6 rfl hl (by decide) rfl (fun ls hl => ?_)
  refine lv_aload_n hx hb d_R_acceptPairs_7 rfl (lv_at hl 2 rfl) ?_
  refine va_get (D := D) (ci := 2) (v := .int (nI n)) (C := R_R) (T := T_R) (N := 5) hx hb (us_R G hW) (fun _ h => h) hown hK hP 0 rfl rfl 2 (by decide) (fl_R_18 G hW) (u_same (args := ([.ref h, .ref h] : List Value).toArray) (G.1.at 187 rfl rfl _ hW)) rfl d_R_acceptPairs_8 ?_
  refine lv_iconst (v := (nI 1)) hx hb d_R_acceptPairs_11 (by decide) ?_
  refine lv_isub hx hb d_R_acceptPairs_12 ?_
  refine lv_istore_n (lv' := [(3, .int ((nI n) - (nI 1))), (2, .int ((nI n) - (nI 1))), (0, .ref h), (1, .ref h)]) hx hb d_R_acceptPairs_13 rfl hl (by decide) rfl (fun ls hl => ?_)
  refine lv_aload_n hx hb d_R_acceptPairs_14 rfl (lv_at hl 2 rfl) ?_
  refine va_get (D := D) (ci := 2) (v := .int (nI n)) (C := R_R) (T := T_R) (N := 5) hx hb (us_R G hW) (fun _ h => h) hown hK hP 0 rfl rfl 2 (by decide) (fl_R_18 G hW) (u_same (args := ([.ref h, .ref h] : List Value).toArray) (G.1.at 187 rfl rfl _ hW)) rfl d_R_acceptPairs_15 ?_
  refine lv_aload_n hx hb d_R_acceptPairs_18 rfl (lv_at hl 3 rfl) ?_
  refine va_get (D := D) (ci := 2) (v := .int (nI n)) (C := R_R) (T := T_R) (N := 5) hx hb (us_R G hW) (fun _ h => h) hown hK hP 0 rfl rfl 2 (by decide) (fl_R_18 G hW) (u_same (args := ([.ref h, .ref h] : List Value).toArray) (G.1.at 187 rfl rfl _ hW)) rfl d_R_acceptPairs_19 ?_
  refine lv_iadd hx hb d_R_acceptPairs_22 ?_
  refine tp_i (y := (nI (n + n))) (nI_add _ _) ?_
  refine lv_istore (lv' := [(4, .int (nI (n + n))), (3, .int ((nI n) - (nI 1))), (2, .int ((nI n) - (nI 1))), (0, .ref h), (1, .ref h)]) hx hb d_R_acceptPairs_23 hl (by decide) rfl (fun ls hl => ?_)
  refine lv_iload hx hb d_R_acceptPairs_25 (lv_at hl 0 rfl) ?_
  refine lv_aload_n hx hb d_R_acceptPairs_27 rfl (lv_at hl 3 rfl) ?_
  refine mx_callR (r := .int (nI (2 ^ A))) (c_P_power_R G h h1 h2 A B n f g hP hA) hW (iv_R_acceptPairs_28 G hx hb hown hW (va_recv hK hP (ci := 2) (q0 := 0) rfl rfl) [] [.int (nI (n + n))] rfl) hml hl.1 (by rw [hb]; exact d_R_acceptPairs_28) (cd_P_power G hW) ⟨Nat.le_of_ble_eq_true rfl, Nat.le_of_ble_eq_true rfl⟩ rfl rfl (Nat.le_of_ble_eq_true rfl) (Nat.le_of_ble_eq_true rfl) (Nat.le_of_ble_eq_true rfl) ?_
  refine lv_icmp_le (tgt := 36) hx hb d_R_acceptPairs_31 (by decide) (fun c_31 => ?_) (fun c_31 => ?_)
  · have hok : (n + n ≤ 2 ^ A) := (nI_leI (by omega) (by omega)).mp c_31
    refine lv_iload hx hb d_R_acceptPairs_36 (lv_at hl 0 rfl) ?_
    refine lv_iconst (v := (nI 1)) hx hb d_R_acceptPairs_38 (by decide) ?_
    refine lv_isub hx hb d_R_acceptPairs_39 ?_
    refine lv_istore (lv' := [(5, .int ((nI (n + n)) - (nI 1))), (4, .int (nI (n + n))), (3, .int ((nI n) - (nI 1))), (2, .int ((nI n) - (nI 1))), (0, .ref h), (1, .ref h)]) hx hb d_R_acceptPairs_40 hl (by decide) rfl (fun ls hl => ?_)
    have loop_42 : ∀ (k : Nat) (m1 : Nat) (t1 : Nat) (F : Nat → Nat), (m1 + t1 = k) → (k ≤ 2 ^ A) → (m1 ≤ n) → (t1 ≤ n) → (∀ i, i < m1 → F i = f i) → (∀ i, i < t1 → F i = f i) → ((mrg f (n + n) n n f) = mrg f k m1 t1 F) → ∀ (H : Heap) (locs : List Loc), va_P D vcl [(h, .inr (2, [.int (nI A), .int (nI B), .int (nI n), .ref h1, .ref h2])), (h1, aN cI 256 F), (h2, aI cI 256 g)] H → va_D (Aa [h, h1, h2] H0.size) [(h, .inr (2, [.int (nI A), .int (nI B), .int (nI n), .ref h1, .ref h2])), (h1, aN cI 256 F), (h2, aI cI 256 g)] → va_S (Aa [h, h1, h2] H0.size) H0 H locs → ∀ (ls : Array Slot), lv_has ls 6 [(5, .int (nI (m1 + t1) - nI 1)), (4, .int (nI (n + n))), (3, .int (nI t1 - nI 1)), (2, .int (nI m1 - nI 1)), (0, .ref h), (1, .ref h)] → W p l e { frames := 1, cells := 0, slots := 0, locals := 20 } s m ([.ref h, .ref h] : List Value).toArray below meth c H locs 0 0 (MQx below (Rw (.int (bI (decide (n + n ≤ 2 ^ A)))) (fun H1 => va_P D vcl [(h, .inr (2, [.int (nI A), .int (nI B), .int (nI (if (n + n ≤ 2 ^ A) then (n + n) else n)), .ref h1, .ref h2])), (h1, aN cI 256 (if (n + n ≤ 2 ^ A) then (mrg f (n + n) n n f) else f)), (h2, aI cI 256 g)] H1)) s 0 0 (Aa [h, h1, h2] H0.size)) (F0 m 42 ls []) := by
      intro k
      induction k with
      | zero =>
        intro m1 t1 F hk hk5 hm htt hFm hFt hmr H locs hP hD hS ls hl
        obtain rfl : m1 = 0 := by omega
        obtain rfl : t1 = 0 := by omega
        refine lv_iload hx hb d_R_acceptPairs_42 (lv_at hl 0 rfl) ?_
        refine lv_if_lt (tgt := 111) hx hb d_R_acceptPairs_44 (by decide) (fun c_44 => ?_) (fun c_44 => absurd (by decide) c_44)
        refine lv_aload_n hx hb d_R_acceptPairs_111 rfl (lv_at hl 4 rfl) ?_
        refine lv_iload hx hb d_R_acceptPairs_112 (lv_at hl 1 rfl) ?_
        refine va_put (D := D) (ci := 2) (v := .int (nI (n + n))) (ty := .int) (C := R_R) (T := T_R) (N := 5) hx hb (us_R G hW) (fun _ h => h) t_R to_R nm_R hown hK hP hD hS 0 rfl rfl 2 (by decide) (fl_R_18 G hW) (u_same (args := ([.ref h, .ref h] : List Value).toArray) (G.1.at 187 rfl rfl _ hW)) rfl (by decide +kernel) rfl rfl (Nat.le_of_ble_eq_true rfl) d_R_acceptPairs_114 (fun H locs hP hD hS => ?_)
        have hP : va_P D vcl [(h, .inr (2, [.int (nI A), .int (nI B), .int (nI (n + n)), .ref h1, .ref h2])), (h1, aN cI 256 F), (h2, aI cI 256 g)] H := hP
        have hD : va_D (Aa [h, h1, h2] H0.size) [(h, .inr (2, [.int (nI A), .int (nI B), .int (nI (n + n)), .ref h1, .ref h2])), (h1, aN cI 256 F), (h2, aI cI 256 g)] := hD
        refine lv_iconst (v := (nI 1)) hx hb d_R_acceptPairs_117 (by decide) ?_
        exact mx_zret hx hb hr hlk d_R_acceptPairs_118 (Nat.le_of_ble_eq_true rfl) (Nat.le_of_ble_eq_true rfl) hS.2.2 (rfl) (⟨by rw [decide_eq_true hok]; rfl, by rw [if_pos hok, if_pos hok, hmr, mrg_0]; exact hP⟩)
      | succ k ih_42 =>
        intro m1 t1 F hk hk5 hm htt hFm hFt hmr H locs hP hD hS ls hl
        rw [show nI (m1 + t1) - nI 1 = nI k by rw [hk]; exact pk_sub (by omega)] at hl
        have hl : lv_has ls 6 [(5, .int (nI k)), (4, .int (nI (n + n))), (3, .int (nI t1 - nI 1)), (2, .int (nI m1 - nI 1)), (0, .ref h), (1, .ref h)] := hl
        refine lv_iload hx hb d_R_acceptPairs_42 (lv_at hl 0 rfl) ?_
        refine lv_if_lt (tgt := 111) hx hb d_R_acceptPairs_44 (by decide) (fun c_44 => absurd c_44 (nI_pos (by omega))) (fun c_44 => ?_)
        refine lv_iload_n hx hb d_R_acceptPairs_47 rfl (lv_at hl 2 rfl) ?_
        refine lv_if_lt (tgt := 111) hx hb d_R_acceptPairs_48 (by decide) (fun c_48 => ?_) (fun c_48 => ?_)
        · obtain rfl : t1 = 0 := (neg1 (by omega)).mp c_48
          refine lv_aload_n hx hb d_R_acceptPairs_111 rfl (lv_at hl 4 rfl) ?_
          refine lv_iload hx hb d_R_acceptPairs_112 (lv_at hl 1 rfl) ?_
          refine va_put (D := D) (ci := 2) (v := .int (nI (n + n))) (ty := .int) (C := R_R) (T := T_R) (N := 5) hx hb (us_R G hW) (fun _ h => h) t_R to_R nm_R hown hK hP hD hS 0 rfl rfl 2 (by decide) (fl_R_18 G hW) (u_same (args := ([.ref h, .ref h] : List Value).toArray) (G.1.at 187 rfl rfl _ hW)) rfl (by decide +kernel) rfl rfl (Nat.le_of_ble_eq_true rfl) d_R_acceptPairs_114 (fun H locs hP hD hS => ?_)
          have hP : va_P D vcl [(h, .inr (2, [.int (nI A), .int (nI B), .int (nI (n + n)), .ref h1, .ref h2])), (h1, aN cI 256 F), (h2, aI cI 256 g)] H := hP
          have hD : va_D (Aa [h, h1, h2] H0.size) [(h, .inr (2, [.int (nI A), .int (nI B), .int (nI (n + n)), .ref h1, .ref h2])), (h1, aN cI 256 F), (h2, aI cI 256 g)] := hD
          refine lv_iconst (v := (nI 1)) hx hb d_R_acceptPairs_117 (by decide) ?_
          exact mx_zret hx hb hr hlk d_R_acceptPairs_118 (Nat.le_of_ble_eq_true rfl) (Nat.le_of_ble_eq_true rfl) hS.2.2 (rfl) (⟨by rw [decide_eq_true hok]; rfl, by rw [if_pos hok, if_pos hok, hmr, mrg_0]; exact hP⟩)
        · have ht0 : ¬ t1 = 0 := fun h9 => c_48 ((neg1 (by omega)).mpr h9)
          rw [pk_sub (show 1 ≤ t1 by omega)] at hl
          have hl : lv_has ls 6 [(5, .int (nI k)), (4, .int (nI (n + n))), (3, .int (nI (t1 - 1))), (2, .int (nI m1 - nI 1)), (0, .ref h), (1, .ref h)] := hl
          refine lv_iload_n hx hb d_R_acceptPairs_51 rfl (lv_at hl 3 rfl) ?_
          refine lv_if_lt (tgt := 89) hx hb d_R_acceptPairs_52 (by decide) (fun c_52 => ?_) (fun c_52 => ?_)
          · have hng : ¬ (0 < m1 ∧ f (t1 - 1) < F (m1 - 1)) := fun h9 => absurd ((neg1 (by omega)).mp c_52) (by omega)
            refine lv_aload_n hx hb d_R_acceptPairs_89 rfl (lv_at hl 4 rfl) ?_
            refine va_get (D := D) (ci := 2) (v := .ref h1) (C := R_R) (T := T_R) (N := 5) hx hb (us_R G hW) (fun _ h => h) hown hK hP 0 rfl rfl 3 (by decide) (fl_R_11 G hW) (fun _ h9 => h9) rfl d_R_acceptPairs_90 ?_
            refine lv_iload hx hb d_R_acceptPairs_93 (lv_at hl 0 rfl) ?_
            refine lv_aload_n hx hb d_R_acceptPairs_95 rfl (lv_at hl 5 rfl) ?_
            refine va_get (D := D) (ci := 2) (v := .ref h1) (C := R_R) (T := T_R) (N := 5) hx hb (us_R G hW) (fun _ h => h) hown hK hP 0 rfl rfl 3 (by decide) (fl_R_11 G hW) (fun _ h9 => h9) rfl d_R_acceptPairs_96 ?_
            refine lv_iload_n hx hb d_R_acceptPairs_99 rfl (lv_at hl 2 rfl) ?_
            refine ia_ld hx hb hK hP 1 (j := (t1 - 1)) rfl (by omega) (by decide) d_R_acceptPairs_100 ?_
            refine tp_i (y := (nI (F (t1 - 1)))) rfl ?_
            refine ia_stN hx hb hK hP hD hS 1 (j := k) (x := (F (t1 - 1))) (f := F) rfl (by omega) (by decide) d_R_acceptPairs_101 (fun H locs hP hD hS => ?_)
            have hP : va_P D vcl [(h, .inr (2, [.int (nI A), .int (nI B), .int (nI n), .ref h1, .ref h2])), (h1, aN cI 256 (va_up F k (F (t1 - 1)))), (h2, aI cI 256 g)] H := hP
            have hD : va_D (Aa [h, h1, h2] H0.size) [(h, .inr (2, [.int (nI A), .int (nI B), .int (nI n), .ref h1, .ref h2])), (h1, aN cI 256 (va_up F k (F (t1 - 1)))), (h2, aI cI 256 g)] := hD
            refine lv_iinc (v := (nI (t1 - 1) - nI 1)) (lv' := [(3, .int (nI (t1 - 1) - nI 1)), (5, .int (nI k)), (4, .int (nI (n + n))), (2, .int (nI m1 - nI 1)), (0, .ref h), (1, .ref h)]) hx hb d_R_acceptPairs_102 hl (k := 2) rfl (dec1 _) (by decide) rfl (fun ls hl => ?_)
            refine lv_iinc (v := (nI (m1 + (t1 - 1)) - nI 1)) (lv' := [(5, .int (nI (m1 + (t1 - 1)) - nI 1)), (3, .int (nI (t1 - 1) - nI 1)), (4, .int (nI (n + n))), (2, .int (nI m1 - nI 1)), (0, .ref h), (1, .ref h)]) hx hb d_R_acceptPairs_105 hl (k := 1) rfl (by rw [dec1, show m1 + (t1 - 1) = k by omega]) (by decide) rfl (fun ls hl => ?_)
            refine lv_goto (tgt := 42) hx hb d_R_acceptPairs_108 (by decide) ?_
            exact ih_42 (m1) (t1 - 1) (va_up F k (F (t1 - 1))) (by omega) (by omega) (hm) (by omega) (fun i hi => (va_up_ne _ _ (by omega)).trans (hFm i hi)) (fun i hi => (va_up_ne _ _ (by omega)).trans (hFt i (by omega))) (by rw [hmr, mrg_b ht0 hng]; rw [hFt (t1 - 1) (by omega)]) H locs hP hD hS ls (lv_sub hl [0, 2, 1, 3, 4, 5] rfl)
          · have hm0 : 0 < m1 := Nat.pos_of_ne_zero (fun h9 => c_52 ((neg1 (by omega)).mpr h9))
            rw [pk_sub (show 1 ≤ m1 by omega)] at hl
            have hFv : F (m1 - 1) < 2 ^ 28 := by rw [hFm (m1 - 1) (by omega)]; exact hf _ (by omega)
            have hGv : (F (t1 - 1)) < 2 ^ 28 := by rw [hFt (t1 - 1) (by omega)]; exact hf _ (by omega)
            have hl : lv_has ls 6 [(5, .int (nI k)), (4, .int (nI (n + n))), (3, .int (nI (t1 - 1))), (2, .int (nI (m1 - 1))), (0, .ref h), (1, .ref h)] := hl
            refine lv_aload_n hx hb d_R_acceptPairs_55 rfl (lv_at hl 4 rfl) ?_
            refine va_get (D := D) (ci := 2) (v := .ref h1) (C := R_R) (T := T_R) (N := 5) hx hb (us_R G hW) (fun _ h => h) hown hK hP 0 rfl rfl 3 (by decide) (fl_R_11 G hW) (fun _ h9 => h9) rfl d_R_acceptPairs_56 ?_
            refine lv_iload_n hx hb d_R_acceptPairs_59 rfl (lv_at hl 3 rfl) ?_
            refine ia_ld hx hb hK hP 1 (j := (m1 - 1)) rfl (by omega) (by decide) d_R_acceptPairs_60 ?_
            refine tp_i (y := (nI (F (m1 - 1)))) rfl ?_
            refine lv_aload_n hx hb d_R_acceptPairs_61 rfl (lv_at hl 5 rfl) ?_
            refine va_get (D := D) (ci := 2) (v := .ref h1) (C := R_R) (T := T_R) (N := 5) hx hb (us_R G hW) (fun _ h => h) hown hK hP 0 rfl rfl 3 (by decide) (fl_R_11 G hW) (fun _ h9 => h9) rfl d_R_acceptPairs_62 ?_
            refine lv_iload_n hx hb d_R_acceptPairs_65 rfl (lv_at hl 2 rfl) ?_
            refine ia_ld hx hb hK hP 1 (j := (t1 - 1)) rfl (by omega) (by decide) d_R_acceptPairs_66 ?_
            refine tp_i (y := (nI (F (t1 - 1)))) rfl ?_
            refine lv_icmp_le (tgt := 89) hx hb d_R_acceptPairs_67 (by decide) (fun c_67 => ?_) (fun c_67 => ?_)
            · have hng : ¬ (0 < m1 ∧ f (t1 - 1) < F (m1 - 1)) := fun h9 => absurd ((nI_leI (by omega) (by omega)).mp c_67) (by have h10 := h9.2; rw [← hFt (t1 - 1) (by omega)] at h10; omega)
              refine lv_aload_n hx hb d_R_acceptPairs_89 rfl (lv_at hl 4 rfl) ?_
              refine va_get (D := D) (ci := 2) (v := .ref h1) (C := R_R) (T := T_R) (N := 5) hx hb (us_R G hW) (fun _ h => h) hown hK hP 0 rfl rfl 3 (by decide) (fl_R_11 G hW) (fun _ h9 => h9) rfl d_R_acceptPairs_90 ?_
              refine lv_iload hx hb d_R_acceptPairs_93 (lv_at hl 0 rfl) ?_
              refine lv_aload_n hx hb d_R_acceptPairs_95 rfl (lv_at hl 5 rfl) ?_
              refine va_get (D := D) (ci := 2) (v := .ref h1) (C := R_R) (T := T_R) (N := 5) hx hb (us_R G hW) (fun _ h => h) hown hK hP 0 rfl rfl 3 (by decide) (fl_R_11 G hW) (fun _ h9 => h9) rfl d_R_acceptPairs_96 ?_
              refine lv_iload_n hx hb d_R_acceptPairs_99 rfl (lv_at hl 2 rfl) ?_
              refine ia_ld hx hb hK hP 1 (j := (t1 - 1)) rfl (by omega) (by decide) d_R_acceptPairs_100 ?_
              refine tp_i (y := (nI (F (t1 - 1)))) rfl ?_
              refine ia_stN hx hb hK hP hD hS 1 (j := k) (x := (F (t1 - 1))) (f := F) rfl (by omega) (by decide) d_R_acceptPairs_101 (fun H locs hP hD hS => ?_)
              have hP : va_P D vcl [(h, .inr (2, [.int (nI A), .int (nI B), .int (nI n), .ref h1, .ref h2])), (h1, aN cI 256 (va_up F k (F (t1 - 1)))), (h2, aI cI 256 g)] H := hP
              have hD : va_D (Aa [h, h1, h2] H0.size) [(h, .inr (2, [.int (nI A), .int (nI B), .int (nI n), .ref h1, .ref h2])), (h1, aN cI 256 (va_up F k (F (t1 - 1)))), (h2, aI cI 256 g)] := hD
              refine lv_iinc (v := (nI (t1 - 1) - nI 1)) (lv' := [(3, .int (nI (t1 - 1) - nI 1)), (5, .int (nI k)), (4, .int (nI (n + n))), (2, .int (nI (m1 - 1))), (0, .ref h), (1, .ref h)]) hx hb d_R_acceptPairs_102 hl (k := 2) rfl (dec1 _) (by decide) rfl (fun ls hl => ?_)
              refine lv_iinc (v := (nI (m1 + (t1 - 1)) - nI 1)) (lv' := [(5, .int (nI (m1 + (t1 - 1)) - nI 1)), (3, .int (nI (t1 - 1) - nI 1)), (4, .int (nI (n + n))), (2, .int (nI (m1 - 1))), (0, .ref h), (1, .ref h)]) hx hb d_R_acceptPairs_105 hl (k := 1) rfl (by rw [dec1, show m1 + (t1 - 1) = k by omega]) (by decide) rfl (fun ls hl => ?_)
              refine lv_goto (tgt := 42) hx hb d_R_acceptPairs_108 (by decide) ?_
              rw [← pk_sub (show 1 ≤ m1 by omega)] at hl
              exact ih_42 (m1) (t1 - 1) (va_up F k (F (t1 - 1))) (by omega) (by omega) (hm) (by omega) (fun i hi => (va_up_ne _ _ (by omega)).trans (hFm i hi)) (fun i hi => (va_up_ne _ _ (by omega)).trans (hFt i (by omega))) (by rw [hmr, mrg_b ht0 hng]; rw [hFt (t1 - 1) (by omega)]) H locs hP hD hS ls (lv_sub hl [0, 2, 1, 3, 4, 5] rfl)
            · have hgt : f (t1 - 1) < F (m1 - 1) := Nat.not_le.mp (fun h9 => c_67 (nI_le (by rw [hFt (t1 - 1) (by omega)]; exact h9) (by omega)))
              refine lv_aload_n hx hb d_R_acceptPairs_70 rfl (lv_at hl 4 rfl) ?_
              refine va_get (D := D) (ci := 2) (v := .ref h1) (C := R_R) (T := T_R) (N := 5) hx hb (us_R G hW) (fun _ h => h) hown hK hP 0 rfl rfl 3 (by decide) (fl_R_11 G hW) (fun _ h9 => h9) rfl d_R_acceptPairs_71 ?_
              refine lv_iload hx hb d_R_acceptPairs_74 (lv_at hl 0 rfl) ?_
              refine lv_aload_n hx hb d_R_acceptPairs_76 rfl (lv_at hl 4 rfl) ?_
              refine va_get (D := D) (ci := 2) (v := .ref h1) (C := R_R) (T := T_R) (N := 5) hx hb (us_R G hW) (fun _ h => h) hown hK hP 0 rfl rfl 3 (by decide) (fl_R_11 G hW) (fun _ h9 => h9) rfl d_R_acceptPairs_77 ?_
              refine lv_iload_n hx hb d_R_acceptPairs_80 rfl (lv_at hl 3 rfl) ?_
              refine ia_ld hx hb hK hP 1 (j := (m1 - 1)) rfl (by omega) (by decide) d_R_acceptPairs_81 ?_
              refine tp_i (y := (nI (F (m1 - 1)))) rfl ?_
              refine ia_stN hx hb hK hP hD hS 1 (j := k) (x := (F (m1 - 1))) (f := F) rfl (by omega) (by decide) d_R_acceptPairs_82 (fun H locs hP hD hS => ?_)
              have hP : va_P D vcl [(h, .inr (2, [.int (nI A), .int (nI B), .int (nI n), .ref h1, .ref h2])), (h1, aN cI 256 (va_up F k (F (m1 - 1)))), (h2, aI cI 256 g)] H := hP
              have hD : va_D (Aa [h, h1, h2] H0.size) [(h, .inr (2, [.int (nI A), .int (nI B), .int (nI n), .ref h1, .ref h2])), (h1, aN cI 256 (va_up F k (F (m1 - 1)))), (h2, aI cI 256 g)] := hD
              refine lv_iinc (v := (nI (m1 - 1) - nI 1)) (lv' := [(2, .int (nI (m1 - 1) - nI 1)), (5, .int (nI k)), (4, .int (nI (n + n))), (3, .int (nI (t1 - 1))), (0, .ref h), (1, .ref h)]) hx hb d_R_acceptPairs_83 hl (k := 3) rfl (dec1 _) (by decide) rfl (fun ls hl => ?_)
              refine lv_goto (tgt := 105) hx hb d_R_acceptPairs_86 (by decide) ?_
              refine lv_iinc (v := (nI (m1 - 1 + t1) - nI 1)) (lv' := [(5, .int (nI (m1 - 1 + t1) - nI 1)), (2, .int (nI (m1 - 1) - nI 1)), (4, .int (nI (n + n))), (3, .int (nI (t1 - 1))), (0, .ref h), (1, .ref h)]) hx hb d_R_acceptPairs_105 hl (k := 1) rfl (by rw [dec1, show m1 - 1 + t1 = k by omega]) (by decide) rfl (fun ls hl => ?_)
              refine lv_goto (tgt := 42) hx hb d_R_acceptPairs_108 (by decide) ?_
              rw [← pk_sub (show 1 ≤ t1 by omega)] at hl
              exact ih_42 (m1 - 1) (t1) (va_up F k (F (m1 - 1))) (by omega) (by omega) (by omega) (htt) (fun i hi => (va_up_ne _ _ (by omega)).trans (hFm i (by omega))) (fun i hi => (va_up_ne _ _ (by omega)).trans (hFt i hi)) (by rw [hmr, mrg_a ht0 ⟨hm0, hgt⟩]) H locs hP hD hS ls (lv_sub hl [0, 2, 3, 1, 4, 5] rfl)
    exact loop_42 ((n + n)) (n) (n) (f) (rfl) (hok) (Nat.le_refl _) (Nat.le_refl _) (fun i _ => rfl) (fun i _ => rfl) (rfl) H0 [] hP hD hS ls (lv_sub hl [0, 1, 2, 3, 4, 5] rfl)
  · refine lv_iconst (v := (nI 0)) hx hb d_R_acceptPairs_34 (by decide) ?_
    exact mx_zret hx hb hr hlk d_R_acceptPairs_35 (Nat.le_of_ble_eq_true rfl) (Nat.le_of_ble_eq_true rfl) (fun _ h => nomatch h) (rfl) (⟨by rw [decide_eq_false (fun h9 => c_31 (nI_le h9 (by omega)))]; rfl, by rw [if_neg (fun h9 => c_31 (nI_le h9 (by omega))), if_neg (fun h9 => c_31 (nI_le h9 (by omega)))]; exact hP⟩)
