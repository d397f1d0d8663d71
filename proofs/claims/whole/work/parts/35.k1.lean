theorem va_Dm {A A2 : Nat → Prop} {ws : va_W} (h : va_D A ws) (hA : ∀ q, A q → A2 q) : va_D A2 ws := ⟨h.1, fun k q hk => hA _ (h.2 k q hk)⟩

theorem c_C_put2 {l : Launch} {s0 : State} {D : va_G} {cI cF cJ : ClassId} (G : Gx l s0 D cI cF cJ) (h h1 h2 h3 A B : Nat) (hd : Int32) (cs pl pb : Nat → Nat) (x : Int64) {H0 : Heap} {A0 : Nat → Prop} (hP : va_P D vcl [(h, .inr (0, [.int (nI A), .int (nI B), .int hd, .ref h1, .ref h2, .ref h3])), (h1, aN cI 1024 cs), (h2, aN cI 6 pl), (h3, aN cI 6 pb)] H0) (hD : va_D A0 [(h, .inr (0, [.int (nI A), .int (nI B), .int hd, .ref h1, .ref h2, .ref h3])), (h1, aN cI 1024 cs), (h2, aN cI 6 pl), (h3, aN cI 6 pb)]) (hA : A ≤ 10) (hB : B ≤ 6) (hc1 : ∀ j, j < 1024 → cs j ≤ 15) : Mx l s0 y_C_put (.code y_C_put b_C_put 4 (some .boolean)) { frames := 3, cells := 0, slots := 0, locals := 66 } [.ref h, .long x] H0 (Aa [h, h1, h2, h3] H0.size) (Rw (.int (bI (allN (fitA cs (plx A x) B) B))) (fun H1 => va_P D vcl [(h, .inr (0, [.int (nI A), .int (nI B), .int hd, .ref h1, .ref h2, .ref h3])), (h1, aN cI 1024 (if (allN (fitA cs (plx A x) B) B) then addC cs (plx A x) B else cs)), (h2, aN cI 6 (fpr A x pl B)), (h3, aN cI 6 pb)] H1)) := by
  have h9 := c_C_put G h h1 h2 h3 A B hd cs pl pb x hP hD hA hB hc1
  rw [fitA_fpr, addC_fpr] at h9
  exact h9

theorem c_C_take2 {l : Launch} {s0 : State} {D : va_G} {cI cF cJ : ClassId} (G : Gx l s0 D cI cF cJ) (h h1 h2 h3 A B : Nat) (hd : Int32) (cs pl pb : Nat → Nat) (x : Int64) {H0 : Heap} {A0 : Nat → Prop} (hP : va_P D vcl [(h, .inr (0, [.int (nI A), .int (nI B), .int hd, .ref h1, .ref h2, .ref h3])), (h1, aN cI 1024 cs), (h2, aN cI 6 pl), (h3, aN cI 6 pb)] H0) (hD : va_D A0 [(h, .inr (0, [.int (nI A), .int (nI B), .int hd, .ref h1, .ref h2, .ref h3])), (h1, aN cI 1024 cs), (h2, aN cI 6 pl), (h3, aN cI 6 pb)]) (hA : A ≤ 10) (hB : B ≤ 6) (hc1 : ∀ j, j < 1024 → cs j ≤ 15) : Mx l s0 y_C_take (.code y_C_take b_C_take 4 (some .boolean)) { frames := 3, cells := 0, slots := 0, locals := 66 } [.ref h, .long x] H0 (Aa [h, h1, h2, h3] H0.size) (Rw (.int (bI (allN (fitS cs (plx A x) B) B))) (fun H1 => va_P D vcl [(h, .inr (0, [.int (nI A), .int (nI B), .int hd, .ref h1, .ref h2, .ref h3])), (h1, aN cI 1024 (if (allN (fitS cs (plx A x) B) B) then subC cs (plx A x) B else cs)), (h2, aN cI 6 (fpr A x pl B)), (h3, aN cI 6 pb)] H1)) := by
  have h9 := c_C_take G h h1 h2 h3 A B hd cs pl pb x hP hD hA hB hc1
  rw [fitS_fpr, subC_fpr] at h9
  exact h9

theorem c_C_holds2 {l : Launch} {s0 : State} {D : va_G} {cI cF cJ : ClassId} (G : Gx l s0 D cI cF cJ) (h h1 h2 h3 A B : Nat) (hd : Int32) (cs pl pb : Nat → Nat) (x : Int64) {H0 : Heap} {A0 : Nat → Prop} (hP : va_P D vcl [(h, .inr (0, [.int (nI A), .int (nI B), .int hd, .ref h1, .ref h2, .ref h3])), (h1, aN cI 1024 cs), (h2, aN cI 6 pl), (h3, aN cI 6 pb)] H0) (hD : va_D A0 [(h, .inr (0, [.int (nI A), .int (nI B), .int hd, .ref h1, .ref h2, .ref h3])), (h1, aN cI 1024 cs), (h2, aN cI 6 pl), (h3, aN cI 6 pb)]) (hA : A ≤ 10) (hB : B ≤ 6) (hc1 : ∀ j, j < 1024 → cs j ≤ 15) : Mx l s0 y_C_holds (.code y_C_holds b_C_holds 4 (some .boolean)) { frames := 3, cells := 0, slots := 0, locals := 66 } [.ref h, .long x] H0 (Aa [h, h1, h2, h3] H0.size) (Rw (.int (bI (allN (isC cs (plx A x)) B))) (fun H1 => va_P D vcl [(h, .inr (0, [.int (nI A), .int (nI B), .int hd, .ref h1, .ref h2, .ref h3])), (h1, aN cI 1024 cs), (h2, aN cI 6 (fpr A x pl B)), (h3, aN cI 6 pb)] H1)) := by
  have h9 := c_C_holds G h h1 h2 h3 A B hd cs pl pb x hP hD hA hB hc1
  rw [isC_fpr] at h9
  exact h9

theorem c_C_looksAlike2 {l : Launch} {s0 : State} {D : va_G} {cI cF cJ : ClassId} (G : Gx l s0 D cI cF cJ) (h h1 h2 h3 A B : Nat) (hd : Int32) (cs pl pb : Nat → Nat) (x y : Int64) {H0 : Heap} {A0 : Nat → Prop} (hP : va_P D vcl [(h, .inr (0, [.int (nI A), .int (nI B), .int hd, .ref h1, .ref h2, .ref h3])), (h1, aN cI 1024 cs), (h2, aN cI 6 pl), (h3, aN cI 6 pb)] H0) (hD : va_D A0 [(h, .inr (0, [.int (nI A), .int (nI B), .int hd, .ref h1, .ref h2, .ref h3])), (h1, aN cI 1024 cs), (h2, aN cI 6 pl), (h3, aN cI 6 pb)]) (hA : A ≤ 10) (hB : B ≤ 6) : Mx l s0 y_C_looksAlike (.code y_C_looksAlike b_C_looksAlike 6 (some .boolean)) { frames := 3, cells := 0, slots := 0, locals := 66 } [.ref h, .long x, .long y] H0 (Aa [h, h1, h2, h3] H0.size) (Rw (.int (bI (allN (sameC (plx A x) (plx A y) B) B))) (fun H1 => va_P D vcl [(h, .inr (0, [.int (nI A), .int (nI B), .int hd, .ref h1, .ref h2, .ref h3])), (h1, aN cI 1024 cs), (h2, aN cI 6 (fpr A x pl B)), (h3, aN cI 6 (fpr A y pb B))] H1)) := by
  have h9 := c_C_looksAlike G h h1 h2 h3 A B hd cs pl pb x y hP hD hA hB
  rw [sameC_fpr] at h9
  exact h9

set_option maxHeartbeats 4000000 in
set_option maxRecDepth 100000 in
theorem c_P_init {l : Launch} {s0 : State} {D : va_G} {cI cF cJ : ClassId} (G : Gx l s0 D cI cF cJ) (h : Nat) {H0 : Heap}  : Mx l s0 y_P_init (.code y_P_init b_P_init 1 none) { frames := 1, cells := 0, slots := 0, locals := 12 } [.ref h] H0 (fun _ => False) (Rn (fun H1 => H1 = H0)) := by
  refine Mx.ofW (own := "FewBits$Filter") rfl rfl ?_
  rintro p e s m below meth c ⟨hx, hb, hml, hr, hown, hW, hlk⟩ hnm het hH
  have hK := G.k hW
  have hl := lv_entry ([.ref h]) (n := 1) (Nat.le_of_ble_eq_true rfl)
  rw [lg_entry_eq]
  generalize (lg_sl ([.ref h]) ++ List.replicate (1 - (lg_sl ([.ref h])).length) Slot.unset).toArray = ls at hl ⊢
  have hl : lv_has ls 1 [(0, .ref h)] := hl
  refine lv_aload_n hx hb d_P_init_0 rfl (lv_at hl 0 rfl) ?_
  refine W.objInit hx hb hown (G.1.at 167 rfl rfl _ hW) (G.1.at 24 rfl rfl _ hW) (G.1.at 25 rfl rfl _ hW) rfl (by rw [hml]; exact hl.1) rfl d_P_init_1 (Nat.le_of_ble_eq_true rfl) (Nat.le_of_ble_eq_true rfl) ?_
  refine W.eq (g2 := F0 m 4 ls []) rfl ?_
  exact mx_vret hx hb hr hlk d_P_init_4 (Nat.le_of_ble_eq_true rfl) (Nat.le_of_ble_eq_true rfl) (fun _ h => nomatch h) (⟨rfl, rfl⟩)

set_option maxHeartbeats 4000000 in
set_option maxRecDepth 100000 in
theorem c_C_init {l : Launch} {s0 : State} {D : va_G} {cI cF cJ : ClassId} (G : Gx l s0 D cI cF cJ) (h : Nat) {H0 : Heap} {A0 : Nat → Prop} (hP : va_P D vcl [(h, .inr (0, [.int 0, .int 0, .int 0, .null, .null, .null]))] H0) (hD : va_D A0 [(h, .inr (0, [.int 0, .int 0, .int 0, .null, .null, .null]))]) : Mx l s0 y_C_init (.code y_C_init b_C_init 1 none) { frames := 2, cells := 3, slots := 1036, locals := 32 } [.ref h] H0 (Aa [h] H0.size) (Rn (fun H1 => ∃ h1 h2 h3 : Nat, va_P D vcl [(h, .inr (0, [.int 0, .int 0, .int 0, .ref h1, .ref h2, .ref h3])), (h1, aN cI 1024 (fun _ => 0)), (h2, aN cI 6 (fun _ => 0)), (h3, aN cI 6 (fun _ => 0))] H1 ∧ va_D (Aa [h] H0.size) [(h, .inr (0, [.int 0, .int 0, .int 0, .ref h1, .ref h2, .ref h3])), (h1, aN cI 1024 (fun _ => 0)), (h2, aN cI 6 (fun _ => 0)), (h3, aN cI 6 (fun _ => 0))])) := by
  refine Mx.ofW (own := "FewBits$Counters") rfl rfl ?_
  rintro p e s m below meth c ⟨hx, hb, hml, hr, hown, hW, hlk⟩ hnm het hH
  have hK := G.k hW
  have hD := hD.aa (sz := H0.size)
  have hD : va_D (Aa [h] H0.size) [(h, .inr (0, [.int 0, .int 0, .int 0, .null, .null, .null]))] := hD
  have hS : va_S (Aa [h] H0.size) H0 H0 [] := va_S.rf
  have hl := lv_entry ([.ref h]) (n := 1) (Nat.le_of_ble_eq_true rfl)
  rw [lg_entry_eq]
  generalize (lg_sl ([.ref h]) ++ List.replicate (1 - (lg_sl ([.ref h])).length) Slot.unset).toArray = ls at hl ⊢
  have hl : lv_has ls 1 [(0, .ref h)] := hl
  refine lv_aload_n hx hb d_C_init_0 rfl (lv_at hl 0 rfl) ?_
  refine mx_callG (c_P_init G h) hW (iv_C_init_1 G hx hb hown hW h [] [] rfl) hml hl.1 (by rw [hb]; exact d_C_init_1) (cd_P_init G hW) ⟨Nat.le_of_ble_eq_true rfl, Nat.le_of_ble_eq_true rfl⟩ (Nat.le_of_ble_eq_true rfl) (Nat.le_of_ble_eq_true rfl) (Nat.le_of_ble_eq_true rfl) hS (fun _ h9 => h9.elim) (fun q H1 h9 => by cases h9.1) (fun v9 H1 locs hq hsz hkp hS => ?_)
  obtain ⟨e9, e8⟩ := hq
  cases e9
  subst H1
  refine W.eq (g2 := F0 m 4 ls []) rfl ?_
  have hP : va_P D vcl [(h, .inr (0, [.int 0, .int 0, .int 0, .null, .null, .null]))] H0 := hP
  have hD : va_D (Aa [h] H0.size) [(h, .inr (0, [.int 0, .int 0, .int 0, .null, .null, .null]))] := hD
  refine lv_aload_n hx hb d_C_init_4 rfl (lv_at hl 0 rfl) ?_
  refine lv_sipush (v := (nI 1024)) hx hb d_C_init_5 (by decide) ?_
  refine na_i (N := 1024) hx hb (G.1.at 203 rfl rfl _ hW) hK hP hD hS Aa.up (by decide) (Nat.le_of_ble_eq_true rfl) (Nat.le_of_ble_eq_true rfl) d_C_init_8 (fun h1 H hP hD hS => ?_)
  have hP : va_P D vcl [(h, .inr (0, [.int 0, .int 0, .int 0, .null, .null, .null])), (h1, aN cI 1024 (fun _ => 0))] H := hP
  have hD : va_D (Aa [h] H0.size) [(h, .inr (0, [.int 0, .int 0, .int 0, .null, .null, .null])), (h1, aN cI 1024 (fun _ => 0))] := hD
  refine va_putF (D := D) (ci := 0) (v := .ref h1) (ty := .array .int) (C := R_C) (T := T_C) (N := 6) hx hb (us_C G hW) (fun _ h => h) t_C to_C nm_C hown hK hP hD hS 0 rfl rfl 3 (by decide) (fl_C_11 G hW) (fun _ h9 => h9) rfl hnm rfl (by decide +kernel) rfl rfl (Nat.le_of_ble_eq_true rfl) d_C_init_10 (fun H locs hP hD hS => ?_)
  have hP : va_P D vcl [(h, .inr (0, [.int 0, .int 0, .int 0, .ref h1, .null, .null])), (h1, aN cI 1024 (fun _ => 0))] H := hP
  have hD : va_D (Aa [h] H0.size) [(h, .inr (0, [.int 0, .int 0, .int 0, .ref h1, .null, .null])), (h1, aN cI 1024 (fun _ => 0))] := hD
  refine lv_aload_n hx hb d_C_init_13 rfl (lv_at hl 0 rfl) ?_
  refine lv_bipush (v := (nI 6)) hx hb d_C_init_14 (by decide) ?_
  refine na_i (N := 6) hx hb (G.1.at 203 rfl rfl _ hW) hK hP hD hS Aa.up (by decide) (Nat.le_of_ble_eq_true rfl) (Nat.le_of_ble_eq_true rfl) d_C_init_16 (fun h2 H hP hD hS => ?_)
  have hP : va_P D vcl [(h, .inr (0, [.int 0, .int 0, .int 0, .ref h1, .null, .null])), (h1, aN cI 1024 (fun _ => 0)), (h2, aN cI 6 (fun _ => 0))] H := hP
  have hD : va_D (Aa [h] H0.size) [(h, .inr (0, [.int 0, .int 0, .int 0, .ref h1, .null, .null])), (h1, aN cI 1024 (fun _ => 0)), (h2, aN cI 6 (fun _ => 0))] := hD
  refine va_putF (D := D) (ci := 0) (v := .ref h2) (ty := .array .int) (C := R_C) (T := T_C) (N := 6) hx hb (us_C G hW) (fun _ h => h) t_C to_C nm_C hown hK hP hD hS 0 rfl rfl 4 (by decide) (fl_C_15 G hW) (fun _ h9 => h9) rfl hnm rfl (by decide +kernel) rfl rfl (Nat.le_of_ble_eq_true rfl) d_C_init_18 (fun H locs hP hD hS => ?_)
  have hP : va_P D vcl [(h, .inr (0, [.int 0, .int 0, .int 0, .ref h1, .ref h2, .null])), (h1, aN cI 1024 (fun _ => 0)), (h2, aN cI 6 (fun _ => 0))] H := hP
  have hD : va_D (Aa [h] H0.size) [(h, .inr (0, [.int 0, .int 0, .int 0, .ref h1, .ref h2, .null])), (h1, aN cI 1024 (fun _ => 0)), (h2, aN cI 6 (fun _ => 0))] := hD
  refine lv_aload_n hx hb d_C_init_21 rfl (lv_at hl 0 rfl) ?_
  refine lv_bipush (v := (nI 6)) hx hb d_C_init_22 (by decide) ?_
  refine na_i (N := 6) hx hb (G.1.at 203 rfl rfl _ hW) hK hP hD hS Aa.up (by decide) (Nat.le_of_ble_eq_true rfl) (Nat.le_of_ble_eq_true rfl) d_C_init_24 (fun h3 H hP hD hS => ?_)
  have hP : va_P D vcl [(h, .inr (0, [.int 0, .int 0, .int 0, .ref h1, .ref h2, .null])), (h1, aN cI 1024 (fun _ => 0)), (h2, aN cI 6 (fun _ => 0)), (h3, aN cI 6 (fun _ => 0))] H := hP
  have hD : va_D (Aa [h] H0.size) [(h, .inr (0, [.int 0, .int 0, .int 0, .ref h1, .ref h2, .null])), (h1, aN cI 1024 (fun _ => 0)), (h2, aN cI 6 (fun _ => 0)), (h3, aN cI 6 (fun _ => 0))] := hD
  refine va_putF (D := D) (ci := 0) (v := .ref h3) (ty := .array .int) (C := R_C) (T := T_C) (N := 6) hx hb (us_C G hW) (fun _ h => h) t_C to_C nm_C hown hK hP hD hS 0 rfl rfl 5 (by decide) (fl_C_18 G hW) (fun _ h9 => h9) rfl hnm rfl (by decide +kernel) rfl rfl (Nat.le_of_ble_eq_true rfl) d_C_init_26 (fun H locs hP hD hS => ?_)
  have hP : va_P D vcl [(h, .inr (0, [.int 0, .int 0, .int 0, .ref h1, .ref h2, .ref h3])), (h1, aN cI 1024 (fun _ => 0)), (h2, aN cI 6 (fun _ => 0)), (h3, aN cI 6 (fun _ => 0))] H := hP
  have hD : va_D (Aa [h] H0.size) [(h, .inr (0, [.int 0, .int 0, .int 0, .ref h1, .ref h2, .ref h3])), (h1, aN cI 1024 (fun _ => 0)), (h2, aN cI 6 (fun _ => 0)), (h3, aN cI 6 (fun _ => 0))] := hD
  exact mx_vret hx hb hr hlk d_C_init_29 (Nat.le_of_ble_eq_true rfl) (Nat.le_of_ble_eq_true rfl) hS.2.2 (⟨rfl, h1, h2, h3, hP, hD⟩)

set_option maxHeartbeats 4000000 in
set_option maxRecDepth 100000 in
theorem c_B_init {l : Launch} {s0 : State} {D : va_G} {cI cF cJ : ClassId} (G : Gx l s0 D cI cF cJ) (h : Nat) {H0 : Heap} {A0 : Nat → Prop} (hP : va_P D vcl [(h, .inr (1, [.int 0, .int 0, .int 0, .null, .null, .int 0]))] H0) (hD : va_D A0 [(h, .inr (1, [.int 0, .int 0, .int 0, .null, .null, .int 0]))]) : Mx l s0 y_B_init (.code y_B_init b_B_init 1 none) { frames := 2, cells := 2, slots := 1088, locals := 32 } [.ref h] H0 (Aa [h] H0.size) (Rn (fun H1 => ∃ h1 h2 : Nat, va_P D vcl [(h, .inr (1, [.int 0, .int 0, .int 0, .ref h1, .ref h2, .int 0])), (h1, aN cI 1024 (fun _ => 0)), (h2, aN cI 64 (fun _ => 0))] H1 ∧ va_D (Aa [h] H0.size) [(h, .inr (1, [.int 0, .int 0, .int 0, .ref h1, .ref h2, .int 0])), (h1, aN cI 1024 (fun _ => 0)), (h2, aN cI 64 (fun _ => 0))])) := by
  refine Mx.ofW (own := "FewBits$Buckets") rfl rfl ?_
  rintro p e s m below meth c ⟨hx, hb, hml, hr, hown, hW, hlk⟩ hnm het hH
  have hK := G.k hW
  have hD := hD.aa (sz := H0.size)
  have hD : va_D (Aa [h] H0.size) [(h, .inr (1, [.int 0, .int 0, .int 0, .null, .null, .int 0]))] := hD
  have hS : va_S (Aa [h] H0.size) H0 H0 [] := va_S.rf
  have hl := lv_entry ([.ref h]) (n := 1) (Nat.le_of_ble_eq_true rfl)
  rw [lg_entry_eq]
  generalize (lg_sl ([.ref h]) ++ List.replicate (1 - (lg_sl ([.ref h])).length) Slot.unset).toArray = ls at hl ⊢
  have hl : lv_has ls 1 [(0, .ref h)] := hl
  refine lv_aload_n hx hb d_B_init_0 rfl (lv_at hl 0 rfl) ?_
  refine mx_callG (c_P_init G h) hW (iv_B_init_1 G hx hb hown hW h [] [] rfl) hml hl.1 (by rw [hb]; exact d_B_init_1) (cd_P_init G hW) ⟨Nat.le_of_ble_eq_true rfl, Nat.le_of_ble_eq_true rfl⟩ (Nat.le_of_ble_eq_true rfl) (Nat.le_of_ble_eq_true rfl) (Nat.le_of_ble_eq_true rfl) hS (fun _ h9 => h9.elim) (fun q H1 h9 => by cases h9.1) (fun v9 H1 locs hq hsz hkp hS => ?_)
  obtain ⟨e9, e8⟩ := hq
  cases e9
  subst H1
  refine W.eq (g2 := F0 m 4 ls []) rfl ?_
  have hP : va_P D vcl [(h, .inr (1, [.int 0, .int 0, .int 0, .null, .null, .int 0]))] H0 := hP
  have hD : va_D (Aa [h] H0.size) [(h, .inr (1, [.int 0, .int 0, .int 0, .null, .null, .int 0]))] := hD
  refine lv_aload_n hx hb d_B_init_4 rfl (lv_at hl 0 rfl) ?_
  refine lv_sipush (v := (nI 1024)) hx hb d_B_init_5 (by decide) ?_
  refine na_i (N := 1024) hx hb (G.1.at 203 rfl rfl _ hW) hK hP hD hS Aa.up (by decide) (Nat.le_of_ble_eq_true rfl) (Nat.le_of_ble_eq_true rfl) d_B_init_8 (fun h1 H hP hD hS => ?_)
  have hP : va_P D vcl [(h, .inr (1, [.int 0, .int 0, .int 0, .null, .null, .int 0])), (h1, aN cI 1024 (fun _ => 0))] H := hP
  have hD : va_D (Aa [h] H0.size) [(h, .inr (1, [.int 0, .int 0, .int 0, .null, .null, .int 0])), (h1, aN cI 1024 (fun _ => 0))] := hD
  refine va_putF (D := D) (ci := 1) (v := .ref h1) (ty := .array .int) (C := R_B) (T := T_B) (N := 6) hx hb (us_B G hW) (fun _ h => h) t_B to_B nm_B hown hK hP hD hS 0 rfl rfl 3 (by decide) (fl_B_11 G hW) (fun _ h9 => h9) rfl hnm rfl (by decide +kernel) rfl rfl (Nat.le_of_ble_eq_true rfl) d_B_init_10 (fun H locs hP hD hS => ?_)
  have hP : va_P D vcl [(h, .inr (1, [.int 0, .int 0, .int 0, .ref h1, .null, .int 0])), (h1, aN cI 1024 (fun _ => 0))] H := hP
  have hD : va_D (Aa [h] H0.size) [(h, .inr (1, [.int 0, .int 0, .int 0, .ref h1, .null, .int 0])), (h1, aN cI 1024 (fun _ => 0))] := hD
  refine lv_aload_n hx hb d_B_init_13 rfl (lv_at hl 0 rfl) ?_
  refine lv_bipush (v := (nI 64)) hx hb d_B_init_14 (by decide) ?_
  refine na_i (N := 64) hx hb (G.1.at 203 rfl rfl _ hW) hK hP hD hS Aa.up (by decide) (Nat.le_of_ble_eq_true rfl) (Nat.le_of_ble_eq_true rfl) d_B_init_16 (fun h2 H hP hD hS => ?_)
  have hP : va_P D vcl [(h, .inr (1, [.int 0, .int 0, .int 0, .ref h1, .null, .int 0])), (h1, aN cI 1024 (fun _ => 0)), (h2, aN cI 64 (fun _ => 0))] H := hP
  have hD : va_D (Aa [h] H0.size) [(h, .inr (1, [.int 0, .int 0, .int 0, .ref h1, .null, .int 0])), (h1, aN cI 1024 (fun _ => 0)), (h2, aN cI 64 (fun _ => 0))] := hD
  refine va_putF (D := D) (ci := 1) (v := .ref h2) (ty := .array .int) (C := R_B) (T := T_B) (N := 6) hx hb (us_B G hW) (fun _ h => h) t_B to_B nm_B hown hK hP hD hS 0 rfl rfl 4 (by decide) (fl_B_15 G hW) (fun _ h9 => h9) rfl hnm rfl (by decide +kernel) rfl rfl (Nat.le_of_ble_eq_true rfl) d_B_init_18 (fun H locs hP hD hS => ?_)
  have hP : va_P D vcl [(h, .inr (1, [.int 0, .int 0, .int 0, .ref h1, .ref h2, .int 0])), (h1, aN cI 1024 (fun _ => 0)), (h2, aN cI 64 (fun _ => 0))] H := hP
  have hD : va_D (Aa [h] H0.size) [(h, .inr (1, [.int 0, .int 0, .int 0, .ref h1, .ref h2, .int 0])), (h1, aN cI 1024 (fun _ => 0)), (h2, aN cI 64 (fun _ => 0))] := hD
  exact mx_vret hx hb hr hlk d_B_init_21 (Nat.le_of_ble_eq_true rfl) (Nat.le_of_ble_eq_true rfl) hS.2.2 (⟨rfl, h1, h2, hP, hD⟩)

set_option maxHeartbeats 4000000 in
set_option maxRecDepth 100000 in
theorem c_R_init {l : Launch} {s0 : State} {D : va_G} {cI cF cJ : ClassId} (G : Gx l s0 D cI cF cJ) (h : Nat) {H0 : Heap} {A0 : Nat → Prop} (hP : va_P D vcl [(h, .inr (2, [.int 0, .int 0, .int 0, .null, .null]))] H0) (hD : va_D A0 [(h, .inr (2, [.int 0, .int 0, .int 0, .null, .null]))]) : Mx l s0 y_R_init (.code y_R_init b_R_init 1 none) { frames := 2, cells := 2, slots := 512, locals := 32 } [.ref h] H0 (Aa [h] H0.size) (Rn (fun H1 => ∃ h1 h2 : Nat, va_P D vcl [(h, .inr (2, [.int 0, .int 0, .int 0, .ref h1, .ref h2])), (h1, aN cI 256 (fun _ => 0)), (h2, aN cI 256 (fun _ => 0))] H1 ∧ va_D (Aa [h] H0.size) [(h, .inr (2, [.int 0, .int 0, .int 0, .ref h1, .ref h2])), (h1, aN cI 256 (fun _ => 0)), (h2, aN cI 256 (fun _ => 0))])) := by
  refine Mx.ofW (own := "FewBits$Runs") rfl rfl ?_
  rintro p e s m below meth c ⟨hx, hb, hml, hr, hown, hW, hlk⟩ hnm het hH
  have hK := G.k hW
  have hD := hD.aa (sz := H0.size)
  have hD : va_D (Aa [h] H0.size) [(h, .inr (2, [.int 0, .int 0, .int 0, .null, .null]))] := hD
  have hS : va_S (Aa [h] H0.size) H0 H0 [] := va_S.rf
  have hl := lv_entry ([.ref h]) (n := 1) (Nat.le_of_ble_eq_true rfl)
  rw [lg_entry_eq]
  generalize (lg_sl ([.ref h]) ++ List.replicate (1 - (lg_sl ([.ref h])).length) Slot.unset).toArray = ls at hl ⊢
  have hl : lv_has ls 1 [(0, .ref h)] := hl
  refine lv_aload_n hx hb d_R_init_0 rfl (lv_at hl 0 rfl) ?_
  refine mx_callG (c_P_init G h) hW (iv_R_init_1 G hx hb hown hW h [] [] rfl) hml hl.1 (by rw [hb]; exact d_R_init_1) (cd_P_init G hW) ⟨Nat.le_of_ble_eq_true rfl, Nat.le_of_ble_eq_true rfl⟩ (Nat.le_of_ble_eq_true rfl) (Nat.le_of_ble_eq_true rfl) (Nat.le_of_ble_eq_true rfl) hS (fun _ h9 => h9.elim) (fun q H1 h9 => by cases h9.1) (fun v9 H1 locs hq hsz hkp hS => ?_)
  obtain ⟨e9, e8⟩ := hq
  cases e9
  subst H1
  refine W.eq (g2 := F0 m 4 ls []) rfl ?_
  have hP : va_P D vcl [(h, .inr (2, [.int 0, .int 0, .int 0, .null, .null]))] H0 := hP
  have hD : va_D (Aa [h] H0.size) [(h, .inr (2, [.int 0, .int 0, .int 0, .null, .null]))] := hD
  refine lv_aload_n hx hb d_R_init_4 rfl (lv_at hl 0 rfl) ?_
  refine lv_sipush (v := (nI 256)) hx hb d_R_init_5 (by decide) ?_
  refine na_i (N := 256) hx hb (G.1.at 203 rfl rfl _ hW) hK hP hD hS Aa.up (by decide) (Nat.le_of_ble_eq_true rfl) (Nat.le_of_ble_eq_true rfl) d_R_init_8 (fun h1 H hP hD hS => ?_)
  have hP : va_P D vcl [(h, .inr (2, [.int 0, .int 0, .int 0, .null, .null])), (h1, aN cI 256 (fun _ => 0))] H := hP
  have hD : va_D (Aa [h] H0.size) [(h, .inr (2, [.int 0, .int 0, .int 0, .null, .null])), (h1, aN cI 256 (fun _ => 0))] := hD
  refine va_putF (D := D) (ci := 2) (v := .ref h1) (ty := .array .int) (C := R_R) (T := T_R) (N := 5) hx hb (us_R G hW) (fun _ h => h) t_R to_R nm_R hown hK hP hD hS 0 rfl rfl 3 (by decide) (fl_R_11 G hW) (fun _ h9 => h9) rfl hnm rfl (by decide +kernel) rfl rfl (Nat.le_of_ble_eq_true rfl) d_R_init_10 (fun H locs hP hD hS => ?_)
  have hP : va_P D vcl [(h, .inr (2, [.int 0, .int 0, .int 0, .ref h1, .null])), (h1, aN cI 256 (fun _ => 0))] H := hP
  have hD : va_D (Aa [h] H0.size) [(h, .inr (2, [.int 0, .int 0, .int 0, .ref h1, .null])), (h1, aN cI 256 (fun _ => 0))] := hD
  refine lv_aload_n hx hb d_R_init_13 rfl (lv_at hl 0 rfl) ?_
  refine lv_sipush (v := (nI 256)) hx hb d_R_init_14 (by decide) ?_
  refine na_i (N := 256) hx hb (G.1.at 203 rfl rfl _ hW) hK hP hD hS Aa.up (by decide) (Nat.le_of_ble_eq_true rfl) (Nat.le_of_ble_eq_true rfl) d_R_init_17 (fun h2 H hP hD hS => ?_)
  have hP : va_P D vcl [(h, .inr (2, [.int 0, .int 0, .int 0, .ref h1, .null])), (h1, aN cI 256 (fun _ => 0)), (h2, aN cI 256 (fun _ => 0))] H := hP
  have hD : va_D (Aa [h] H0.size) [(h, .inr (2, [.int 0, .int 0, .int 0, .ref h1, .null])), (h1, aN cI 256 (fun _ => 0)), (h2, aN cI 256 (fun _ => 0))] := hD
  refine va_putF (D := D) (ci := 2) (v := .ref h2) (ty := .array .int) (C := R_R) (T := T_R) (N := 5) hx hb (us_R G hW) (fun _ h => h) t_R to_R nm_R hown hK hP hD hS 0 rfl rfl 4 (by decide) (fl_R_15 G hW) (fun _ h9 => h9) rfl hnm rfl (by decide +kernel) rfl rfl (Nat.le_of_ble_eq_true rfl) d_R_init_19 (fun H locs hP hD hS => ?_)
  have hP : va_P D vcl [(h, .inr (2, [.int 0, .int 0, .int 0, .ref h1, .ref h2])), (h1, aN cI 256 (fun _ => 0)), (h2, aN cI 256 (fun _ => 0))] H := hP
  have hD : va_D (Aa [h] H0.size) [(h, .inr (2, [.int 0, .int 0, .int 0, .ref h1, .ref h2])), (h1, aN cI 256 (fun _ => 0)), (h2, aN cI 256 (fun _ => 0))] := hD
  exact mx_vret hx hb hr hlk d_R_init_22 (Nat.le_of_ble_eq_true rfl) (Nat.le_of_ble_eq_true rfl) hS.2.2 (⟨rfl, h1, h2, hP, hD⟩)

set_option maxHeartbeats 4000000 in
set_option maxRecDepth 100000 in
theorem c_C_wipe {l : Launch} {s0 : State} {D : va_G} {cI cF cJ : ClassId} (G : Gx l s0 D cI cF cJ) (h h1 h2 h3 A B : Nat) (hd : Int32) (cs pl pb : Nat → Nat) {H0 : Heap} {A0 : Nat → Prop} (hP : va_P D vcl [(h, .inr (0, [.int (nI A), .int (nI B), .int hd, .ref h1, .ref h2, .ref h3])), (h1, aN cI 1024 cs), (h2, aN cI 6 pl), (h3, aN cI 6 pb)] H0) (hD : va_D A0 [(h, .inr (0, [.int (nI A), .int (nI B), .int hd, .ref h1, .ref h2, .ref h3])), (h1, aN cI 1024 cs), (h2, aN cI 6 pl), (h3, aN cI 6 pb)]) : Mx l s0 y_C_wipe (.code y_C_wipe b_C_wipe 1 none) { frames := 1, cells := 0, slots := 0, locals := 23 } [.ref h] H0 (Aa [h, h1, h2, h3] H0.size) (Rn (fun H1 => va_P D vcl [(h, .inr (0, [.int (nI A), .int (nI B), .int hd, .ref h1, .ref h2, .ref h3])), (h1, aN cI 1024 (fun _ => 0)), (h2, aN cI 6 pl), (h3, aN cI 6 pb)] H1)) := by
  refine Mx.ofW (own := "FewBits$Counters") rfl rfl ?_
  rintro p e s m below meth c ⟨hx, hb, hml, hr, hown, hW, hlk⟩ hnm het hH
  have hK := G.k hW
  have hD := hD.aa (sz := H0.size)
  have hD : va_D (Aa [h, h1, h2, h3] H0.size) [(h, .inr (0, [.int (nI A), .int (nI B), .int hd, .ref h1, .ref h2, .ref h3])), (h1, aN cI 1024 cs), (h2, aN cI 6 pl), (h3, aN cI 6 pb)] := hD
  have hS : va_S (Aa [h, h1, h2, h3] H0.size) H0 H0 [] := va_S.rf
  have hl := lv_entry ([.ref h]) (n := 1) (Nat.le_of_ble_eq_true rfl)
  rw [lg_entry_eq]
  generalize (lg_sl ([.ref h]) ++ List.replicate (1 - (lg_sl ([.ref h])).length) Slot.unset).toArray = ls at hl ⊢
  have hl : lv_has ls 1 [(0, .ref h)] := hl
  refine lv_aload_n hx hb d_C_wipe_0 rfl (lv_at hl 0 rfl) ?_
  refine va_get (D := D) (ci := 0) (v := .ref h1) (C := R_C) (T := T_C) (N := 6) hx hb (us_C G hW) (fun _ h => h) hown hK hP 0 rfl rfl 3 (by decide) (fl_C_11 G hW) (fun _ h9 => h9) rfl d_C_wipe_1 ?_
  refine lv_iconst (v := (nI 0)) hx hb d_C_wipe_4 (by decide) ?_
  refine mx_callN (c_A_fill G [(h, .inr (0, [.int (nI A), .int (nI B), .int hd, .ref h1, .ref h2, .ref h3])), (h1, aN cI 1024 cs), (h2, aN cI 6 pl), (h3, aN cI 6 pb)] 1 h1 1024 (fun q => nI (cs q)) (nI 0) hP hD rfl (by decide)) hW (iv_C_wipe_5 G hx hb hown hW [.ref h1, .int (nI 0)] [] rfl) hml hl.1 (by rw [hb]; exact d_C_wipe_5) (cd_A_fill G hW) ⟨Nat.le_of_ble_eq_true rfl, Nat.le_of_ble_eq_true rfl⟩ (Nat.le_of_ble_eq_true rfl) (Nat.le_of_ble_eq_true rfl) (Nat.le_of_ble_eq_true rfl) hS (Aa.mono (fun _ h => h) hS.1) (fun H locs hP _ _ hS => ?_)
  have hP : va_P D vcl [(h, .inr (0, [.int (nI A), .int (nI B), .int hd, .ref h1, .ref h2, .ref h3])), (h1, aN cI 1024 (fun _ => 0)), (h2, aN cI 6 pl), (h3, aN cI 6 pb)] H := hP
  have hD : va_D (Aa [h, h1, h2, h3] H0.size) [(h, .inr (0, [.int (nI A), .int (nI B), .int hd, .ref h1, .ref h2, .ref h3])), (h1, aN cI 1024 (fun _ => 0)), (h2, aN cI 6 pl), (h3, aN cI 6 pb)] := va_D.same2 [h, h1, h2, h3] hD rfl rfl
  exact mx_vret hx hb hr hlk d_C_wipe_8 (Nat.le_of_ble_eq_true rfl) (Nat.le_of_ble_eq_true rfl) hS.2.2 (⟨rfl, hP⟩)

set_option maxHeartbeats 4000000 in
set_option maxRecDepth 100000 in
theorem c_B_wipe {l : Launch} {s0 : State} {D : va_G} {cI cF cJ : ClassId} (G : Gx l s0 D cI cF cJ) (h h1 h2 A B : Nat) (hd pu : Int32) (sl pt : Nat → Nat) {H0 : Heap} {A0 : Nat → Prop} (hP : va_P D vcl [(h, .inr (1, [.int (nI A), .int (nI B), .int hd, .ref h1, .ref h2, .int pu])), (h1, aN cI 1024 sl), (h2, aN cI 64 pt)] H0) (hD : va_D A0 [(h, .inr (1, [.int (nI A), .int (nI B), .int hd, .ref h1, .ref h2, .int pu])), (h1, aN cI 1024 sl), (h2, aN cI 64 pt)]) : Mx l s0 y_B_wipe (.code y_B_wipe b_B_wipe 1 none) { frames := 1, cells := 0, slots := 0, locals := 23 } [.ref h] H0 (Aa [h, h1, h2] H0.size) (Rn (fun H1 => va_P D vcl [(h, .inr (1, [.int (nI A), .int (nI B), .int hd, .ref h1, .ref h2, .int (nI 0)])), (h1, aN cI 1024 (fun _ => 0)), (h2, aN cI 64 pt)] H1)) := by
  refine Mx.ofW (own := "FewBits$Buckets") rfl rfl ?_
  rintro p e s m below meth c ⟨hx, hb, hml, hr, hown, hW, hlk⟩ hnm het hH
  have hK := G.k hW
  have hD := hD.aa (sz := H0.size)
  have hD : va_D (Aa [h, h1, h2] H0.size) [(h, .inr (1, [.int (nI A), .int (nI B), .int hd, .ref h1, .ref h2, .int pu])), (h1, aN cI 1024 sl), (h2, aN cI 64 pt)] := hD
  have hS : va_S (Aa [h, h1, h2] H0.size) H0 H0 [] := va_S.rf
  have hl := lv_entry ([.ref h]) (n := 1) (Nat.le_of_ble_eq_true rfl)
  rw [lg_entry_eq]
  generalize (lg_sl ([.ref h]) ++ List.replicate (1 - (lg_sl ([.ref h])).length) Slot.unset).toArray = ls at hl ⊢
  have hl : lv_has ls 1 [(0, .ref h)] := hl
  refine lv_aload_n hx hb d_B_wipe_0 rfl (lv_at hl 0 rfl) ?_
  refine va_get (D := D) (ci := 1) (v := .ref h1) (C := R_B) (T := T_B) (N := 6) hx hb (us_B G hW) (fun _ h => h) hown hK hP 0 rfl rfl 3 (by decide) (fl_B_11 G hW) (fun _ h9 => h9) rfl d_B_wipe_1 ?_
  refine lv_iconst (v := (nI 0)) hx hb d_B_wipe_4 (by decide) ?_
  refine mx_callN (c_A_fill G [(h, .inr (1, [.int (nI A), .int (nI B), .int hd, .ref h1, .ref h2, .int pu])), (h1, aN cI 1024 sl), (h2, aN cI 64 pt)] 1 h1 1024 (fun q => nI (sl q)) (nI 0) hP hD rfl (by decide)) hW (iv_B_wipe_5 G hx hb hown hW [.ref h1, .int (nI 0)] [] rfl) hml hl.1 (by rw [hb]; exact d_B_wipe_5) (cd_A_fill G hW) ⟨Nat.le_of_ble_eq_true rfl, Nat.le_of_ble_eq_true rfl⟩ (Nat.le_of_ble_eq_true rfl) (Nat.le_of_ble_eq_true rfl) (Nat.le_of_ble_eq_true rfl) hS (Aa.mono (fun _ h => h) hS.1) (fun H locs hP _ _ hS => ?_)
  have hP : va_P D vcl [(h, .inr (1, [.int (nI A), .int (nI B), .int hd, .ref h1, .ref h2, .int pu])), (h1, aN cI 1024 (fun _ => 0)), (h2, aN cI 64 pt)] H := hP
  have hD : va_D (Aa [h, h1, h2] H0.size) [(h, .inr (1, [.int (nI A), .int (nI B), .int hd, .ref h1, .ref h2, .int pu])), (h1, aN cI 1024 (fun _ => 0)), (h2, aN cI 64 pt)] := va_D.same2 [h, h1, h2] hD rfl rfl
  refine lv_aload_n hx hb d_B_wipe_8 rfl (lv_at hl 0 rfl) ?_
  refine lv_iconst (v := (nI 0)) hx hb d_B_wipe_9 (by decide) ?_
  refine va_put (D := D) (ci := 1) (v := .int (nI 0)) (ty := .int) (C := R_B) (T := T_B) (N := 6) hx hb (us_B G hW) (fun _ h => h) t_B to_B nm_B hown hK hP hD hS 0 rfl rfl 5 (by decide) (fl_B_28 G hW) (fun _ h9 => h9) rfl (by decide +kernel) rfl rfl (Nat.le_of_ble_eq_true rfl) d_B_wipe_10 (fun H locs hP hD hS => ?_)
  have hP : va_P D vcl [(h, .inr (1, [.int (nI A), .int (nI B), .int hd, .ref h1, .ref h2, .int (nI 0)])), (h1, aN cI 1024 (fun _ => 0)), (h2, aN cI 64 pt)] H := hP
  have hD : va_D (Aa [h, h1, h2] H0.size) [(h, .inr (1, [.int (nI A), .int (nI B), .int hd, .ref h1, .ref h2, .int (nI 0)])), (h1, aN cI 1024 (fun _ => 0)), (h2, aN cI 64 pt)] := hD
  exact mx_vret hx hb hr hlk d_B_wipe_13 (Nat.le_of_ble_eq_true rfl) (Nat.le_of_ble_eq_true rfl) hS.2.2 (⟨rfl, hP⟩)

set_option maxHeartbeats 4000000 in
set_option maxRecDepth 100000 in
theorem c_P_begin_C {l : Launch} {s0 : State} {D : va_G} {cI cF cJ : ClassId} (G : Gx l s0 D cI cF cJ) (h h1 h2 h3 : Nat) (av bv hd : Int32) (A B : Nat) (cs pl pb : Nat → Nat) {H0 : Heap} {A0 : Nat → Prop} (hP : va_P D vcl [(h, .inr (0, [.int av, .int bv, .int hd, .ref h1, .ref h2, .ref h3])), (h1, aN cI 1024 cs), (h2, aN cI 6 pl), (h3, aN cI 6 pb)] H0) (hD : va_D A0 [(h, .inr (0, [.int av, .int bv, .int hd, .ref h1, .ref h2, .ref h3])), (h1, aN cI 1024 cs), (h2, aN cI 6 pl), (h3, aN cI 6 pb)]) : Mx l s0 y_P_begin (.code y_P_begin b_P_begin 3 none) { frames := 2, cells := 0, slots := 0, locals := 70 } [.ref h, .int (nI A), .int (nI B)] H0 (Aa [h, h1, h2, h3] H0.size) (Rn (fun H1 => va_P D vcl [(h, .inr (0, [.int (nI A), .int (nI B), .int (nI 0), .ref h1, .ref h2, .ref h3])), (h1, aN cI 1024 (fun _ => 0)), (h2, aN cI 6 pl), (h3, aN cI 6 pb)] H1)) := by
  refine Mx.ofW (own := "FewBits$Filter") rfl rfl ?_
  rintro p e s m below meth c ⟨hx, hb, hml, hr, hown, hW, hlk⟩ hnm het hH
  have hK := G.k hW
  have hD := hD.aa (sz := H0.size)
  have hD : va_D (Aa [h, h1, h2, h3] H0.size) [(h, .inr (0, [.int av, .int bv, .int hd, .ref h1, .ref h2, .ref h3])), (h1, aN cI 1024 cs), (h2, aN cI 6 pl), (h3, aN cI 6 pb)] := hD
  have hS : va_S (Aa [h, h1, h2, h3] H0.size) H0 H0 [] := va_S.rf
  have hl := lv_entry ([.ref h, .int (nI A), .int (nI B)]) (n := 3) (Nat.le_of_ble_eq_true rfl)
  rw [lg_entry_eq]
  generalize (lg_sl ([.ref h, .int (nI A), .int (nI B)]) ++ List.replicate (3 - (lg_sl ([.ref h, .int (nI A), .int (nI B)])).length) Slot.unset).toArray = ls at hl ⊢
  have hl : lv_has ls 3 [(0, .ref h), (1, .int (nI A)), (2, .int (nI B))] := hl
  refine lv_aload_n hx hb d_P_begin_0 rfl (lv_at hl 0 rfl) ?_
  refine lv_iload_n hx hb d_P_begin_1 rfl (lv_at hl 1 rfl) ?_
  refine va_put (D := D) (ci := 0) (v := .int (nI A)) (ty := .int) (C := R_C) (T := T_C) (N := 6) hx hb (us_C G hW) (fun _ h => h) t_C to_C nm_C hown hK hP hD hS 0 rfl rfl 0 (by decide) (fl_P_7 G hW) (fun _ h9 => h9) rfl (by decide +kernel) rfl rfl (Nat.le_of_ble_eq_true rfl) d_P_begin_2 (fun H locs hP hD hS => ?_)
  have hP : va_P D vcl [(h, .inr (0, [.int (nI A), .int bv, .int hd, .ref h1, .ref h2, .ref h3])), (h1, aN cI 1024 cs), (h2, aN cI 6 pl), (h3, aN cI 6 pb)] H := hP
  have hD : va_D (Aa [h, h1, h2, h3] H0.size) [(h, .inr (0, [.int (nI A), .int bv, .int hd, .ref h1, .ref h2, .ref h3])), (h1, aN cI 1024 cs), (h2, aN cI 6 pl), (h3, aN cI 6 pb)] := hD
  refine lv_aload_n hx hb d_P_begin_5 rfl (lv_at hl 0 rfl) ?_
  refine lv_iload_n hx hb d_P_begin_6 rfl (lv_at hl 2 rfl) ?_
  refine va_put (D := D) (ci := 0) (v := .int (nI B)) (ty := .int) (C := R_C) (T := T_C) (N := 6) hx hb (us_C G hW) (fun _ h => h) t_C to_C nm_C hown hK hP hD hS 0 rfl rfl 1 (by decide) (fl_P_13 G hW) (fun _ h9 => h9) rfl (by decide +kernel) rfl rfl (Nat.le_of_ble_eq_true rfl) d_P_begin_7 (fun H locs hP hD hS => ?_)
  have hP : va_P D vcl [(h, .inr (0, [.int (nI A), .int (nI B), .int hd, .ref h1, .ref h2, .ref h3])), (h1, aN cI 1024 cs), (h2, aN cI 6 pl), (h3, aN cI 6 pb)] H := hP
  have hD : va_D (Aa [h, h1, h2, h3] H0.size) [(h, .inr (0, [.int (nI A), .int (nI B), .int hd, .ref h1, .ref h2, .ref h3])), (h1, aN cI 1024 cs), (h2, aN cI 6 pl), (h3, aN cI 6 pb)] := hD
  refine lv_aload_n hx hb d_P_begin_10 rfl (lv_at hl 0 rfl) ?_
  refine lv_iconst (v := (nI 0)) hx hb d_P_begin_11 (by decide) ?_
  refine va_put (D := D) (ci := 0) (v := .int (nI 0)) (ty := .int) (C := R_C) (T := T_C) (N := 6) hx hb (us_C G hW) (fun _ h => h) t_C to_C nm_C hown hK hP hD hS 0 rfl rfl 2 (by decide) (fl_P_16 G hW) (fun _ h9 => h9) rfl (by decide +kernel) rfl rfl (Nat.le_of_ble_eq_true rfl) d_P_begin_12 (fun H locs hP hD hS => ?_)
  have hP : va_P D vcl [(h, .inr (0, [.int (nI A), .int (nI B), .int (nI 0), .ref h1, .ref h2, .ref h3])), (h1, aN cI 1024 cs), (h2, aN cI 6 pl), (h3, aN cI 6 pb)] H := hP
  have hD : va_D (Aa [h, h1, h2, h3] H0.size) [(h, .inr (0, [.int (nI A), .int (nI B), .int (nI 0), .ref h1, .ref h2, .ref h3])), (h1, aN cI 1024 cs), (h2, aN cI 6 pl), (h3, aN cI 6 pb)] := hD
  refine lv_aload_n hx hb d_P_begin_15 rfl (lv_at hl 0 rfl) ?_
  refine mx_callN (c_C_wipe G h h1 h2 h3 A B (nI 0) cs pl pb hP hD) hW (iv_P_begin_16_C G hx hb hown hW (va_recv hK hP (ci := 0) (q0 := 0) rfl rfl) [] [] rfl) hml hl.1 (by rw [hb]; exact d_P_begin_16) (cd_C_wipe G hW) ⟨Nat.le_of_ble_eq_true rfl, Nat.le_of_ble_eq_true rfl⟩ (Nat.le_of_ble_eq_true rfl) (Nat.le_of_ble_eq_true rfl) (Nat.le_of_ble_eq_true rfl) hS (Aa.mono (fun _ h => h) hS.1) (fun H locs hP _ _ hS => ?_)
  have hP : va_P D vcl [(h, .inr (0, [.int (nI A), .int (nI B), .int (nI 0), .ref h1, .ref h2, .ref h3])), (h1, aN cI 1024 (fun _ => 0)), (h2, aN cI 6 pl), (h3, aN cI 6 pb)] H := hP
  have hD : va_D (Aa [h, h1, h2, h3] H0.size) [(h, .inr (0, [.int (nI A), .int (nI B), .int (nI 0), .ref h1, .ref h2, .ref h3])), (h1, aN cI 1024 (fun _ => 0)), (h2, aN cI 6 pl), (h3, aN cI 6 pb)] := va_D.same2 [h, h1, h2, h3] hD rfl rfl
  exact mx_vret hx hb hr hlk d_P_begin_19 (Nat.le_of_ble_eq_true rfl) (Nat.le_of_ble_eq_true rfl) hS.2.2 (⟨rfl, hP⟩)

set_option maxHeartbeats 4000000 in
set_option maxRecDepth 100000 in
theorem c_P_begin_B {l : Launch} {s0 : State} {D : va_G} {cI cF cJ : ClassId} (G : Gx l s0 D cI cF cJ) (h h1 h2 : Nat) (av bv hd pu : Int32) (A B : Nat) (sl pt : Nat → Nat) {H0 : Heap} {A0 : Nat → Prop} (hP : va_P D vcl [(h, .inr (1, [.int av, .int bv, .int hd, .ref h1, .ref h2, .int pu])), (h1, aN cI 1024 sl), (h2, aN cI 64 pt)] H0) (hD : va_D A0 [(h, .inr (1, [.int av, .int bv, .int hd, .ref h1, .ref h2, .int pu])), (h1, aN cI 1024 sl), (h2, aN cI 64 pt)]) : Mx l s0 y_P_begin (.code y_P_begin b_P_begin 3 none) { frames := 2, cells := 0, slots := 0, locals := 70 } [.ref h, .int (nI A), .int (nI B)] H0 (Aa [h, h1, h2] H0.size) (Rn (fun H1 => va_P D vcl [(h, .inr (1, [.int (nI A), .int (nI B), .int (nI 0), .ref h1, .ref h2, .int (nI 0)])), (h1, aN cI 1024 (fun _ => 0)), (h2, aN cI 64 pt)] H1)) := by
  refine Mx.ofW (own := "FewBits$Filter") rfl rfl ?_
  rintro p e s m below meth c ⟨hx, hb, hml, hr, hown, hW, hlk⟩ hnm het hH
  have hK := G.k hW
  have hD := hD.aa (sz := H0.size)
  have hD : va_D (Aa [h, h1, h2] H0.size) [(h, .inr (1, [.int av, .int bv, .int hd, .ref h1, .ref h2, .int pu])), (h1, aN cI 1024 sl), (h2, aN cI 64 pt)] := hD
  have hS : va_S (Aa [h, h1, h2] H0.size) H0 H0 [] := va_S.rf
  have hl := lv_entry ([.ref h, .int (nI A), .int (nI B)]) (n := 3) (Nat.le_of_ble_eq_true rfl)
  rw [lg_entry_eq]
  generalize (lg_sl ([.ref h, .int (nI A), .int (nI B)]) ++ List.replicate (3 - (lg_sl ([.ref h, .int (nI A), .int (nI B)])).length) Slot.unset).toArray = ls at hl ⊢
  have hl : lv_has ls 3 [(0, .ref h), (1, .int (nI A)), (2, .int (nI B))] := hl
  refine lv_aload_n hx hb d_P_begin_0 rfl (lv_at hl 0 rfl) ?_
  refine lv_iload_n hx hb d_P_begin_1 rfl (lv_at hl 1 rfl) ?_
  refine va_put (D := D) (ci := 1) (v := .int (nI A)) (ty := .int) (C := R_B) (T := T_B) (N := 6) hx hb (us_B G hW) (fun _ h => h) t_B to_B nm_B hown hK hP hD hS 0 rfl rfl 0 (by decide) (fl_P_7 G hW) (fun _ h9 => h9) rfl (by decide +kernel) rfl rfl (Nat.le_of_ble_eq_true rfl) d_P_begin_2 (fun H locs hP hD hS => ?_)
  have hP : va_P D vcl [(h, .inr (1, [.int (nI A), .int bv, .int hd, .ref h1, .ref h2, .int pu])), (h1, aN cI 1024 sl), (h2, aN cI 64 pt)] H := hP
  have hD : va_D (Aa [h, h1, h2] H0.size) [(h, .inr (1, [.int (nI A), .int bv, .int hd, .ref h1, .ref h2, .int pu])), (h1, aN cI 1024 sl), (h2, aN cI 64 pt)] := hD
  refine lv_aload_n hx hb d_P_begin_5 rfl (lv_at hl 0 rfl) ?_
  refine lv_iload_n hx hb d_P_begin_6 rfl (lv_at hl 2 rfl) ?_
  refine va_put (D := D) (ci := 1) (v := .int (nI B)) (ty := .int) (C := R_B) (T := T_B) (N := 6) hx hb (us_B G hW) (fun _ h => h) t_B to_B nm_B hown hK hP hD hS 0 rfl rfl 1 (by decide) (fl_P_13 G hW) (fun _ h9 => h9) rfl (by decide +kernel) rfl rfl (Nat.le_of_ble_eq_true rfl) d_P_begin_7 (fun H locs hP hD hS => ?_)
  have hP : va_P D vcl [(h, .inr (1, [.int (nI A), .int (nI B), .int hd, .ref h1, .ref h2, .int pu])), (h1, aN cI 1024 sl), (h2, aN cI 64 pt)] H := hP
  have hD : va_D (Aa [h, h1, h2] H0.size) [(h, .inr (1, [.int (nI A), .int (nI B), .int hd, .ref h1, .ref h2, .int pu])), (h1, aN cI 1024 sl), (h2, aN cI 64 pt)] := hD
  refine lv_aload_n hx hb d_P_begin_10 rfl (lv_at hl 0 rfl) ?_
  refine lv_iconst (v := (nI 0)) hx hb d_P_begin_11 (by decide) ?_
  refine va_put (D := D) (ci := 1) (v := .int (nI 0)) (ty := .int) (C := R_B) (T := T_B) (N := 6) hx hb (us_B G hW) (fun _ h => h) t_B to_B nm_B hown hK hP hD hS 0 rfl rfl 2 (by decide) (fl_P_16 G hW) (fun _ h9 => h9) rfl (by decide +kernel) rfl rfl (Nat.le_of_ble_eq_true rfl) d_P_begin_12 (fun H locs hP hD hS => ?_)
  have hP : va_P D vcl [(h, .inr (1, [.int (nI A), .int (nI B), .int (nI 0), .ref h1, .ref h2, .int pu])), (h1, aN cI 1024 sl), (h2, aN cI 64 pt)] H := hP
  have hD : va_D (Aa [h, h1, h2] H0.size) [(h, .inr (1, [.int (nI A), .int (nI B), .int (nI 0), .ref h1, .ref h2, .int pu])), (h1, aN cI 1024 sl), (h2, aN cI 64 pt)] := hD
  refine lv_aload_n hx hb d_P_begin_15 rfl (lv_at hl 0 rfl) ?_
  refine mx_callN (c_B_wipe G h h1 h2 A B (nI 0) pu sl pt hP hD) hW (iv_P_begin_16_B G hx hb hown hW (va_recv hK hP (ci := 1) (q0 := 0) rfl rfl) [] [] rfl) hml hl.1 (by rw [hb]; exact d_P_begin_16) (cd_B_wipe G hW) ⟨Nat.le_of_ble_eq_true rfl, Nat.le_of_ble_eq_true rfl⟩ (Nat.le_of_ble_eq_true rfl) (Nat.le_of_ble_eq_true rfl) (Nat.le_of_ble_eq_true rfl) hS (Aa.mono (fun _ h => h) hS.1) (fun H locs hP _ _ hS => ?_)
  have hP : va_P D vcl [(h, .inr (1, [.int (nI A), .int (nI B), .int (nI 0), .ref h1, .ref h2, .int (nI 0)])), (h1, aN cI 1024 (fun _ => 0)), (h2, aN cI 64 pt)] H := hP
  have hD : va_D (Aa [h, h1, h2] H0.size) [(h, .inr (1, [.int (nI A), .int (nI B), .int (nI 0), .ref h1, .ref h2, .int (nI 0)])), (h1, aN cI 1024 (fun _ => 0)), (h2, aN cI 64 pt)] := va_D.same2 [h, h1, h2] hD rfl rfl
  exact mx_vret hx hb hr hlk d_P_begin_19 (Nat.le_of_ble_eq_true rfl) (Nat.le_of_ble_eq_true rfl) hS.2.2 (⟨rfl, hP⟩)

set_option maxHeartbeats 4000000 in
set_option maxRecDepth 100000 in
theorem c_P_begin_R {l : Launch} {s0 : State} {D : va_G} {cI cF cJ : ClassId} (G : Gx l s0 D cI cF cJ) (h h1 h2 : Nat) (av bv hd : Int32) (A B : Nat) (f : Nat → Nat) (g : Nat → Int32) {H0 : Heap} {A0 : Nat → Prop} (hP : va_P D vcl [(h, .inr (2, [.int av, .int bv, .int hd, .ref h1, .ref h2])), (h1, aN cI 256 f), (h2, aI cI 256 g)] H0) (hD : va_D A0 [(h, .inr (2, [.int av, .int bv, .int hd, .ref h1, .ref h2])), (h1, aN cI 256 f), (h2, aI cI 256 g)]) : Mx l s0 y_P_begin (.code y_P_begin b_P_begin 3 none) { frames := 1, cells := 0, slots := 0, locals := 70 } [.ref h, .int (nI A), .int (nI B)] H0 (Aa [h, h1, h2] H0.size) (Rn (fun H1 => va_P D vcl [(h, .inr (2, [.int (nI A), .int (nI B), .int (nI 0), .ref h1, .ref h2])), (h1, aN cI 256 f), (h2, aI cI 256 g)] H1)) := by
  refine Mx.ofW (own := "FewBits$Filter") rfl rfl ?_
  rintro p e s m below meth c ⟨hx, hb, hml, hr, hown, hW, hlk⟩ hnm het hH
  have hK := G.k hW
  have hD := hD.aa (sz := H0.size)
  have hD : va_D (Aa [h, h1, h2] H0.size) [(h, .inr (2, [.int av, .int bv, .int hd, .ref h1, .ref h2])), (h1, aN cI 256 f), (h2, aI cI 256 g)] := hD
  have hS : va_S (Aa [h, h1, h2] H0.size) H0 H0 [] := va_S.rf
  have hl := lv_entry ([.ref h, .int (nI A), .int (nI B)]) (n := 3) (Nat.le_of_ble_eq_true rfl)
  rw [lg_entry_eq]
  generalize (lg_sl ([.ref h, .int (nI A), .int (nI B)]) ++ List.replicate (3 - (lg_sl ([.ref h, .int (nI A), .int (nI B)])).length) Slot.unset).toArray = ls at hl ⊢
  have hl : lv_has ls 3 [(0, .ref h), (1, .int (nI A)), (2, .int (nI B))] := hl
  refine lv_aload_n hx hb d_P_begin_0 rfl (lv_at hl 0 rfl) ?_
  refine lv_iload_n hx hb d_P_begin_1 rfl (lv_at hl 1 rfl) ?_
  refine va_put (D := D) (ci := 2) (v := .int (nI A)) (ty := .int) (C := R_R) (T := T_R) (N := 5) hx hb (us_R G hW) (fun _ h => h) t_R to_R nm_R hown hK hP hD hS 0 rfl rfl 0 (by decide) (fl_P_7 G hW) (fun _ h9 => h9) rfl (by decide +kernel) rfl rfl (Nat.le_of_ble_eq_true rfl) d_P_begin_2 (fun H locs hP hD hS => ?_)
  have hP : va_P D vcl [(h, .inr (2, [.int (nI A), .int bv, .int hd, .ref h1, .ref h2])), (h1, aN cI 256 f), (h2, aI cI 256 g)] H := hP
  have hD : va_D (Aa [h, h1, h2] H0.size) [(h, .inr (2, [.int (nI A), .int bv, .int hd, .ref h1, .ref h2])), (h1, aN cI 256 f), (h2, aI cI 256 g)] := hD
  refine lv_aload_n hx hb d_P_begin_5 rfl (lv_at hl 0 rfl) ?_
  refine lv_iload_n hx hb d_P_begin_6 rfl (lv_at hl 2 rfl) ?_
  refine va_put (D := D) (ci := 2) (v := .int (nI B)) (ty := .int) (C := R_R) (T := T_R) (N := 5) hx hb (us_R G hW) (fun _ h => h) t_R to_R nm_R hown hK hP hD hS 0 rfl rfl 1 (by decide) (fl_P_13 G hW) (fun _ h9 => h9) rfl (by decide +kernel) rfl rfl (Nat.le_of_ble_eq_true rfl) d_P_begin_7 (fun H locs hP hD hS => ?_)
  have hP : va_P D vcl [(h, .inr (2, [.int (nI A), .int (nI B), .int hd, .ref h1, .ref h2])), (h1, aN cI 256 f), (h2, aI cI 256 g)] H := hP
  have hD : va_D (Aa [h, h1, h2] H0.size) [(h, .inr (2, [.int (nI A), .int (nI B), .int hd, .ref h1, .ref h2])), (h1, aN cI 256 f), (h2, aI cI 256 g)] := hD
  refine lv_aload_n hx hb d_P_begin_10 rfl (lv_at hl 0 rfl) ?_
  refine lv_iconst (v := (nI 0)) hx hb d_P_begin_11 (by decide) ?_
  refine va_put (D := D) (ci := 2) (v := .int (nI 0)) (ty := .int) (C := R_R) (T := T_R) (N := 5) hx hb (us_R G hW) (fun _ h => h) t_R to_R nm_R hown hK hP hD hS 0 rfl rfl 2 (by decide) (fl_P_16 G hW) (fun _ h9 => h9) rfl (by decide +kernel) rfl rfl (Nat.le_of_ble_eq_true rfl) d_P_begin_12 (fun H locs hP hD hS => ?_)
  have hP : va_P D vcl [(h, .inr (2, [.int (nI A), .int (nI B), .int (nI 0), .ref h1, .ref h2])), (h1, aN cI 256 f), (h2, aI cI 256 g)] H := hP
  have hD : va_D (Aa [h, h1, h2] H0.size) [(h, .inr (2, [.int (nI A), .int (nI B), .int (nI 0), .ref h1, .ref h2])), (h1, aN cI 256 f), (h2, aI cI 256 g)] := hD
  refine lv_aload_n hx hb d_P_begin_15 rfl (lv_at hl 0 rfl) ?_
  refine mx_callN (c_R_wipe G h h1 h2 A B 0 f g hP hD) hW (iv_P_begin_16_R G hx hb hown hW (va_recv hK hP (ci := 2) (q0 := 0) rfl rfl) [] [] rfl) hml hl.1 (by rw [hb]; exact d_P_begin_16) (cd_R_wipe G hW) ⟨Nat.le_of_ble_eq_true rfl, Nat.le_of_ble_eq_true rfl⟩ (Nat.le_of_ble_eq_true rfl) (Nat.le_of_ble_eq_true rfl) (Nat.le_of_ble_eq_true rfl) hS (Aa.mono (fun _ h => h) hS.1) (fun H locs hP _ _ hS => ?_)
  have hP : va_P D vcl [(h, .inr (2, [.int (nI A), .int (nI B), .int (nI 0), .ref h1, .ref h2])), (h1, aN cI 256 f), (h2, aI cI 256 g)] H := hP
  have hD : va_D (Aa [h, h1, h2] H0.size) [(h, .inr (2, [.int (nI A), .int (nI B), .int (nI 0), .ref h1, .ref h2])), (h1, aN cI 256 f), (h2, aI cI 256 g)] := va_D.same2 [h, h1, h2] hD rfl rfl
  exact mx_vret hx hb hr hlk d_P_begin_19 (Nat.le_of_ble_eq_true rfl) (Nat.le_of_ble_eq_true rfl) hS.2.2 (⟨rfl, hP⟩)

set_option maxHeartbeats 4000000 in
set_option maxRecDepth 100000 in
theorem c_P_accept_C {l : Launch} {s0 : State} {D : va_G} {cI cF cJ : ClassId} (G : Gx l s0 D cI cF cJ) (h h1 h2 h3 A B : Nat) (hd : Int32) (cs pl pb : Nat → Nat) (x : Int64) {H0 : Heap} {A0 : Nat → Prop} (hP : va_P D vcl [(h, .inr (0, [.int (nI A), .int (nI B), .int hd, .ref h1, .ref h2, .ref h3])), (h1, aN cI 1024 cs), (h2, aN cI 6 pl), (h3, aN cI 6 pb)] H0) (hD : va_D A0 [(h, .inr (0, [.int (nI A), .int (nI B), .int hd, .ref h1, .ref h2, .ref h3])), (h1, aN cI 1024 cs), (h2, aN cI 6 pl), (h3, aN cI 6 pb)]) (hA : A ≤ 10) (hB : B ≤ 6) (hc1 : ∀ j, j < 1024 → cs j ≤ 15) : Mx l s0 y_P_accept (.code y_P_accept b_P_accept 3 (some .boolean)) { frames := 5, cells := 0, slots := 0, locals := 114 } [.ref h, .long x] H0 (Aa [h, h1, h2, h3] H0.size) (Rw (.int (bI (allN (fitA cs (plx A x) B) B))) (fun H1 => va_P D vcl [(h, .inr (0, [.int (nI A), .int (nI B), .int (if (allN (fitA cs (plx A x) B) B) then hd + nI 1 else hd), .ref h1, .ref h2, .ref h3])), (h1, aN cI 1024 (if (allN (fitA cs (plx A x) B) B) then addC cs (plx A x) B else cs)), (h2, aN cI 6 (fpr A x pl B)), (h3, aN cI 6 pb)] H1)) := by
  refine Mx.ofW (own := "FewBits$Filter") rfl rfl ?_
  rintro p e s m below meth c ⟨hx, hb, hml, hr, hown, hW, hlk⟩ hnm het hH
  have hK := G.k hW
  have hD := hD.aa (sz := H0.size)
  have hD : va_D (Aa [h, h1, h2, h3] H0.size) [(h, .inr (0, [.int (nI A), .int (nI B), .int hd, .ref h1, .ref h2, .ref h3])), (h1, aN cI 1024 cs), (h2, aN cI 6 pl), (h3, aN cI 6 pb)] := hD
  have hS : va_S (Aa [h, h1, h2, h3] H0.size) H0 H0 [] := va_S.rf
  have hl := lv_entry ([.ref h, .long x]) (n := 3) (Nat.le_of_ble_eq_true rfl)
  rw [lg_entry_eq]
  generalize (lg_sl ([.ref h, .long x]) ++ List.replicate (3 - (lg_sl ([.ref h, .long x])).length) Slot.unset).toArray = ls at hl ⊢
  have hl : lv_has ls 3 [(0, .ref h), (1, .long x)] := hl
  refine lv_aload_n hx hb d_P_accept_0 rfl (lv_at hl 0 rfl) ?_
  refine lv_lload_n hx hb d_P_accept_1 rfl (lv_at hl 1 rfl) ?_
  refine mx_callW (r := .int (bI (allN (fitA cs (plx A x) B) B))) (c_C_put2 G h h1 h2 h3 A B hd cs pl pb x hP hD hA hB hc1) hW (iv_P_accept_2_C G hx hb hown hW (va_recv hK hP (ci := 0) (q0 := 0) rfl rfl) [.long x] [] rfl) hml hl.1 (by rw [hb]; exact d_P_accept_2) (cd_C_put G hW) ⟨Nat.le_of_ble_eq_true rfl, Nat.le_of_ble_eq_true rfl⟩ (Nat.le_of_ble_eq_true rfl) (Nat.le_of_ble_eq_true rfl) (Nat.le_of_ble_eq_true rfl) hS (Aa.mono (fun _ h => h) hS.1) (fun H locs hP _ _ hS => ?_)
  have hP : va_P D vcl [(h, .inr (0, [.int (nI A), .int (nI B), .int hd, .ref h1, .ref h2, .ref h3])), (h1, aN cI 1024 (if (allN (fitA cs (plx A x) B) B) then addC cs (plx A x) B else cs)), (h2, aN cI 6 (fpr A x pl B)), (h3, aN cI 6 pb)] H := hP
  have hD : va_D (Aa [h, h1, h2, h3] H0.size) [(h, .inr (0, [.int (nI A), .int (nI B), .int hd, .ref h1, .ref h2, .ref h3])), (h1, aN cI 1024 (if (allN (fitA cs (plx A x) B) B) then addC cs (plx A x) B else cs)), (h2, aN cI 6 (fpr A x pl B)), (h3, aN cI 6 pb)] := va_D.same2 [h, h1, h2, h3] hD rfl rfl
  refine lv_if_ne (tgt := 10) hx hb d_P_accept_5 (by decide) (fun c_5 => ?_) (fun c_5 => ?_)
  · have hok : (allN (fitA cs (plx A x) B) B) = true := bI_t c_5
    refine lv_aload_n hx hb d_P_accept_10 rfl (lv_at hl 0 rfl) ?_
    refine lv_dup hx hb d_P_accept_11 rfl ?_
    refine va_get (D := D) (ci := 0) (v := .int hd) (C := R_C) (T := T_C) (N := 6) hx hb (us_C G hW) (fun _ h => h) hown hK hP 0 rfl rfl 2 (by decide) (fl_P_16 G hW) (fun _ h9 => h9) rfl d_P_accept_12 ?_
    refine lv_iconst (v := (nI 1)) hx hb d_P_accept_15 (by decide) ?_
    refine lv_iadd hx hb d_P_accept_16 ?_
    refine va_put (D := D) (ci := 0) (v := .int (hd + (nI 1))) (ty := .int) (C := R_C) (T := T_C) (N := 6) hx hb (us_C G hW) (fun _ h => h) t_C to_C nm_C hown hK hP hD hS 0 rfl rfl 2 (by decide) (fl_P_16 G hW) (fun _ h9 => h9) rfl (by decide +kernel) rfl rfl (Nat.le_of_ble_eq_true rfl) d_P_accept_17 (fun H locs hP hD hS => ?_)
    have hP : va_P D vcl [(h, .inr (0, [.int (nI A), .int (nI B), .int (hd + (nI 1)), .ref h1, .ref h2, .ref h3])), (h1, aN cI 1024 (if (allN (fitA cs (plx A x) B) B) then addC cs (plx A x) B else cs)), (h2, aN cI 6 (fpr A x pl B)), (h3, aN cI 6 pb)] H := hP
    have hD : va_D (Aa [h, h1, h2, h3] H0.size) [(h, .inr (0, [.int (nI A), .int (nI B), .int (hd + (nI 1)), .ref h1, .ref h2, .ref h3])), (h1, aN cI 1024 (if (allN (fitA cs (plx A x) B) B) then addC cs (plx A x) B else cs)), (h2, aN cI 6 (fpr A x pl B)), (h3, aN cI 6 pb)] := hD
    refine lv_iconst (v := (nI 1)) hx hb d_P_accept_20 (by decide) ?_
    exact mx_zret hx hb hr hlk d_P_accept_21 (Nat.le_of_ble_eq_true rfl) (Nat.le_of_ble_eq_true rfl) hS.2.2 (rfl) (⟨by rw [hok]; rfl, by rw [hok] at hP ⊢; exact hP⟩)
  · have hok : (allN (fitA cs (plx A x) B) B) = false := bI_f c_5
    refine lv_iconst (v := (nI 0)) hx hb d_P_accept_8 (by decide) ?_
    exact mx_zret hx hb hr hlk d_P_accept_9 (Nat.le_of_ble_eq_true rfl) (Nat.le_of_ble_eq_true rfl) hS.2.2 (rfl) (⟨by rw [hok]; rfl, by rw [hok] at hP ⊢; exact hP⟩)

set_option maxHeartbeats 4000000 in
set_option maxRecDepth 100000 in
theorem c_P_release_C {l : Launch} {s0 : State} {D : va_G} {cI cF cJ : ClassId} (G : Gx l s0 D cI cF cJ) (h h1 h2 h3 A B : Nat) (hd : Int32) (cs pl pb : Nat → Nat) (x : Int64) {H0 : Heap} {A0 : Nat → Prop} (hP : va_P D vcl [(h, .inr (0, [.int (nI A), .int (nI B), .int hd, .ref h1, .ref h2, .ref h3])), (h1, aN cI 1024 cs), (h2, aN cI 6 pl), (h3, aN cI 6 pb)] H0) (hD : va_D A0 [(h, .inr (0, [.int (nI A), .int (nI B), .int hd, .ref h1, .ref h2, .ref h3])), (h1, aN cI 1024 cs), (h2, aN cI 6 pl), (h3, aN cI 6 pb)]) (hA : A ≤ 10) (hB : B ≤ 6) (hc1 : ∀ j, j < 1024 → cs j ≤ 15) : Mx l s0 y_P_release (.code y_P_release b_P_release 3 (some .boolean)) { frames := 5, cells := 0, slots := 0, locals := 114 } [.ref h, .long x] H0 (Aa [h, h1, h2, h3] H0.size) (Rw (.int (bI (allN (fitS cs (plx A x) B) B))) (fun H1 => va_P D vcl [(h, .inr (0, [.int (nI A), .int (nI B), .int (if (allN (fitS cs (plx A x) B) B) then hd - nI 1 else hd), .ref h1, .ref h2, .ref h3])), (h1, aN cI 1024 (if (allN (fitS cs (plx A x) B) B) then subC cs (plx A x) B else cs)), (h2, aN cI 6 (fpr A x pl B)), (h3, aN cI 6 pb)] H1)) := by
  refine Mx.ofW (own := "FewBits$Filter") rfl rfl ?_
  rintro p e s m below meth c ⟨hx, hb, hml, hr, hown, hW, hlk⟩ hnm het hH
  have hK := G.k hW
  have hD := hD.aa (sz := H0.size)
  have hD : va_D (Aa [h, h1, h2, h3] H0.size) [(h, .inr (0, [.int (nI A), .int (nI B), .int hd, .ref h1, .ref h2, .ref h3])), (h1, aN cI 1024 cs), (h2, aN cI 6 pl), (h3, aN cI 6 pb)] := hD
  have hS : va_S (Aa [h, h1, h2, h3] H0.size) H0 H0 [] := va_S.rf
  have hl := lv_entry ([.ref h, .long x]) (n := 3) (Nat.le_of_ble_eq_true rfl)
  rw [lg_entry_eq]
  generalize (lg_sl ([.ref h, .long x]) ++ List.replicate (3 - (lg_sl ([.ref h, .long x])).length) Slot.unset).toArray = ls at hl ⊢
  have hl : lv_has ls 3 [(0, .ref h), (1, .long x)] := hl
  refine lv_aload_n hx hb d_P_release_0 rfl (lv_at hl 0 rfl) ?_
  refine lv_lload_n hx hb d_P_release_1 rfl (lv_at hl 1 rfl) ?_
  refine mx_callW (r := .int (bI (allN (fitS cs (plx A x) B) B))) (c_C_take2 G h h1 h2 h3 A B hd cs pl pb x hP hD hA hB hc1) hW (iv_P_release_2_C G hx hb hown hW (va_recv hK hP (ci := 0) (q0 := 0) rfl rfl) [.long x] [] rfl) hml hl.1 (by rw [hb]; exact d_P_release_2) (cd_C_take G hW) ⟨Nat.le_of_ble_eq_true rfl, Nat.le_of_ble_eq_true rfl⟩ (Nat.le_of_ble_eq_true rfl) (Nat.le_of_ble_eq_true rfl) (Nat.le_of_ble_eq_true rfl) hS (Aa.mono (fun _ h => h) hS.1) (fun H locs hP _ _ hS => ?_)
  have hP : va_P D vcl [(h, .inr (0, [.int (nI A), .int (nI B), .int hd, .ref h1, .ref h2, .ref h3])), (h1, aN cI 1024 (if (allN (fitS cs (plx A x) B) B) then subC cs (plx A x) B else cs)), (h2, aN cI 6 (fpr A x pl B)), (h3, aN cI 6 pb)] H := hP
  have hD : va_D (Aa [h, h1, h2, h3] H0.size) [(h, .inr (0, [.int (nI A), .int (nI B), .int hd, .ref h1, .ref h2, .ref h3])), (h1, aN cI 1024 (if (allN (fitS cs (plx A x) B) B) then subC cs (plx A x) B else cs)), (h2, aN cI 6 (fpr A x pl B)), (h3, aN cI 6 pb)] := va_D.same2 [h, h1, h2, h3] hD rfl rfl
  refine lv_if_ne (tgt := 10) hx hb d_P_release_5 (by decide) (fun c_5 => ?_) (fun c_5 => ?_)
  · have hok : (allN (fitS cs (plx A x) B) B) = true := bI_t c_5
    refine lv_aload_n hx hb d_P_release_10 rfl (lv_at hl 0 rfl) ?_
    refine lv_dup hx hb d_P_release_11 rfl ?_
    refine va_get (D := D) (ci := 0) (v := .int hd) (C := R_C) (T := T_C) (N := 6) hx hb (us_C G hW) (fun _ h => h) hown hK hP 0 rfl rfl 2 (by decide) (fl_P_16 G hW) (fun _ h9 => h9) rfl d_P_release_12 ?_
    refine lv_iconst (v := (nI 1)) hx hb d_P_release_15 (by decide) ?_
    refine lv_isub hx hb d_P_release_16 ?_
    refine va_put (D := D) (ci := 0) (v := .int (hd - (nI 1))) (ty := .int) (C := R_C) (T := T_C) (N := 6) hx hb (us_C G hW) (fun _ h => h) t_C to_C nm_C hown hK hP hD hS 0 rfl rfl 2 (by decide) (fl_P_16 G hW) (fun _ h9 => h9) rfl (by decide +kernel) rfl rfl (Nat.le_of_ble_eq_true rfl) d_P_release_17 (fun H locs hP hD hS => ?_)
    have hP : va_P D vcl [(h, .inr (0, [.int (nI A), .int (nI B), .int (hd - (nI 1)), .ref h1, .ref h2, .ref h3])), (h1, aN cI 1024 (if (allN (fitS cs (plx A x) B) B) then subC cs (plx A x) B else cs)), (h2, aN cI 6 (fpr A x pl B)), (h3, aN cI 6 pb)] H := hP
    have hD : va_D (Aa [h, h1, h2, h3] H0.size) [(h, .inr (0, [.int (nI A), .int (nI B), .int (hd - (nI 1)), .ref h1, .ref h2, .ref h3])), (h1, aN cI 1024 (if (allN (fitS cs (plx A x) B) B) then subC cs (plx A x) B else cs)), (h2, aN cI 6 (fpr A x pl B)), (h3, aN cI 6 pb)] := hD
    refine lv_iconst (v := (nI 1)) hx hb d_P_release_20 (by decide) ?_
    exact mx_zret hx hb hr hlk d_P_release_21 (Nat.le_of_ble_eq_true rfl) (Nat.le_of_ble_eq_true rfl) hS.2.2 (rfl) (⟨by rw [hok]; rfl, by rw [hok] at hP ⊢; exact hP⟩)
  · have hok : (allN (fitS cs (plx A x) B) B) = false := bI_f c_5
    refine lv_iconst (v := (nI 0)) hx hb d_P_release_8 (by decide) ?_
    exact mx_zret hx hb hr hlk d_P_release_9 (Nat.le_of_ble_eq_true rfl) (Nat.le_of_ble_eq_true rfl) hS.2.2 (rfl) (⟨by rw [hok]; rfl, by rw [hok] at hP ⊢; exact hP⟩)

set_option maxHeartbeats 4000000 in
set_option maxRecDepth 100000 in
theorem c_P_accept_B {l : Launch} {s0 : State} {D : va_G} {cI cF cJ : ClassId} (G : Gx l s0 D cI cF cJ) (h h1 h2 A B : Nat) (hd pu : Int32) (sl pt : Nat → Nat) (x : Int64) {H0 : Heap} {A0 : Nat → Prop} (hP : va_P D vcl [(h, .inr (1, [.int (nI A), .int (nI B), .int hd, .ref h1, .ref h2, .int pu])), (h1, aN cI 1024 sl), (h2, aN cI 64 pt)] H0) (hD : va_D A0 [(h, .inr (1, [.int (nI A), .int (nI B), .int hd, .ref h1, .ref h2, .int pu])), (h1, aN cI 1024 sl), (h2, aN cI 64 pt)]) (hA : A ≤ 8) (hB4 : 4 ≤ B) (hB : B ≤ 16) (hs : ∀ j, j < 1024 → sl j < 65536) : Mx l s0 y_P_accept (.code y_P_accept b_P_accept 3 (some .boolean)) { frames := 5, cells := 0, slots := 0, locals := 114 } [.ref h, .long x] H0 (Aa [h, h1, h2] H0.size) (Rw (.int (bI (putB A B x sl).1.isSome)) (fun H1 => ∃ pt1, va_P D vcl [(h, .inr (1, [.int (nI A), .int (nI B), .int (if (putB A B x sl).1.isSome then hd + nI 1 else hd), .ref h1, .ref h2, .int (pu + nI (putB A B x sl).2)])), (h1, aN cI 1024 ((putB A B x sl).1.getD sl)), (h2, aN cI 64 pt1)] H1)) := by
  refine Mx.ofW (own := "FewBits$Filter") rfl rfl ?_
  rintro p e s m below meth c ⟨hx, hb, hml, hr, hown, hW, hlk⟩ hnm het hH
  have hK := G.k hW
  have hD := hD.aa (sz := H0.size)
  have hD : va_D (Aa [h, h1, h2] H0.size) [(h, .inr (1, [.int (nI A), .int (nI B), .int hd, .ref h1, .ref h2, .int pu])), (h1, aN cI 1024 sl), (h2, aN cI 64 pt)] := hD
  have hS : va_S (Aa [h, h1, h2] H0.size) H0 H0 [] := va_S.rf
  have hl := lv_entry ([.ref h, .long x]) (n := 3) (Nat.le_of_ble_eq_true rfl)
  rw [lg_entry_eq]
  generalize (lg_sl ([.ref h, .long x]) ++ List.replicate (3 - (lg_sl ([.ref h, .long x])).length) Slot.unset).toArray = ls at hl ⊢
  have hl : lv_has ls 3 [(0, .ref h), (1, .long x)] := hl
  refine lv_aload_n hx hb d_P_accept_0 rfl (lv_at hl 0 rfl) ?_
  refine lv_lload_n hx hb d_P_accept_1 rfl (lv_at hl 1 rfl) ?_
  refine mx_callW (r := .int (bI (putB A B x sl).1.isSome)) (c_B_put G h h1 h2 A B hd pu sl pt x hP hD hA hB4 hB hs) hW (iv_P_accept_2_B G hx hb hown hW (va_recv hK hP (ci := 1) (q0 := 0) rfl rfl) [.long x] [] rfl) hml hl.1 (by rw [hb]; exact d_P_accept_2) (cd_B_put G hW) ⟨Nat.le_of_ble_eq_true rfl, Nat.le_of_ble_eq_true rfl⟩ (Nat.le_of_ble_eq_true rfl) (Nat.le_of_ble_eq_true rfl) (Nat.le_of_ble_eq_true rfl) hS (Aa.mono (fun _ h => h) hS.1) (fun H locs hP _ _ hS => ?_)
  obtain ⟨pt1, hP⟩ := hP
  have hP : va_P D vcl [(h, .inr (1, [.int (nI A), .int (nI B), .int hd, .ref h1, .ref h2, .int (pu + nI (putB A B x sl).2)])), (h1, aN cI 1024 ((putB A B x sl).1.getD sl)), (h2, aN cI 64 pt1)] H := hP
  have hD : va_D (Aa [h, h1, h2] H0.size) [(h, .inr (1, [.int (nI A), .int (nI B), .int hd, .ref h1, .ref h2, .int (pu + nI (putB A B x sl).2)])), (h1, aN cI 1024 ((putB A B x sl).1.getD sl)), (h2, aN cI 64 pt1)] := va_D.same2 [h, h1, h2] hD rfl rfl
  refine lv_if_ne (tgt := 10) hx hb d_P_accept_5 (by decide) (fun c_5 => ?_) (fun c_5 => ?_)
  · have hok : (putB A B x sl).1.isSome = true := bI_t c_5
    refine lv_aload_n hx hb d_P_accept_10 rfl (lv_at hl 0 rfl) ?_
    refine lv_dup hx hb d_P_accept_11 rfl ?_
    refine va_get (D := D) (ci := 1) (v := .int hd) (C := R_B) (T := T_B) (N := 6) hx hb (us_B G hW) (fun _ h => h) hown hK hP 0 rfl rfl 2 (by decide) (fl_P_16 G hW) (fun _ h9 => h9) rfl d_P_accept_12 ?_
    refine lv_iconst (v := (nI 1)) hx hb d_P_accept_15 (by decide) ?_
    refine lv_iadd hx hb d_P_accept_16 ?_
    refine va_put (D := D) (ci := 1) (v := .int (hd + (nI 1))) (ty := .int) (C := R_B) (T := T_B) (N := 6) hx hb (us_B G hW) (fun _ h => h) t_B to_B nm_B hown hK hP hD hS 0 rfl rfl 2 (by decide) (fl_P_16 G hW) (fun _ h9 => h9) rfl (by decide +kernel) rfl rfl (Nat.le_of_ble_eq_true rfl) d_P_accept_17 (fun H locs hP hD hS => ?_)
    have hP : va_P D vcl [(h, .inr (1, [.int (nI A), .int (nI B), .int (hd + (nI 1)), .ref h1, .ref h2, .int (pu + nI (putB A B x sl).2)])), (h1, aN cI 1024 ((putB A B x sl).1.getD sl)), (h2, aN cI 64 pt1)] H := hP
    have hD : va_D (Aa [h, h1, h2] H0.size) [(h, .inr (1, [.int (nI A), .int (nI B), .int (hd + (nI 1)), .ref h1, .ref h2, .int (pu + nI (putB A B x sl).2)])), (h1, aN cI 1024 ((putB A B x sl).1.getD sl)), (h2, aN cI 64 pt1)] := hD
    refine lv_iconst (v := (nI 1)) hx hb d_P_accept_20 (by decide) ?_
    exact mx_zret hx hb hr hlk d_P_accept_21 (Nat.le_of_ble_eq_true rfl) (Nat.le_of_ble_eq_true rfl) hS.2.2 (rfl) (⟨by rw [hok]; rfl, pt1, by rw [hok]; exact hP⟩)
  · have hok : (putB A B x sl).1.isSome = false := bI_f c_5
    refine lv_iconst (v := (nI 0)) hx hb d_P_accept_8 (by decide) ?_
    exact mx_zret hx hb hr hlk d_P_accept_9 (Nat.le_of_ble_eq_true rfl) (Nat.le_of_ble_eq_true rfl) hS.2.2 (rfl) (⟨by rw [hok]; rfl, pt1, by rw [hok]; exact hP⟩)

set_option maxHeartbeats 4000000 in
set_option maxRecDepth 100000 in
theorem c_P_release_B {l : Launch} {s0 : State} {D : va_G} {cI cF cJ : ClassId} (G : Gx l s0 D cI cF cJ) (h h1 h2 A B : Nat) (hd pu : Int32) (sl pt : Nat → Nat) (x : Int64) {H0 : Heap} {A0 : Nat → Prop} (hP : va_P D vcl [(h, .inr (1, [.int (nI A), .int (nI B), .int hd, .ref h1, .ref h2, .int pu])), (h1, aN cI 1024 sl), (h2, aN cI 64 pt)] H0) (hD : va_D A0 [(h, .inr (1, [.int (nI A), .int (nI B), .int hd, .ref h1, .ref h2, .int pu])), (h1, aN cI 1024 sl), (h2, aN cI 64 pt)]) (hA : A ≤ 8) (hB4 : 4 ≤ B) (hB : B ≤ 16) (hs : ∀ j, j < 1024 → sl j < 65536) : Mx l s0 y_P_release (.code y_P_release b_P_release 3 (some .boolean)) { frames := 5, cells := 0, slots := 0, locals := 114 } [.ref h, .long x] H0 (Aa [h, h1, h2] H0.size) (Rw (.int (bI (slotB A B x sl).isSome)) (fun H1 => va_P D vcl [(h, .inr (1, [.int (nI A), .int (nI B), .int (if (slotB A B x sl).isSome then hd - nI 1 else hd), .ref h1, .ref h2, .int pu])), (h1, aN cI 1024 (tkB A B x sl)), (h2, aN cI 64 pt)] H1)) := by
  refine Mx.ofW (own := "FewBits$Filter") rfl rfl ?_
  rintro p e s m below meth c ⟨hx, hb, hml, hr, hown, hW, hlk⟩ hnm het hH
  have hK := G.k hW
  have hD := hD.aa (sz := H0.size)
  have hD : va_D (Aa [h, h1, h2] H0.size) [(h, .inr (1, [.int (nI A), .int (nI B), .int hd, .ref h1, .ref h2, .int pu])), (h1, aN cI 1024 sl), (h2, aN cI 64 pt)] := hD
  have hS : va_S (Aa [h, h1, h2] H0.size) H0 H0 [] := va_S.rf
  have hl := lv_entry ([.ref h, .long x]) (n := 3) (Nat.le_of_ble_eq_true rfl)
  rw [lg_entry_eq]
  generalize (lg_sl ([.ref h, .long x]) ++ List.replicate (3 - (lg_sl ([.ref h, .long x])).length) Slot.unset).toArray = ls at hl ⊢
  have hl : lv_has ls 3 [(0, .ref h), (1, .long x)] := hl
  refine lv_aload_n hx hb d_P_release_0 rfl (lv_at hl 0 rfl) ?_
  refine lv_lload_n hx hb d_P_release_1 rfl (lv_at hl 1 rfl) ?_
  refine mx_callW (r := .int (bI (slotB A B x sl).isSome)) (c_B_take G h h1 h2 A B hd pu sl pt x hP hD hA hB4 hB hs) hW (iv_P_release_2_B G hx hb hown hW (va_recv hK hP (ci := 1) (q0 := 0) rfl rfl) [.long x] [] rfl) hml hl.1 (by rw [hb]; exact d_P_release_2) (cd_B_take G hW) ⟨Nat.le_of_ble_eq_true rfl, Nat.le_of_ble_eq_true rfl⟩ (Nat.le_of_ble_eq_true rfl) (Nat.le_of_ble_eq_true rfl) (Nat.le_of_ble_eq_true rfl) hS (Aa.mono (fun _ h => h) hS.1) (fun H locs hP _ _ hS => ?_)
  have hP : va_P D vcl [(h, .inr (1, [.int (nI A), .int (nI B), .int hd, .ref h1, .ref h2, .int pu])), (h1, aN cI 1024 (tkB A B x sl)), (h2, aN cI 64 pt)] H := hP
  have hD : va_D (Aa [h, h1, h2] H0.size) [(h, .inr (1, [.int (nI A), .int (nI B), .int hd, .ref h1, .ref h2, .int pu])), (h1, aN cI 1024 (tkB A B x sl)), (h2, aN cI 64 pt)] := va_D.same2 [h, h1, h2] hD rfl rfl
  refine lv_if_ne (tgt := 10) hx hb d_P_release_5 (by decide) (fun c_5 => ?_) (fun c_5 => ?_)
  · have hok : (slotB A B x sl).isSome = true := bI_t c_5
    refine lv_aload_n hx hb d_P_release_10 rfl (lv_at hl 0 rfl) ?_
    refine lv_dup hx hb d_P_release_11 rfl ?_
    refine va_get (D := D) (ci := 1) (v := .int hd) (C := R_B) (T := T_B) (N := 6) hx hb (us_B G hW) (fun _ h => h) hown hK hP 0 rfl rfl 2 (by decide) (fl_P_16 G hW) (fun _ h9 => h9) rfl d_P_release_12 ?_
    refine lv_iconst (v := (nI 1)) hx hb d_P_release_15 (by decide) ?_
    refine lv_isub hx hb d_P_release_16 ?_
    refine va_put (D := D) (ci := 1) (v := .int (hd - (nI 1))) (ty := .int) (C := R_B) (T := T_B) (N := 6) hx hb (us_B G hW) (fun _ h => h) t_B to_B nm_B hown hK hP hD hS 0 rfl rfl 2 (by decide) (fl_P_16 G hW) (fun _ h9 => h9) rfl (by decide +kernel) rfl rfl (Nat.le_of_ble_eq_true rfl) d_P_release_17 (fun H locs hP hD hS => ?_)
    have hP : va_P D vcl [(h, .inr (1, [.int (nI A), .int (nI B), .int (hd - (nI 1)), .ref h1, .ref h2, .int pu])), (h1, aN cI 1024 (tkB A B x sl)), (h2, aN cI 64 pt)] H := hP
    have hD : va_D (Aa [h, h1, h2] H0.size) [(h, .inr (1, [.int (nI A), .int (nI B), .int (hd - (nI 1)), .ref h1, .ref h2, .int pu])), (h1, aN cI 1024 (tkB A B x sl)), (h2, aN cI 64 pt)] := hD
    refine lv_iconst (v := (nI 1)) hx hb d_P_release_20 (by decide) ?_
    exact mx_zret hx hb hr hlk d_P_release_21 (Nat.le_of_ble_eq_true rfl) (Nat.le_of_ble_eq_true rfl) hS.2.2 (rfl) (⟨by rw [hok]; rfl, by rw [hok]; exact hP⟩)
  · have hok : (slotB A B x sl).isSome = false := bI_f c_5
    refine lv_iconst (v := (nI 0)) hx hb d_P_release_8 (by decide) ?_
    exact mx_zret hx hb hr hlk d_P_release_9 (Nat.le_of_ble_eq_true rfl) (Nat.le_of_ble_eq_true rfl) hS.2.2 (rfl) (⟨by rw [hok]; rfl, by rw [hok]; exact hP⟩)

set_option maxHeartbeats 4000000 in
set_option maxRecDepth 100000 in
theorem c_P_accept_R {l : Launch} {s0 : State} {D : va_G} {cI cF cJ : ClassId} (G : Gx l s0 D cI cF cJ) (h h1 h2 A B n : Nat) (f : Nat → Nat) (g : Nat → Int32) (x : Int64) {H0 : Heap} {A0 : Nat → Prop} (hP : va_P D vcl [(h, .inr (2, [.int (nI A), .int (nI B), .int (nI n), .ref h1, .ref h2])), (h1, aN cI 256 f), (h2, aI cI 256 g)] H0) (hD : va_D A0 [(h, .inr (2, [.int (nI A), .int (nI B), .int (nI n), .ref h1, .ref h2])), (h1, aN cI 256 f), (h2, aI cI 256 g)]) (hA : A ≤ 8) (hB1 : 1 ≤ B) (hB : B ≤ 20) (hn : n ≤ 256) (hf : ∀ i, i < n → f i < 2 ^ 28) (hsr : srt f n) : Mx l s0 y_P_accept (.code y_P_accept b_P_accept 3 (some .boolean)) { frames := 5, cells := 0, slots := 0, locals := 114 } [.ref h, .long x] H0 (Aa [h, h1, h2] H0.size) (Rw (.int (bI (decide (n < 2 ^ A)))) (fun H1 => va_P D vcl [(h, .inr (2, [.int (nI A), .int (nI B), .int (nI (if n < 2 ^ A then n + 1 else n)), .ref h1, .ref h2])), (h1, aN cI 256 (if n < 2 ^ A then insF f n (prN A B x) else f)), (h2, aI cI 256 g)] H1)) := by
  refine Mx.ofW (own := "FewBits$Filter") rfl rfl ?_
  rintro p e s m below meth c ⟨hx, hb, hml, hr, hown, hW, hlk⟩ hnm het hH
  have hK := G.k hW
  have hD := hD.aa (sz := H0.size)
  have hD : va_D (Aa [h, h1, h2] H0.size) [(h, .inr (2, [.int (nI A), .int (nI B), .int (nI n), .ref h1, .ref h2])), (h1, aN cI 256 f), (h2, aI cI 256 g)] := hD
  have hS : va_S (Aa [h, h1, h2] H0.size) H0 H0 [] := va_S.rf
  have hl := lv_entry ([.ref h, .long x]) (n := 3) (Nat.le_of_ble_eq_true rfl)
  rw [lg_entry_eq]
  generalize (lg_sl ([.ref h, .long x]) ++ List.replicate (3 - (lg_sl ([.ref h, .long x])).length) Slot.unset).toArray = ls at hl ⊢
  have hl : lv_has ls 3 [(0, .ref h), (1, .long x)] := hl
  refine lv_aload_n hx hb d_P_accept_0 rfl (lv_at hl 0 rfl) ?_
  refine lv_lload_n hx hb d_P_accept_1 rfl (lv_at hl 1 rfl) ?_
  refine mx_callW (r := .int (bI (decide (n < 2 ^ A)))) (c_R_put G h h1 h2 A B n f g x hP hD hA hB1 hB hn hf hsr) hW (iv_P_accept_2_R G hx hb hown hW (va_recv hK hP (ci := 2) (q0 := 0) rfl rfl) [.long x] [] rfl) hml hl.1 (by rw [hb]; exact d_P_accept_2) (cd_R_put G hW) ⟨Nat.le_of_ble_eq_true rfl, Nat.le_of_ble_eq_true rfl⟩ (Nat.le_of_ble_eq_true rfl) (Nat.le_of_ble_eq_true rfl) (Nat.le_of_ble_eq_true rfl) hS (Aa.mono (fun _ h => h) hS.1) (fun H locs hP _ _ hS => ?_)
  have hP : va_P D vcl [(h, .inr (2, [.int (nI A), .int (nI B), .int (nI n), .ref h1, .ref h2])), (h1, aN cI 256 (if n < 2 ^ A then insF f n (prN A B x) else f)), (h2, aI cI 256 g)] H := hP
  have hD : va_D (Aa [h, h1, h2] H0.size) [(h, .inr (2, [.int (nI A), .int (nI B), .int (nI n), .ref h1, .ref h2])), (h1, aN cI 256 (if n < 2 ^ A then insF f n (prN A B x) else f)), (h2, aI cI 256 g)] := va_D.same2 [h, h1, h2] hD rfl rfl
  refine lv_if_ne (tgt := 10) hx hb d_P_accept_5 (by decide) (fun c_5 => ?_) (fun c_5 => ?_)
  · have hok : n < 2 ^ A := of_decide_eq_true (bI_t (b := decide (n < 2 ^ A)) c_5)
    refine lv_aload_n hx hb d_P_accept_10 rfl (lv_at hl 0 rfl) ?_
    refine lv_dup hx hb d_P_accept_11 rfl ?_
    refine va_get (D := D) (ci := 2) (v := .int (nI n)) (C := R_R) (T := T_R) (N := 5) hx hb (us_R G hW) (fun _ h => h) hown hK hP 0 rfl rfl 2 (by decide) (fl_P_16 G hW) (fun _ h9 => h9) rfl d_P_accept_12 ?_
    refine lv_iconst (v := (nI 1)) hx hb d_P_accept_15 (by decide) ?_
    refine lv_iadd hx hb d_P_accept_16 ?_
    refine tp_i (y := (nI (n + 1))) (nI_add _ _) ?_
    refine va_put (D := D) (ci := 2) (v := .int (nI (n + 1))) (ty := .int) (C := R_R) (T := T_R) (N := 5) hx hb (us_R G hW) (fun _ h => h) t_R to_R nm_R hown hK hP hD hS 0 rfl rfl 2 (by decide) (fl_P_16 G hW) (fun _ h9 => h9) rfl (by decide +kernel) rfl rfl (Nat.le_of_ble_eq_true rfl) d_P_accept_17 (fun H locs hP hD hS => ?_)
    have hP : va_P D vcl [(h, .inr (2, [.int (nI A), .int (nI B), .int (nI (n + 1)), .ref h1, .ref h2])), (h1, aN cI 256 (if n < 2 ^ A then insF f n (prN A B x) else f)), (h2, aI cI 256 g)] H := hP
    have hD : va_D (Aa [h, h1, h2] H0.size) [(h, .inr (2, [.int (nI A), .int (nI B), .int (nI (n + 1)), .ref h1, .ref h2])), (h1, aN cI 256 (if n < 2 ^ A then insF f n (prN A B x) else f)), (h2, aI cI 256 g)] := hD
    refine lv_iconst (v := (nI 1)) hx hb d_P_accept_20 (by decide) ?_
    exact mx_zret hx hb hr hlk d_P_accept_21 (Nat.le_of_ble_eq_true rfl) (Nat.le_of_ble_eq_true rfl) hS.2.2 (rfl) (⟨by rw [decide_eq_true hok]; rfl, by rw [if_pos hok] at hP; rw [if_pos hok, if_pos hok]; exact hP⟩)
  · have hok : ¬ n < 2 ^ A := of_decide_eq_false (bI_f (b := decide (n < 2 ^ A)) c_5)
    refine lv_iconst (v := (nI 0)) hx hb d_P_accept_8 (by decide) ?_
    exact mx_zret hx hb hr hlk d_P_accept_9 (Nat.le_of_ble_eq_true rfl) (Nat.le_of_ble_eq_true rfl) hS.2.2 (rfl) (⟨by rw [decide_eq_false hok]; rfl, by rw [if_neg hok] at hP; rw [if_neg hok, if_neg hok]; exact hP⟩)

set_option maxHeartbeats 4000000 in
set_option maxRecDepth 100000 in
theorem c_P_release_R {l : Launch} {s0 : State} {D : va_G} {cI cF cJ : ClassId} (G : Gx l s0 D cI cF cJ) (h h1 h2 A B n : Nat) (f : Nat → Nat) (g : Nat → Int32) (x : Int64) {H0 : Heap} {A0 : Nat → Prop} (hP : va_P D vcl [(h, .inr (2, [.int (nI A), .int (nI B), .int (nI n), .ref h1, .ref h2])), (h1, aN cI 256 f), (h2, aI cI 256 g)] H0) (hD : va_D A0 [(h, .inr (2, [.int (nI A), .int (nI B), .int (nI n), .ref h1, .ref h2])), (h1, aN cI 256 f), (h2, aI cI 256 g)]) (hA : A ≤ 8) (hB1 : 1 ≤ B) (hB : B ≤ 20) (hn : n ≤ 256) (hf : ∀ i, i < n → f i < 2 ^ 28) (hsr : srt f n) : Mx l s0 y_P_release (.code y_P_release b_P_release 3 (some .boolean)) { frames := 5, cells := 0, slots := 0, locals := 114 } [.ref h, .long x] H0 (Aa [h, h1, h2] H0.size) (Rw (.int (bI (inF f n (prN A B x)))) (fun H1 => va_P D vcl [(h, .inr (2, [.int (nI A), .int (nI B), .int (nI (if inF f n (prN A B x) then n - 1 else n)), .ref h1, .ref h2])), (h1, aN cI 256 (if inF f n (prN A B x) then delF f n (prN A B x) else f)), (h2, aI cI 256 g)] H1)) := by
  refine Mx.ofW (own := "FewBits$Filter") rfl rfl ?_
  rintro p e s m below meth c ⟨hx, hb, hml, hr, hown, hW, hlk⟩ hnm het hH
  have hK := G.k hW
  have hD := hD.aa (sz := H0.size)
  have hD : va_D (Aa [h, h1, h2] H0.size) [(h, .inr (2, [.int (nI A), .int (nI B), .int (nI n), .ref h1, .ref h2])), (h1, aN cI 256 f), (h2, aI cI 256 g)] := hD
  have hS : va_S (Aa [h, h1, h2] H0.size) H0 H0 [] := va_S.rf
  have hl := lv_entry ([.ref h, .long x]) (n := 3) (Nat.le_of_ble_eq_true rfl)
  rw [lg_entry_eq]
  generalize (lg_sl ([.ref h, .long x]) ++ List.replicate (3 - (lg_sl ([.ref h, .long x])).length) Slot.unset).toArray = ls at hl ⊢
  have hl : lv_has ls 3 [(0, .ref h), (1, .long x)] := hl
  refine lv_aload_n hx hb d_P_release_0 rfl (lv_at hl 0 rfl) ?_
  refine lv_lload_n hx hb d_P_release_1 rfl (lv_at hl 1 rfl) ?_
  refine mx_callW (r := .int (bI (inF f n (prN A B x)))) (c_R_take G h h1 h2 A B n f g x hP hD hA hB1 hB hn hf hsr) hW (iv_P_release_2_R G hx hb hown hW (va_recv hK hP (ci := 2) (q0 := 0) rfl rfl) [.long x] [] rfl) hml hl.1 (by rw [hb]; exact d_P_release_2) (cd_R_take G hW) ⟨Nat.le_of_ble_eq_true rfl, Nat.le_of_ble_eq_true rfl⟩ (Nat.le_of_ble_eq_true rfl) (Nat.le_of_ble_eq_true rfl) (Nat.le_of_ble_eq_true rfl) hS (Aa.mono (fun _ h => h) hS.1) (fun H locs hP _ _ hS => ?_)
  have hP : va_P D vcl [(h, .inr (2, [.int (nI A), .int (nI B), .int (nI n), .ref h1, .ref h2])), (h1, aN cI 256 (if inF f n (prN A B x) then delF f n (prN A B x) else f)), (h2, aI cI 256 g)] H := hP
  have hD : va_D (Aa [h, h1, h2] H0.size) [(h, .inr (2, [.int (nI A), .int (nI B), .int (nI n), .ref h1, .ref h2])), (h1, aN cI 256 (if inF f n (prN A B x) then delF f n (prN A B x) else f)), (h2, aI cI 256 g)] := va_D.same2 [h, h1, h2] hD rfl rfl
  refine lv_if_ne (tgt := 10) hx hb d_P_release_5 (by decide) (fun c_5 => ?_) (fun c_5 => ?_)
  · have hok : inF f n (prN A B x) = true := bI_t c_5
    refine lv_aload_n hx hb d_P_release_10 rfl (lv_at hl 0 rfl) ?_
    refine lv_dup hx hb d_P_release_11 rfl ?_
    refine va_get (D := D) (ci := 2) (v := .int (nI n)) (C := R_R) (T := T_R) (N := 5) hx hb (us_R G hW) (fun _ h => h) hown hK hP 0 rfl rfl 2 (by decide) (fl_P_16 G hW) (fun _ h9 => h9) rfl d_P_release_12 ?_
    refine lv_iconst (v := (nI 1)) hx hb d_P_release_15 (by decide) ?_
    refine lv_isub hx hb d_P_release_16 ?_
    refine tp_i (y := (nI (n - 1))) (pk_sub (by have h9 : inF f n (prN A B x) = true := hok; unfold inF at h9; rw [Bool.and_eq_true] at h9; have h8 := of_decide_eq_true h9.1; omega)) ?_
    refine va_put (D := D) (ci := 2) (v := .int (nI (n - 1))) (ty := .int) (C := R_R) (T := T_R) (N := 5) hx hb (us_R G hW) (fun _ h => h) t_R to_R nm_R hown hK hP hD hS 0 rfl rfl 2 (by decide) (fl_P_16 G hW) (fun _ h9 => h9) rfl (by decide +kernel) rfl rfl (Nat.le_of_ble_eq_true rfl) d_P_release_17 (fun H locs hP hD hS => ?_)
    have hP : va_P D vcl [(h, .inr (2, [.int (nI A), .int (nI B), .int (nI (n - 1)), .ref h1, .ref h2])), (h1, aN cI 256 (if inF f n (prN A B x) then delF f n (prN A B x) else f)), (h2, aI cI 256 g)] H := hP
    have hD : va_D (Aa [h, h1, h2] H0.size) [(h, .inr (2, [.int (nI A), .int (nI B), .int (nI (n - 1)), .ref h1, .ref h2])), (h1, aN cI 256 (if inF f n (prN A B x) then delF f n (prN A B x) else f)), (h2, aI cI 256 g)] := hD
    refine lv_iconst (v := (nI 1)) hx hb d_P_release_20 (by decide) ?_
    exact mx_zret hx hb hr hlk d_P_release_21 (Nat.le_of_ble_eq_true rfl) (Nat.le_of_ble_eq_true rfl) hS.2.2 (rfl) (⟨by rw [hok]; rfl, by rw [hok] at hP ⊢; exact hP⟩)
  · have hok : inF f n (prN A B x) = false := bI_f c_5
    refine lv_iconst (v := (nI 0)) hx hb d_P_release_8 (by decide) ?_
    exact mx_zret hx hb hr hlk d_P_release_9 (Nat.le_of_ble_eq_true rfl) (Nat.le_of_ble_eq_true rfl) hS.2.2 (rfl) (⟨by rw [hok]; rfl, by rw [hok] at hP ⊢; exact hP⟩)
