set_option maxHeartbeats 4000000 in
set_option maxRecDepth 100000 in
theorem c_F_merge_no1 {l : Launch} {s0 : State} {D : va_G} {cI cF cJ : ClassId} (G : Gx l s0 D cI cF cJ) (xo fa ma : Nat) (fi mk : Nat → Option Nat) (v v2 : Int32) {H0 : Heap} (hP : va_P D vcl [(xo, .inr (3, [.ref fa, .ref ma])), (fa, aQ cF 4 fi), (ma, aQ cF 12 mk)] H0) (hv : isNum v = false) (hon : onS s0 H0) : Mx l s0 y_F_merge (.code y_F_merge b_F_merge 7 (some .int)) { frames := 7, cells := 1, slots := 6, locals := 160 } [.ref xo, .int v, .int v2] H0 (fun _ => False) (Rq s0 (some E_I) none (fun _ => True)) := by
  refine Mx.ofW (own := "FewBits") rfl rfl ?_
  rintro p e s m below meth c ⟨hx, hb, hml, hr, hown, hW, hlk⟩ hnm het hH
  have hK := G.k hW
  have hl := lv_entry ([.ref xo, .int v, .int v2]) (n := 7) (Nat.le_of_ble_eq_true rfl)
  rw [lg_entry_eq]
  generalize (lg_sl ([.ref xo, .int v, .int v2]) ++ List.replicate (7 - (lg_sl ([.ref xo, .int v, .int v2])).length) Slot.unset).toArray = ls at hl ⊢
  have hl : lv_has ls 7 [(0, .ref xo), (1, .int v), (2, .int v2)] := hl
  refine lv_iload_n hx hb d_F_merge_0 rfl (lv_at hl 1 rfl) ?_
  exact mx_callT (c_F_requireNumber_no G v hv hon) hW (iv_F_merge_1 G hx hb hown hW [.int v] [] rfl) hml hl.1 (by rw [hb]; exact d_F_merge_1) (cd_F_requireNumber G hW) ⟨Nat.le_of_ble_eq_true rfl, Nat.le_of_ble_eq_true rfl⟩ (Nat.le_of_ble_eq_true rfl) (Nat.le_of_ble_eq_true rfl) (Nat.le_of_ble_eq_true rfl) het hlk (Nat.le_of_ble_eq_true rfl) (Nat.le_of_ble_eq_true rfl) (fun _ h => nomatch h) (fun _ h => h.elim) (fun H1 q hz hk hp ho => ⟨⟨q, rfl, ho⟩, trivial⟩)

set_option maxHeartbeats 4000000 in
set_option maxRecDepth 100000 in
theorem c_F_merge_no2 {l : Launch} {s0 : State} {D : va_G} {cI cF cJ : ClassId} (G : Gx l s0 D cI cF cJ) (xo fa ma : Nat) (fi mk : Nat → Option Nat) (j : Nat) (v : Int32) {H0 : Heap} (hP : va_P D vcl [(xo, .inr (3, [.ref fa, .ref ma])), (fa, aQ cF 4 fi), (ma, aQ cF 12 mk)] H0) (hj : j < 4) (hv : isNum v = false) (hon : onS s0 H0) : Mx l s0 y_F_merge (.code y_F_merge b_F_merge 7 (some .int)) { frames := 7, cells := 1, slots := 6, locals := 160 } [.ref xo, .int (nI j), .int v] H0 (fun _ => False) (Rq s0 (some E_I) none (fun _ => True)) := by
  refine Mx.ofW (own := "FewBits") rfl rfl ?_
  rintro p e s m below meth c ⟨hx, hb, hml, hr, hown, hW, hlk⟩ hnm het hH
  have hK := G.k hW
  have hl := lv_entry ([.ref xo, .int (nI j), .int v]) (n := 7) (Nat.le_of_ble_eq_true rfl)
  rw [lg_entry_eq]
  generalize (lg_sl ([.ref xo, .int (nI j), .int v]) ++ List.replicate (7 - (lg_sl ([.ref xo, .int (nI j), .int v])).length) Slot.unset).toArray = ls at hl ⊢
  have hl : lv_has ls 7 [(0, .ref xo), (1, .int (nI j)), (2, .int v)] := hl
  refine lv_iload_n hx hb d_F_merge_0 rfl (lv_at hl 1 rfl) ?_
  refine mx_callV (c_F_requireNumber_ok G (nI j) (isNum_nI hj)) hW (iv_F_merge_1 G hx hb hown hW [.int (nI j)] [] rfl) hml hl.1 (by rw [hb]; exact d_F_merge_1) (cd_F_requireNumber G hW) ⟨Nat.le_of_ble_eq_true rfl, Nat.le_of_ble_eq_true rfl⟩ rfl rfl (Nat.le_of_ble_eq_true rfl) (Nat.le_of_ble_eq_true rfl) (Nat.le_of_ble_eq_true rfl) ?_
  refine lv_iload_n hx hb d_F_merge_4 rfl (lv_at hl 2 rfl) ?_
  exact mx_callT (c_F_requireNumber_no G v hv hon) hW (iv_F_merge_5 G hx hb hown hW [.int v] [] rfl) hml hl.1 (by rw [hb]; exact d_F_merge_5) (cd_F_requireNumber G hW) ⟨Nat.le_of_ble_eq_true rfl, Nat.le_of_ble_eq_true rfl⟩ (Nat.le_of_ble_eq_true rfl) (Nat.le_of_ble_eq_true rfl) (Nat.le_of_ble_eq_true rfl) het hlk (Nat.le_of_ble_eq_true rfl) (Nat.le_of_ble_eq_true rfl) (fun _ h => nomatch h) (fun _ h => h.elim) (fun H1 q hz hk hp ho => ⟨⟨q, rfl, ho⟩, trivial⟩)

set_option maxHeartbeats 4000000 in
set_option maxRecDepth 100000 in
theorem c_F_merge_none1 {l : Launch} {s0 : State} {D : va_G} {cI cF cJ : ClassId} (G : Gx l s0 D cI cF cJ) (xo fa ma : Nat) (fi mk : Nat → Option Nat) (j j2 : Nat) {H0 : Heap} (hP : va_P D vcl [(xo, .inr (3, [.ref fa, .ref ma])), (fa, aQ cF 4 fi), (ma, aQ cF 12 mk)] H0) (hj : j < 4) (hj2 : j2 < 4) (hfi : fi j = none) (hon : onS s0 H0) : Mx l s0 y_F_merge (.code y_F_merge b_F_merge 7 (some .int)) { frames := 7, cells := 1, slots := 6, locals := 160 } [.ref xo, .int (nI j), .int (nI j2)] H0 (fun _ => False) (Rq s0 (some E_S) none (fun _ => True)) := by
  refine Mx.ofW (own := "FewBits") rfl rfl ?_
  rintro p e s m below meth c ⟨hx, hb, hml, hr, hown, hW, hlk⟩ hnm het hH
  have hK := G.k hW
  have hl := lv_entry ([.ref xo, .int (nI j), .int (nI j2)]) (n := 7) (Nat.le_of_ble_eq_true rfl)
  rw [lg_entry_eq]
  generalize (lg_sl ([.ref xo, .int (nI j), .int (nI j2)]) ++ List.replicate (7 - (lg_sl ([.ref xo, .int (nI j), .int (nI j2)])).length) Slot.unset).toArray = ls at hl ⊢
  have hl : lv_has ls 7 [(0, .ref xo), (1, .int (nI j)), (2, .int (nI j2))] := hl
  refine lv_iload_n hx hb d_F_merge_0 rfl (lv_at hl 1 rfl) ?_
  refine mx_callV (c_F_requireNumber_ok G (nI j) (isNum_nI hj)) hW (iv_F_merge_1 G hx hb hown hW [.int (nI j)] [] rfl) hml hl.1 (by rw [hb]; exact d_F_merge_1) (cd_F_requireNumber G hW) ⟨Nat.le_of_ble_eq_true rfl, Nat.le_of_ble_eq_true rfl⟩ rfl rfl (Nat.le_of_ble_eq_true rfl) (Nat.le_of_ble_eq_true rfl) (Nat.le_of_ble_eq_true rfl) ?_
  refine lv_iload_n hx hb d_F_merge_4 rfl (lv_at hl 2 rfl) ?_
  refine mx_callV (c_F_requireNumber_ok G (nI j2) (isNum_nI hj2)) hW (iv_F_merge_5 G hx hb hown hW [.int (nI j2)] [] rfl) hml hl.1 (by rw [hb]; exact d_F_merge_5) (cd_F_requireNumber G hW) ⟨Nat.le_of_ble_eq_true rfl, Nat.le_of_ble_eq_true rfl⟩ rfl rfl (Nat.le_of_ble_eq_true rfl) (Nat.le_of_ble_eq_true rfl) (Nat.le_of_ble_eq_true rfl) ?_
  refine lv_aload_n hx hb d_F_merge_8 rfl (lv_at hl 0 rfl) ?_
  refine lv_iload_n hx hb d_F_merge_9 rfl (lv_at hl 1 rfl) ?_
  exact mx_callT (c_F_filterAt_none G xo fa ma fi mk j hP hj hfi hon) hW (iv_F_merge_10 G hx hb hown hW (va_recv hK hP (ci := 3) (q0 := 0) rfl rfl) [.int (nI j)] [] rfl) hml hl.1 (by rw [hb]; exact d_F_merge_10) (cd_F_filterAt G hW) ⟨Nat.le_of_ble_eq_true rfl, Nat.le_of_ble_eq_true rfl⟩ (Nat.le_of_ble_eq_true rfl) (Nat.le_of_ble_eq_true rfl) (Nat.le_of_ble_eq_true rfl) het hlk (Nat.le_of_ble_eq_true rfl) (Nat.le_of_ble_eq_true rfl) (fun _ h => nomatch h) (fun _ h => h.elim) (fun H1 q hz hk hp ho => ⟨⟨q, rfl, ho⟩, trivial⟩)

set_option maxHeartbeats 4000000 in
set_option maxRecDepth 100000 in
theorem c_F_merge_none2 {l : Launch} {s0 : State} {D : va_G} {cI cF cJ : ClassId} (G : Gx l s0 D cI cF cJ) (xo fa ma : Nat) (fi mk : Nat → Option Nat) (j j2 h : Nat) {H0 : Heap} (hP : va_P D vcl [(xo, .inr (3, [.ref fa, .ref ma])), (fa, aQ cF 4 fi), (ma, aQ cF 12 mk)] H0) (hj : j < 4) (hj2 : j2 < 4) (hfi : fi j = some h) (hfi2 : fi j2 = none) (hon : onS s0 H0) : Mx l s0 y_F_merge (.code y_F_merge b_F_merge 7 (some .int)) { frames := 7, cells := 1, slots := 6, locals := 160 } [.ref xo, .int (nI j), .int (nI j2)] H0 (fun _ => False) (Rq s0 (some E_S) none (fun _ => True)) := by
  refine Mx.ofW (own := "FewBits") rfl rfl ?_
  rintro p e s m below meth c ⟨hx, hb, hml, hr, hown, hW, hlk⟩ hnm het hH
  have hK := G.k hW
  have hl := lv_entry ([.ref xo, .int (nI j), .int (nI j2)]) (n := 7) (Nat.le_of_ble_eq_true rfl)
  rw [lg_entry_eq]
  generalize (lg_sl ([.ref xo, .int (nI j), .int (nI j2)]) ++ List.replicate (7 - (lg_sl ([.ref xo, .int (nI j), .int (nI j2)])).length) Slot.unset).toArray = ls at hl ⊢
  have hl : lv_has ls 7 [(0, .ref xo), (1, .int (nI j)), (2, .int (nI j2))] := hl
  refine lv_iload_n hx hb d_F_merge_0 rfl (lv_at hl 1 rfl) ?_
  refine mx_callV (c_F_requireNumber_ok G (nI j) (isNum_nI hj)) hW (iv_F_merge_1 G hx hb hown hW [.int (nI j)] [] rfl) hml hl.1 (by rw [hb]; exact d_F_merge_1) (cd_F_requireNumber G hW) ⟨Nat.le_of_ble_eq_true rfl, Nat.le_of_ble_eq_true rfl⟩ rfl rfl (Nat.le_of_ble_eq_true rfl) (Nat.le_of_ble_eq_true rfl) (Nat.le_of_ble_eq_true rfl) ?_
  refine lv_iload_n hx hb d_F_merge_4 rfl (lv_at hl 2 rfl) ?_
  refine mx_callV (c_F_requireNumber_ok G (nI j2) (isNum_nI hj2)) hW (iv_F_merge_5 G hx hb hown hW [.int (nI j2)] [] rfl) hml hl.1 (by rw [hb]; exact d_F_merge_5) (cd_F_requireNumber G hW) ⟨Nat.le_of_ble_eq_true rfl, Nat.le_of_ble_eq_true rfl⟩ rfl rfl (Nat.le_of_ble_eq_true rfl) (Nat.le_of_ble_eq_true rfl) (Nat.le_of_ble_eq_true rfl) ?_
  refine lv_aload_n hx hb d_F_merge_8 rfl (lv_at hl 0 rfl) ?_
  refine lv_iload_n hx hb d_F_merge_9 rfl (lv_at hl 1 rfl) ?_
  refine mx_callR (r := .ref h) (c_F_filterAt G xo fa ma fi mk j h hP hj hfi) hW (iv_F_merge_10 G hx hb hown hW (va_recv hK hP (ci := 3) (q0 := 0) rfl rfl) [.int (nI j)] [] rfl) hml hl.1 (by rw [hb]; exact d_F_merge_10) (cd_F_filterAt G hW) ⟨Nat.le_of_ble_eq_true rfl, Nat.le_of_ble_eq_true rfl⟩ rfl rfl (Nat.le_of_ble_eq_true rfl) (Nat.le_of_ble_eq_true rfl) (Nat.le_of_ble_eq_true rfl) ?_
  refine lv_astore_n (lv' := [(3, .ref h), (0, .ref xo), (1, .int (nI j)), (2, .int (nI j2))]) hx hb d_F_merge_13 rfl hl (by decide) rfl (fun ls hl => ?_)
  refine lv_aload_n hx hb d_F_merge_14 rfl (lv_at hl 1 rfl) ?_
  refine lv_iload_n hx hb d_F_merge_15 rfl (lv_at hl 3 rfl) ?_
  exact mx_callT (c_F_filterAt_none G xo fa ma fi mk j2 hP hj2 hfi2 hon) hW (iv_F_merge_16 G hx hb hown hW (va_recv hK hP (ci := 3) (q0 := 0) rfl rfl) [.int (nI j2)] [] rfl) hml hl.1 (by rw [hb]; exact d_F_merge_16) (cd_F_filterAt G hW) ⟨Nat.le_of_ble_eq_true rfl, Nat.le_of_ble_eq_true rfl⟩ (Nat.le_of_ble_eq_true rfl) (Nat.le_of_ble_eq_true rfl) (Nat.le_of_ble_eq_true rfl) het hlk (Nat.le_of_ble_eq_true rfl) (Nat.le_of_ble_eq_true rfl) (fun _ h => nomatch h) (fun _ h => h.elim) (fun H1 q hz hk hp ho => ⟨⟨q, rfl, ho⟩, trivial⟩)

set_option maxHeartbeats 4000000 in
set_option maxRecDepth 100000 in
theorem c_F_merge_nr1_C {l : Launch} {s0 : State} {D : va_G} {cI cF cJ : ClassId} (G : Gx l s0 D cI cF cJ) (xo fa ma : Nat) (fi mk : Nat → Option Nat) (h h1 h2 h3 A B : Nat) (hd pv : Int32) (cs pl pb : Nat → Nat) (n0 : Nat) (f0 : Nat → Nat) (j j2 h9 : Nat) {H0 : Heap} (hP : va_P D vcl [(xo, .inr (3, [.ref fa, .ref ma])), (fa, aQ cF 4 fi), (ma, aQ cF 12 mk), (h, .inr (0, [.int (nI A), .int (nI B), .int hd, .ref h1, .ref h2, .ref h3])), (h1, aN cI 1024 cs), (h2, aN cI 6 pl), (h3, aN cI 6 pb)] H0) (hj : j < 4) (hj2 : j2 < 4) (hfi : fi j = some h) (hfi2 : fi j2 = some h9) (hon : onS s0 H0) : Mx l s0 y_F_merge (.code y_F_merge b_F_merge 7 (some .int)) { frames := 7, cells := 1, slots := 6, locals := 160 } [.ref xo, .int (nI j), .int (nI j2)] H0 (fun _ => False) (Rq s0 (some E_A) none (fun _ => True)) := by
  refine Mx.ofW (own := "FewBits") rfl rfl ?_
  rintro p e s m below meth c ⟨hx, hb, hml, hr, hown, hW, hlk⟩ hnm het hH
  have hK := G.k hW
  have hl := lv_entry ([.ref xo, .int (nI j), .int (nI j2)]) (n := 7) (Nat.le_of_ble_eq_true rfl)
  rw [lg_entry_eq]
  generalize (lg_sl ([.ref xo, .int (nI j), .int (nI j2)]) ++ List.replicate (7 - (lg_sl ([.ref xo, .int (nI j), .int (nI j2)])).length) Slot.unset).toArray = ls at hl ⊢
  have hl : lv_has ls 7 [(0, .ref xo), (1, .int (nI j)), (2, .int (nI j2))] := hl
  refine lv_iload_n hx hb d_F_merge_0 rfl (lv_at hl 1 rfl) ?_
  refine mx_callV (c_F_requireNumber_ok G (nI j) (isNum_nI hj)) hW (iv_F_merge_1 G hx hb hown hW [.int (nI j)] [] rfl) hml hl.1 (by rw [hb]; exact d_F_merge_1) (cd_F_requireNumber G hW) ⟨Nat.le_of_ble_eq_true rfl, Nat.le_of_ble_eq_true rfl⟩ rfl rfl (Nat.le_of_ble_eq_true rfl) (Nat.le_of_ble_eq_true rfl) (Nat.le_of_ble_eq_true rfl) ?_
  refine lv_iload_n hx hb d_F_merge_4 rfl (lv_at hl 2 rfl) ?_
  refine mx_callV (c_F_requireNumber_ok G (nI j2) (isNum_nI hj2)) hW (iv_F_merge_5 G hx hb hown hW [.int (nI j2)] [] rfl) hml hl.1 (by rw [hb]; exact d_F_merge_5) (cd_F_requireNumber G hW) ⟨Nat.le_of_ble_eq_true rfl, Nat.le_of_ble_eq_true rfl⟩ rfl rfl (Nat.le_of_ble_eq_true rfl) (Nat.le_of_ble_eq_true rfl) (Nat.le_of_ble_eq_true rfl) ?_
  refine lv_aload_n hx hb d_F_merge_8 rfl (lv_at hl 0 rfl) ?_
  refine lv_iload_n hx hb d_F_merge_9 rfl (lv_at hl 1 rfl) ?_
  refine mx_callR (r := .ref h) (c_F_filterAt G xo fa ma fi mk j h (hP.sub [0, 1, 2] rfl) hj hfi) hW (iv_F_merge_10 G hx hb hown hW (va_recv hK hP (ci := 3) (q0 := 0) rfl rfl) [.int (nI j)] [] rfl) hml hl.1 (by rw [hb]; exact d_F_merge_10) (cd_F_filterAt G hW) ⟨Nat.le_of_ble_eq_true rfl, Nat.le_of_ble_eq_true rfl⟩ rfl rfl (Nat.le_of_ble_eq_true rfl) (Nat.le_of_ble_eq_true rfl) (Nat.le_of_ble_eq_true rfl) ?_
  refine lv_astore_n (lv' := [(3, .ref h), (0, .ref xo), (1, .int (nI j)), (2, .int (nI j2))]) hx hb d_F_merge_13 rfl hl (by decide) rfl (fun ls hl => ?_)
  refine lv_aload_n hx hb d_F_merge_14 rfl (lv_at hl 1 rfl) ?_
  refine lv_iload_n hx hb d_F_merge_15 rfl (lv_at hl 3 rfl) ?_
  refine mx_callR (r := .ref h9) (c_F_filterAt G xo fa ma fi mk j2 h9 (hP.sub [0, 1, 2] rfl) hj2 hfi2) hW (iv_F_merge_16 G hx hb hown hW (va_recv hK hP (ci := 3) (q0 := 0) rfl rfl) [.int (nI j2)] [] rfl) hml hl.1 (by rw [hb]; exact d_F_merge_16) (cd_F_filterAt G hW) ⟨Nat.le_of_ble_eq_true rfl, Nat.le_of_ble_eq_true rfl⟩ rfl rfl (Nat.le_of_ble_eq_true rfl) (Nat.le_of_ble_eq_true rfl) (Nat.le_of_ble_eq_true rfl) ?_
  refine lv_astore (lv' := [(4, .ref h9), (3, .ref h), (0, .ref xo), (1, .int (nI j)), (2, .int (nI j2))]) hx hb d_F_merge_19 hl (by decide) rfl (fun ls hl => ?_)
  refine lv_aload_n hx hb d_F_merge_21 rfl (lv_at hl 1 rfl) ?_
  exact mx_callT (c_F_asRuns_C G h h1 h2 h3 A B hd cs pl pb (hP.sub [3, 4, 5, 6] rfl) hon) hW (iv_F_merge_22 G hx hb hown hW [.ref h] [] rfl) hml hl.1 (by rw [hb]; exact d_F_merge_22) (cd_F_asRuns G hW) ⟨Nat.le_of_ble_eq_true rfl, Nat.le_of_ble_eq_true rfl⟩ (Nat.le_of_ble_eq_true rfl) (Nat.le_of_ble_eq_true rfl) (Nat.le_of_ble_eq_true rfl) het hlk (Nat.le_of_ble_eq_true rfl) (Nat.le_of_ble_eq_true rfl) (fun _ h => nomatch h) (fun _ h => h.elim) (fun H1 q hz hk hp ho => ⟨⟨q, rfl, ho⟩, trivial⟩)

set_option maxHeartbeats 4000000 in
set_option maxRecDepth 100000 in
theorem c_F_merge_nr2_C {l : Launch} {s0 : State} {D : va_G} {cI cF cJ : ClassId} (G : Gx l s0 D cI cF cJ) (xo fa ma : Nat) (fi mk : Nat → Option Nat) (h h1 h2 A B n : Nat) (f : Nat → Nat) (g : Nat → Int32) (k0 k1 k2 k3 A2 B2 : Nat) (hd : Int32) (cs pl pb : Nat → Nat) (j j2 : Nat) {H0 : Heap} (hP : va_P D vcl [(xo, .inr (3, [.ref fa, .ref ma])), (fa, aQ cF 4 fi), (ma, aQ cF 12 mk), (h, .inr (2, [.int (nI A), .int (nI B), .int (nI n), .ref h1, .ref h2])), (h1, aN cI 256 f), (h2, aI cI 256 g), (k0, .inr (0, [.int (nI A2), .int (nI B2), .int hd, .ref k1, .ref k2, .ref k3])), (k1, aN cI 1024 cs), (k2, aN cI 6 pl), (k3, aN cI 6 pb)] H0) (hj : j < 4) (hj2 : j2 < 4) (hfi : fi j = some h) (hfi2 : fi j2 = some k0) (hon : onS s0 H0) : Mx l s0 y_F_merge (.code y_F_merge b_F_merge 7 (some .int)) { frames := 7, cells := 1, slots := 6, locals := 160 } [.ref xo, .int (nI j), .int (nI j2)] H0 (fun _ => False) (Rq s0 (some E_A) none (fun _ => True)) := by
  refine Mx.ofW (own := "FewBits") rfl rfl ?_
  rintro p e s m below meth c ⟨hx, hb, hml, hr, hown, hW, hlk⟩ hnm het hH
  have hK := G.k hW
  have hl := lv_entry ([.ref xo, .int (nI j), .int (nI j2)]) (n := 7) (Nat.le_of_ble_eq_true rfl)
  rw [lg_entry_eq]
  generalize (lg_sl ([.ref xo, .int (nI j), .int (nI j2)]) ++ List.replicate (7 - (lg_sl ([.ref xo, .int (nI j), .int (nI j2)])).length) Slot.unset).toArray = ls at hl ⊢
  have hl : lv_has ls 7 [(0, .ref xo), (1, .int (nI j)), (2, .int (nI j2))] := hl
  refine lv_iload_n hx hb d_F_merge_0 rfl (lv_at hl 1 rfl) ?_
  refine mx_callV (c_F_requireNumber_ok G (nI j) (isNum_nI hj)) hW (iv_F_merge_1 G hx hb hown hW [.int (nI j)] [] rfl) hml hl.1 (by rw [hb]; exact d_F_merge_1) (cd_F_requireNumber G hW) ⟨Nat.le_of_ble_eq_true rfl, Nat.le_of_ble_eq_true rfl⟩ rfl rfl (Nat.le_of_ble_eq_true rfl) (Nat.le_of_ble_eq_true rfl) (Nat.le_of_ble_eq_true rfl) ?_
  refine lv_iload_n hx hb d_F_merge_4 rfl (lv_at hl 2 rfl) ?_
  refine mx_callV (c_F_requireNumber_ok G (nI j2) (isNum_nI hj2)) hW (iv_F_merge_5 G hx hb hown hW [.int (nI j2)] [] rfl) hml hl.1 (by rw [hb]; exact d_F_merge_5) (cd_F_requireNumber G hW) ⟨Nat.le_of_ble_eq_true rfl, Nat.le_of_ble_eq_true rfl⟩ rfl rfl (Nat.le_of_ble_eq_true rfl) (Nat.le_of_ble_eq_true rfl) (Nat.le_of_ble_eq_true rfl) ?_
  refine lv_aload_n hx hb d_F_merge_8 rfl (lv_at hl 0 rfl) ?_
  refine lv_iload_n hx hb d_F_merge_9 rfl (lv_at hl 1 rfl) ?_
  refine mx_callR (r := .ref h) (c_F_filterAt G xo fa ma fi mk j h (hP.sub [0, 1, 2] rfl) hj hfi) hW (iv_F_merge_10 G hx hb hown hW (va_recv hK hP (ci := 3) (q0 := 0) rfl rfl) [.int (nI j)] [] rfl) hml hl.1 (by rw [hb]; exact d_F_merge_10) (cd_F_filterAt G hW) ⟨Nat.le_of_ble_eq_true rfl, Nat.le_of_ble_eq_true rfl⟩ rfl rfl (Nat.le_of_ble_eq_true rfl) (Nat.le_of_ble_eq_true rfl) (Nat.le_of_ble_eq_true rfl) ?_
  refine lv_astore_n (lv' := [(3, .ref h), (0, .ref xo), (1, .int (nI j)), (2, .int (nI j2))]) hx hb d_F_merge_13 rfl hl (by decide) rfl (fun ls hl => ?_)
  refine lv_aload_n hx hb d_F_merge_14 rfl (lv_at hl 1 rfl) ?_
  refine lv_iload_n hx hb d_F_merge_15 rfl (lv_at hl 3 rfl) ?_
  refine mx_callR (r := .ref k0) (c_F_filterAt G xo fa ma fi mk j2 k0 (hP.sub [0, 1, 2] rfl) hj2 hfi2) hW (iv_F_merge_16 G hx hb hown hW (va_recv hK hP (ci := 3) (q0 := 0) rfl rfl) [.int (nI j2)] [] rfl) hml hl.1 (by rw [hb]; exact d_F_merge_16) (cd_F_filterAt G hW) ⟨Nat.le_of_ble_eq_true rfl, Nat.le_of_ble_eq_true rfl⟩ rfl rfl (Nat.le_of_ble_eq_true rfl) (Nat.le_of_ble_eq_true rfl) (Nat.le_of_ble_eq_true rfl) ?_
  refine lv_astore (lv' := [(4, .ref k0), (3, .ref h), (0, .ref xo), (1, .int (nI j)), (2, .int (nI j2))]) hx hb d_F_merge_19 hl (by decide) rfl (fun ls hl => ?_)
  refine lv_aload_n hx hb d_F_merge_21 rfl (lv_at hl 1 rfl) ?_
  refine mx_callR (r := .ref h) (c_F_asRuns_R G h h1 h2 A B n f g (hP.sub [3, 4, 5] rfl)) hW (iv_F_merge_22 G hx hb hown hW [.ref h] [] rfl) hml hl.1 (by rw [hb]; exact d_F_merge_22) (cd_F_asRuns G hW) ⟨Nat.le_of_ble_eq_true rfl, Nat.le_of_ble_eq_true rfl⟩ rfl rfl (Nat.le_of_ble_eq_true rfl) (Nat.le_of_ble_eq_true rfl) (Nat.le_of_ble_eq_true rfl) ?_
  refine lv_astore (lv' := [(5, .ref h), (4, .ref k0), (3, .ref h), (0, .ref xo), (1, .int (nI j)), (2, .int (nI j2))]) hx hb d_F_merge_25 hl (by decide) rfl (fun ls hl => ?_)
  refine lv_aload hx hb d_F_merge_27 (lv_at hl 1 rfl) ?_
  exact mx_callT (c_F_asRuns_C G k0 k1 k2 k3 A2 B2 hd cs pl pb (hP.sub [6, 7, 8, 9] rfl) hon) hW (iv_F_merge_29 G hx hb hown hW [.ref k0] [] rfl) hml hl.1 (by rw [hb]; exact d_F_merge_29) (cd_F_asRuns G hW) ⟨Nat.le_of_ble_eq_true rfl, Nat.le_of_ble_eq_true rfl⟩ (Nat.le_of_ble_eq_true rfl) (Nat.le_of_ble_eq_true rfl) (Nat.le_of_ble_eq_true rfl) het hlk (Nat.le_of_ble_eq_true rfl) (Nat.le_of_ble_eq_true rfl) (fun _ h => nomatch h) (fun _ h => h.elim) (fun H1 q hz hk hp ho => ⟨⟨q, rfl, ho⟩, trivial⟩)

set_option maxHeartbeats 4000000 in
set_option maxRecDepth 100000 in
theorem c_F_merge_nr1_B {l : Launch} {s0 : State} {D : va_G} {cI cF cJ : ClassId} (G : Gx l s0 D cI cF cJ) (xo fa ma : Nat) (fi mk : Nat → Option Nat) (h h1 h2 A B : Nat) (hd pu : Int32) (sl pt : Nat → Nat) (n0 : Nat) (f0 : Nat → Nat) (j j2 h9 : Nat) {H0 : Heap} (hP : va_P D vcl [(xo, .inr (3, [.ref fa, .ref ma])), (fa, aQ cF 4 fi), (ma, aQ cF 12 mk), (h, .inr (1, [.int (nI A), .int (nI B), .int hd, .ref h1, .ref h2, .int pu])), (h1, aN cI 1024 sl), (h2, aN cI 64 pt)] H0) (hj : j < 4) (hj2 : j2 < 4) (hfi : fi j = some h) (hfi2 : fi j2 = some h9) (hon : onS s0 H0) : Mx l s0 y_F_merge (.code y_F_merge b_F_merge 7 (some .int)) { frames := 7, cells := 1, slots := 6, locals := 160 } [.ref xo, .int (nI j), .int (nI j2)] H0 (fun _ => False) (Rq s0 (some E_A) none (fun _ => True)) := by
  refine Mx.ofW (own := "FewBits") rfl rfl ?_
  rintro p e s m below meth c ⟨hx, hb, hml, hr, hown, hW, hlk⟩ hnm het hH
  have hK := G.k hW
  have hl := lv_entry ([.ref xo, .int (nI j), .int (nI j2)]) (n := 7) (Nat.le_of_ble_eq_true rfl)
  rw [lg_entry_eq]
  generalize (lg_sl ([.ref xo, .int (nI j), .int (nI j2)]) ++ List.replicate (7 - (lg_sl ([.ref xo, .int (nI j), .int (nI j2)])).length) Slot.unset).toArray = ls at hl ⊢
  have hl : lv_has ls 7 [(0, .ref xo), (1, .int (nI j)), (2, .int (nI j2))] := hl
  refine lv_iload_n hx hb d_F_merge_0 rfl (lv_at hl 1 rfl) ?_
  refine mx_callV (c_F_requireNumber_ok G (nI j) (isNum_nI hj)) hW (iv_F_merge_1 G hx hb hown hW [.int (nI j)] [] rfl) hml hl.1 (by rw [hb]; exact d_F_merge_1) (cd_F_requireNumber G hW) ⟨Nat.le_of_ble_eq_true rfl, Nat.le_of_ble_eq_true rfl⟩ rfl rfl (Nat.le_of_ble_eq_true rfl) (Nat.le_of_ble_eq_true rfl) (Nat.le_of_ble_eq_true rfl) ?_
  refine lv_iload_n hx hb d_F_merge_4 rfl (lv_at hl 2 rfl) ?_
  refine mx_callV (c_F_requireNumber_ok G (nI j2) (isNum_nI hj2)) hW (iv_F_merge_5 G hx hb hown hW [.int (nI j2)] [] rfl) hml hl.1 (by rw [hb]; exact d_F_merge_5) (cd_F_requireNumber G hW) ⟨Nat.le_of_ble_eq_true rfl, Nat.le_of_ble_eq_true rfl⟩ rfl rfl (Nat.le_of_ble_eq_true rfl) (Nat.le_of_ble_eq_true rfl) (Nat.le_of_ble_eq_true rfl) ?_
  refine lv_aload_n hx hb d_F_merge_8 rfl (lv_at hl 0 rfl) ?_
  refine lv_iload_n hx hb d_F_merge_9 rfl (lv_at hl 1 rfl) ?_
  refine mx_callR (r := .ref h) (c_F_filterAt G xo fa ma fi mk j h (hP.sub [0, 1, 2] rfl) hj hfi) hW (iv_F_merge_10 G hx hb hown hW (va_recv hK hP (ci := 3) (q0 := 0) rfl rfl) [.int (nI j)] [] rfl) hml hl.1 (by rw [hb]; exact d_F_merge_10) (cd_F_filterAt G hW) ⟨Nat.le_of_ble_eq_true rfl, Nat.le_of_ble_eq_true rfl⟩ rfl rfl (Nat.le_of_ble_eq_true rfl) (Nat.le_of_ble_eq_true rfl) (Nat.le_of_ble_eq_true rfl) ?_
  refine lv_astore_n (lv' := [(3, .ref h), (0, .ref xo), (1, .int (nI j)), (2, .int (nI j2))]) hx hb d_F_merge_13 rfl hl (by decide) rfl (fun ls hl => ?_)
  refine lv_aload_n hx hb d_F_merge_14 rfl (lv_at hl 1 rfl) ?_
  refine lv_iload_n hx hb d_F_merge_15 rfl (lv_at hl 3 rfl) ?_
  refine mx_callR (r := .ref h9) (c_F_filterAt G xo fa ma fi mk j2 h9 (hP.sub [0, 1, 2] rfl) hj2 hfi2) hW (iv_F_merge_16 G hx hb hown hW (va_recv hK hP (ci := 3) (q0 := 0) rfl rfl) [.int (nI j2)] [] rfl) hml hl.1 (by rw [hb]; exact d_F_merge_16) (cd_F_filterAt G hW) ⟨Nat.le_of_ble_eq_true rfl, Nat.le_of_ble_eq_true rfl⟩ rfl rfl (Nat.le_of_ble_eq_true rfl) (Nat.le_of_ble_eq_true rfl) (Nat.le_of_ble_eq_true rfl) ?_
  refine lv_astore (lv' := [(4, .ref h9), (3, .ref h), (0, .ref xo), (1, .int (nI j)), (2, .int (nI j2))]) hx hb d_F_merge_19 hl (by decide) rfl (fun ls hl => ?_)
  refine lv_aload_n hx hb d_F_merge_21 rfl (lv_at hl 1 rfl) ?_
  exact mx_callT (c_F_asRuns_B G h h1 h2 A B hd pu sl pt (hP.sub [3, 4, 5] rfl) hon) hW (iv_F_merge_22 G hx hb hown hW [.ref h] [] rfl) hml hl.1 (by rw [hb]; exact d_F_merge_22) (cd_F_asRuns G hW) ⟨Nat.le_of_ble_eq_true rfl, Nat.le_of_ble_eq_true rfl⟩ (Nat.le_of_ble_eq_true rfl) (Nat.le_of_ble_eq_true rfl) (Nat.le_of_ble_eq_true rfl) het hlk (Nat.le_of_ble_eq_true rfl) (Nat.le_of_ble_eq_true rfl) (fun _ h => nomatch h) (fun _ h => h.elim) (fun H1 q hz hk hp ho => ⟨⟨q, rfl, ho⟩, trivial⟩)

set_option maxHeartbeats 4000000 in
set_option maxRecDepth 100000 in
theorem c_F_merge_nr2_B {l : Launch} {s0 : State} {D : va_G} {cI cF cJ : ClassId} (G : Gx l s0 D cI cF cJ) (xo fa ma : Nat) (fi mk : Nat → Option Nat) (h h1 h2 A B n : Nat) (f : Nat → Nat) (g : Nat → Int32) (k0 k1 k2 A2 B2 : Nat) (hd pu : Int32) (sl pt : Nat → Nat) (j j2 : Nat) {H0 : Heap} (hP : va_P D vcl [(xo, .inr (3, [.ref fa, .ref ma])), (fa, aQ cF 4 fi), (ma, aQ cF 12 mk), (h, .inr (2, [.int (nI A), .int (nI B), .int (nI n), .ref h1, .ref h2])), (h1, aN cI 256 f), (h2, aI cI 256 g), (k0, .inr (1, [.int (nI A2), .int (nI B2), .int hd, .ref k1, .ref k2, .int pu])), (k1, aN cI 1024 sl), (k2, aN cI 64 pt)] H0) (hj : j < 4) (hj2 : j2 < 4) (hfi : fi j = some h) (hfi2 : fi j2 = some k0) (hon : onS s0 H0) : Mx l s0 y_F_merge (.code y_F_merge b_F_merge 7 (some .int)) { frames := 7, cells := 1, slots := 6, locals := 160 } [.ref xo, .int (nI j), .int (nI j2)] H0 (fun _ => False) (Rq s0 (some E_A) none (fun _ => True)) := by
  refine Mx.ofW (own := "FewBits") rfl rfl ?_
  rintro p e s m below meth c ⟨hx, hb, hml, hr, hown, hW, hlk⟩ hnm het hH
  have hK := G.k hW
  have hl := lv_entry ([.ref xo, .int (nI j), .int (nI j2)]) (n := 7) (Nat.le_of_ble_eq_true rfl)
  rw [lg_entry_eq]
  generalize (lg_sl ([.ref xo, .int (nI j), .int (nI j2)]) ++ List.replicate (7 - (lg_sl ([.ref xo, .int (nI j), .int (nI j2)])).length) Slot.unset).toArray = ls at hl ⊢
  have hl : lv_has ls 7 [(0, .ref xo), (1, .int (nI j)), (2, .int (nI j2))] := hl
  refine lv_iload_n hx hb d_F_merge_0 rfl (lv_at hl 1 rfl) ?_
  refine mx_callV (c_F_requireNumber_ok G (nI j) (isNum_nI hj)) hW (iv_F_merge_1 G hx hb hown hW [.int (nI j)] [] rfl) hml hl.1 (by rw [hb]; exact d_F_merge_1) (cd_F_requireNumber G hW) ⟨Nat.le_of_ble_eq_true rfl, Nat.le_of_ble_eq_true rfl⟩ rfl rfl (Nat.le_of_ble_eq_true rfl) (Nat.le_of_ble_eq_true rfl) (Nat.le_of_ble_eq_true rfl) ?_
  refine lv_iload_n hx hb d_F_merge_4 rfl (lv_at hl 2 rfl) ?_
  refine mx_callV (c_F_requireNumber_ok G (nI j2) (isNum_nI hj2)) hW (iv_F_merge_5 G hx hb hown hW [.int (nI j2)] [] rfl) hml hl.1 (by rw [hb]; exact d_F_merge_5) (cd_F_requireNumber G hW) ⟨Nat.le_of_ble_eq_true rfl, Nat.le_of_ble_eq_true rfl⟩ rfl rfl (Nat.le_of_ble_eq_true rfl) (Nat.le_of_ble_eq_true rfl) (Nat.le_of_ble_eq_true rfl) ?_
  refine lv_aload_n hx hb d_F_merge_8 rfl (lv_at hl 0 rfl) ?_
  refine lv_iload_n hx hb d_F_merge_9 rfl (lv_at hl 1 rfl) ?_
  refine mx_callR (r := .ref h) (c_F_filterAt G xo fa ma fi mk j h (hP.sub [0, 1, 2] rfl) hj hfi) hW (iv_F_merge_10 G hx hb hown hW (va_recv hK hP (ci := 3) (q0 := 0) rfl rfl) [.int (nI j)] [] rfl) hml hl.1 (by rw [hb]; exact d_F_merge_10) (cd_F_filterAt G hW) ⟨Nat.le_of_ble_eq_true rfl, Nat.le_of_ble_eq_true rfl⟩ rfl rfl (Nat.le_of_ble_eq_true rfl) (Nat.le_of_ble_eq_true rfl) (Nat.le_of_ble_eq_true rfl) ?_
  refine lv_astore_n (lv' := [(3, .ref h), (0, .ref xo), (1, .int (nI j)), (2, .int (nI j2))]) hx hb d_F_merge_13 rfl hl (by decide) rfl (fun ls hl => ?_)
  refine lv_aload_n hx hb d_F_merge_14 rfl (lv_at hl 1 rfl) ?_
  refine lv_iload_n hx hb d_F_merge_15 rfl (lv_at hl 3 rfl) ?_
  refine mx_callR (r := .ref k0) (c_F_filterAt G xo fa ma fi mk j2 k0 (hP.sub [0, 1, 2] rfl) hj2 hfi2) hW (iv_F_merge_16 G hx hb hown hW (va_recv hK hP (ci := 3) (q0 := 0) rfl rfl) [.int (nI j2)] [] rfl) hml hl.1 (by rw [hb]; exact d_F_merge_16) (cd_F_filterAt G hW) ⟨Nat.le_of_ble_eq_true rfl, Nat.le_of_ble_eq_true rfl⟩ rfl rfl (Nat.le_of_ble_eq_true rfl) (Nat.le_of_ble_eq_true rfl) (Nat.le_of_ble_eq_true rfl) ?_
  refine lv_astore (lv' := [(4, .ref k0), (3, .ref h), (0, .ref xo), (1, .int (nI j)), (2, .int (nI j2))]) hx hb d_F_merge_19 hl (by decide) rfl (fun ls hl => ?_)
  refine lv_aload_n hx hb d_F_merge_21 rfl (lv_at hl 1 rfl) ?_
  refine mx_callR (r := .ref h) (c_F_asRuns_R G h h1 h2 A B n f g (hP.sub [3, 4, 5] rfl)) hW (iv_F_merge_22 G hx hb hown hW [.ref h] [] rfl) hml hl.1 (by rw [hb]; exact d_F_merge_22) (cd_F_asRuns G hW) ⟨Nat.le_of_ble_eq_true rfl, Nat.le_of_ble_eq_true rfl⟩ rfl rfl (Nat.le_of_ble_eq_true rfl) (Nat.le_of_ble_eq_true rfl) (Nat.le_of_ble_eq_true rfl) ?_
  refine lv_astore (lv' := [(5, .ref h), (4, .ref k0), (3, .ref h), (0, .ref xo), (1, .int (nI j)), (2, .int (nI j2))]) hx hb d_F_merge_25 hl (by decide) rfl (fun ls hl => ?_)
  refine lv_aload hx hb d_F_merge_27 (lv_at hl 1 rfl) ?_
  exact mx_callT (c_F_asRuns_B G k0 k1 k2 A2 B2 hd pu sl pt (hP.sub [6, 7, 8] rfl) hon) hW (iv_F_merge_29 G hx hb hown hW [.ref k0] [] rfl) hml hl.1 (by rw [hb]; exact d_F_merge_29) (cd_F_asRuns G hW) ⟨Nat.le_of_ble_eq_true rfl, Nat.le_of_ble_eq_true rfl⟩ (Nat.le_of_ble_eq_true rfl) (Nat.le_of_ble_eq_true rfl) (Nat.le_of_ble_eq_true rfl) het hlk (Nat.le_of_ble_eq_true rfl) (Nat.le_of_ble_eq_true rfl) (fun _ h => nomatch h) (fun _ h => h.elim) (fun H1 q hz hk hp ho => ⟨⟨q, rfl, ho⟩, trivial⟩)


set_option maxHeartbeats 4000000 in
set_option maxRecDepth 100000 in
theorem c_F_asRuns_R2 {l : Launch} {s0 : State} {D : va_G} {cI cF cJ : ClassId} (G : Gx l s0 D cI cF cJ) (k0 k1 k2 A2 B2 n2 : Nat) {H0 : Heap} (hP : va_P D vcl [(k0, .inr (2, [.int (nI A2), .int (nI B2), .int (nI n2), .ref k1, .ref k2]))] H0) : Mx l s0 y_F_asRuns (.code y_F_asRuns b_F_asRuns 2 (some (.object "FewBits$Runs"))) { frames := 0, cells := 0, slots := 0, locals := 0 } [.ref k0] H0 (fun _ => False) (Rd H0 (.ref k0)) := by
  refine Mx.ofW (own := "FewBits") rfl rfl ?_
  rintro p e s m below meth c ⟨hx, hb, hml, hr, hown, hW, hlk⟩ hnm het hH
  have hK := G.k hW
  have hl := lv_entry ([.ref k0]) (n := 2) (Nat.le_of_ble_eq_true rfl)
  rw [lg_entry_eq]
  generalize (lg_sl ([.ref k0]) ++ List.replicate (2 - (lg_sl ([.ref k0])).length) Slot.unset).toArray = ls at hl ⊢
  have hl : lv_has ls 2 [(0, .ref k0)] := hl
  refine lv_aload_n hx hb d_F_asRuns_0 rfl (lv_at hl 0 rfl) ?_
  refine va_instY (nm := R_R) hx hb hown (G.1.at 223 rfl rfl _ hW) (ca_RR G hW) (va_recv hK hP (ci := 2) (q0 := 0) rfl rfl) d_F_asRuns_1 ?_
  refine lv_if_eq (tgt := 14) hx hb d_F_asRuns_4 (by decide) (fun c_4 => absurd c_4 (by decide)) (fun c_4 => ?_)
  refine lv_aload_n hx hb d_F_asRuns_7 rfl (lv_at hl 0 rfl) ?_
  refine va_castY (nm := R_R) hx hb hown (G.1.at 223 rfl rfl _ hW) (ca_RR G hW) (va_recv hK hP (ci := 2) (q0 := 0) rfl rfl) d_F_asRuns_8 ?_
  refine lv_astore_n (lv' := [(1, .ref k0), (0, .ref k0)]) hx hb d_F_asRuns_11 rfl hl (by decide) rfl (fun ls hl => ?_)
  refine lv_aload_n hx hb d_F_asRuns_12 rfl (lv_at hl 0 rfl) ?_
  exact mx_aret hx hb hr (Or.inl ⟨_, rfl⟩) hlk d_F_asRuns_13 (Nat.le_of_ble_eq_true rfl) (Nat.le_of_ble_eq_true rfl) (fun _ h => nomatch h) (Or.inr ⟨_, rfl⟩) (⟨rfl, rfl⟩)

set_option maxHeartbeats 4000000 in
set_option maxRecDepth 100000 in
theorem c_F_merge_other {l : Launch} {s0 : State} {D : va_G} {cI cF cJ : ClassId} (G : Gx l s0 D cI cF cJ) (xo fa ma : Nat) (fi mk : Nat → Option Nat) (h h1 h2 A B n : Nat) (pv : Int32) (c0 f : Nat → Nat) (g : Nat → Int32) (k0 k1 k2 A2 B2 n2 : Nat) (pv2 : Int32) (c2 g2 : Nat → Nat) (g3 : Nat → Int32) (j j2 : Nat) {H0 : Heap} (hP : va_P D vcl [(xo, .inr (3, [.ref fa, .ref ma])), (fa, aQ cF 4 fi), (ma, aQ cF 12 mk), (h, .inr (2, [.int (nI A), .int (nI B), .int (nI n), .ref h1, .ref h2])), (h1, aN cI 256 f), (h2, aI cI 256 g), (k0, .inr (2, [.int (nI A2), .int (nI B2), .int (nI n2), .ref k1, .ref k2])), (k1, aN cI 256 g2)] H0) (hok : okS (3, A, B, nI n, pv, c0, n, f)) (hok2 : okS (3, A2, B2, nI n2, pv2, c2, n2, g2)) (hj : j < 4) (hj2 : j2 < 4) (hfi : fi j = some h) (hfi2 : fi j2 = some k0) (hon : onS s0 H0) (hne : A ≠ A2 ∨ B ≠ B2) : Mx l s0 y_F_merge (.code y_F_merge b_F_merge 7 (some .int)) { frames := 7, cells := 1, slots := 6, locals := 160 } [.ref xo, .int (nI j), .int (nI j2)] H0 (fun _ => False) (Rq s0 (some E_A) none (fun _ => True)) := by
  refine Mx.ofW (own := "FewBits") rfl rfl ?_
  rintro p e s m below meth c ⟨hx, hb, hml, hr, hown, hW, hlk⟩ hnm het hH
  have hK := G.k hW
  have hq := (okS_3.mp hok).1
  have hA : A ≤ 8 := hq.2.1
  have hB1 : 1 ≤ B := by have := hq.2.2.1; omega
  have hB : B ≤ 20 := hq.2.2.2.1
  have hn := hq.n
  have hf := hq.lt28
  have hsr := hq.2.2.2.2.2.1
  have hfq := hq.q
  have hq2 := (okS_3.mp hok2).1
  have hn2 := hq2.n
  have hg2 := hq2.lt28
  have hqA2 : A2 ≤ 8 := hq2.2.1
  have hqB2 : B2 ≤ 20 := hq2.2.2.2.1
  have hl := lv_entry ([.ref xo, .int (nI j), .int (nI j2)]) (n := 7) (Nat.le_of_ble_eq_true rfl)
  rw [lg_entry_eq]
  generalize (lg_sl ([.ref xo, .int (nI j), .int (nI j2)]) ++ List.replicate (7 - (lg_sl ([.ref xo, .int (nI j), .int (nI j2)])).length) Slot.unset).toArray = ls at hl ⊢
  have hl : lv_has ls 7 [(0, .ref xo), (1, .int (nI j)), (2, .int (nI j2))] := hl
  refine lv_iload_n hx hb d_F_merge_0 rfl (lv_at hl 1 rfl) ?_
  refine mx_callV (c_F_requireNumber_ok G (nI j) (isNum_nI hj)) hW (iv_F_merge_1 G hx hb hown hW [.int (nI j)] [] rfl) hml hl.1 (by rw [hb]; exact d_F_merge_1) (cd_F_requireNumber G hW) ⟨Nat.le_of_ble_eq_true rfl, Nat.le_of_ble_eq_true rfl⟩ rfl rfl (Nat.le_of_ble_eq_true rfl) (Nat.le_of_ble_eq_true rfl) (Nat.le_of_ble_eq_true rfl) ?_
  refine lv_iload_n hx hb d_F_merge_4 rfl (lv_at hl 2 rfl) ?_
  refine mx_callV (c_F_requireNumber_ok G (nI j2) (isNum_nI hj2)) hW (iv_F_merge_5 G hx hb hown hW [.int (nI j2)] [] rfl) hml hl.1 (by rw [hb]; exact d_F_merge_5) (cd_F_requireNumber G hW) ⟨Nat.le_of_ble_eq_true rfl, Nat.le_of_ble_eq_true rfl⟩ rfl rfl (Nat.le_of_ble_eq_true rfl) (Nat.le_of_ble_eq_true rfl) (Nat.le_of_ble_eq_true rfl) ?_
  refine lv_aload_n hx hb d_F_merge_8 rfl (lv_at hl 0 rfl) ?_
  refine lv_iload_n hx hb d_F_merge_9 rfl (lv_at hl 1 rfl) ?_
  refine mx_callR (r := .ref h) (c_F_filterAt G xo fa ma fi mk j h (hP.sub [0, 1, 2] rfl) hj hfi) hW (iv_F_merge_10 G hx hb hown hW (va_recv hK hP (ci := 3) (q0 := 0) rfl rfl) [.int (nI j)] [] rfl) hml hl.1 (by rw [hb]; exact d_F_merge_10) (cd_F_filterAt G hW) ⟨Nat.le_of_ble_eq_true rfl, Nat.le_of_ble_eq_true rfl⟩ rfl rfl (Nat.le_of_ble_eq_true rfl) (Nat.le_of_ble_eq_true rfl) (Nat.le_of_ble_eq_true rfl) ?_
  refine lv_astore_n (lv' := [(3, .ref h), (0, .ref xo), (1, .int (nI j)), (2, .int (nI j2))]) hx hb d_F_merge_13 rfl hl (by decide) rfl (fun ls hl => ?_)
  refine lv_aload_n hx hb d_F_merge_14 rfl (lv_at hl 1 rfl) ?_
  refine lv_iload_n hx hb d_F_merge_15 rfl (lv_at hl 3 rfl) ?_
  refine mx_callR (r := .ref k0) (c_F_filterAt G xo fa ma fi mk j2 k0 (hP.sub [0, 1, 2] rfl) hj2 hfi2) hW (iv_F_merge_16 G hx hb hown hW (va_recv hK hP (ci := 3) (q0 := 0) rfl rfl) [.int (nI j2)] [] rfl) hml hl.1 (by rw [hb]; exact d_F_merge_16) (cd_F_filterAt G hW) ⟨Nat.le_of_ble_eq_true rfl, Nat.le_of_ble_eq_true rfl⟩ rfl rfl (Nat.le_of_ble_eq_true rfl) (Nat.le_of_ble_eq_true rfl) (Nat.le_of_ble_eq_true rfl) ?_
  refine lv_astore (lv' := [(4, .ref k0), (3, .ref h), (0, .ref xo), (1, .int (nI j)), (2, .int (nI j2))]) hx hb d_F_merge_19 hl (by decide) rfl (fun ls hl => ?_)
  refine lv_aload_n hx hb d_F_merge_21 rfl (lv_at hl 1 rfl) ?_
  refine mx_callR (r := .ref h) (c_F_asRuns_R G h h1 h2 A B n f g (hP.sub [3, 4, 5] rfl)) hW (iv_F_merge_22 G hx hb hown hW [.ref h] [] rfl) hml hl.1 (by rw [hb]; exact d_F_merge_22) (cd_F_asRuns G hW) ⟨Nat.le_of_ble_eq_true rfl, Nat.le_of_ble_eq_true rfl⟩ rfl rfl (Nat.le_of_ble_eq_true rfl) (Nat.le_of_ble_eq_true rfl) (Nat.le_of_ble_eq_true rfl) ?_
  refine lv_astore (lv' := [(5, .ref h), (4, .ref k0), (3, .ref h), (0, .ref xo), (1, .int (nI j)), (2, .int (nI j2))]) hx hb d_F_merge_25 hl (by decide) rfl (fun ls hl => ?_)
  refine lv_aload hx hb d_F_merge_27 (lv_at hl 1 rfl) ?_
  refine mx_callR (r := .ref k0) (c_F_asRuns_R2 G k0 k1 k2 A2 B2 n2 (hP.sub [6] rfl)) hW (iv_F_merge_29 G hx hb hown hW [.ref k0] [] rfl) hml hl.1 (by rw [hb]; exact d_F_merge_29) (cd_F_asRuns G hW) ⟨Nat.le_of_ble_eq_true rfl, Nat.le_of_ble_eq_true rfl⟩ rfl rfl (Nat.le_of_ble_eq_true rfl) (Nat.le_of_ble_eq_true rfl) (Nat.le_of_ble_eq_true rfl) ?_
  refine lv_astore (lv' := [(6, .ref k0), (5, .ref h), (4, .ref k0), (3, .ref h), (0, .ref xo), (1, .int (nI j)), (2, .int (nI j2))]) hx hb d_F_merge_32 hl (by decide) rfl (fun ls hl => ?_)
  refine lv_aload hx hb d_F_merge_34 (lv_at hl 1 rfl) ?_
  refine va_get (D := D) (ci := 2) (v := .int (nI A)) (C := R_R) (T := T_R) (N := 5) hx hb (us_R G hW) (fun _ h => h) hown hK hP 3 rfl rfl 0 (by decide) (fl_F_123 G hW) (u_same (args := ([.ref xo, .int (nI j), .int (nI j2)] : List Value).toArray) (G.1.at 174 rfl rfl _ hW)) rfl d_F_merge_36 ?_
  refine lv_aload hx hb d_F_merge_39 (lv_at hl 0 rfl) ?_
  refine va_get (D := D) (ci := 2) (v := .int (nI A2)) (C := R_R) (T := T_R) (N := 5) hx hb (us_R G hW) (fun _ h => h) hown hK hP 6 rfl rfl 0 (by decide) (fl_F_123 G hW) (u_same (args := ([.ref xo, .int (nI j), .int (nI j2)] : List Value).toArray) (G.1.at 174 rfl rfl _ hW)) rfl d_F_merge_41 ?_
  refine lv_icmp_ne (tgt := 60) hx hb d_F_merge_44 (by decide) (fun c_44 => ?_) (fun c_44 => ?_)
  · exact mx_throw (rest := []) G hx hb hW hown (th_A G) (str_at G 622 rfl hW) hon (hl.1.trans hml.symm) het hlk d_F_merge_60 d_F_merge_63 d_F_merge_64 d_F_merge_66 d_F_merge_69 (Nat.le_of_ble_eq_true rfl) (Nat.le_of_ble_eq_true rfl) (Nat.le_of_ble_eq_true rfl) (Nat.le_of_ble_eq_true rfl) (Nat.le_of_ble_eq_true rfl) (Nat.le_of_ble_eq_true rfl) (fun _ h => nomatch h) (fun H1 q hz hk ho => ⟨⟨q, rfl, ho⟩, trivial⟩)
  · refine lv_aload hx hb d_F_merge_47 (lv_at hl 1 rfl) ?_
    refine va_get (D := D) (ci := 2) (v := .int (nI B)) (C := R_R) (T := T_R) (N := 5) hx hb (us_R G hW) (fun _ h => h) hown hK hP 3 rfl rfl 1 (by decide) (fl_F_126 G hW) (u_same (args := ([.ref xo, .int (nI j), .int (nI j2)] : List Value).toArray) (G.1.at 183 rfl rfl _ hW)) rfl d_F_merge_49 ?_
    refine lv_aload hx hb d_F_merge_52 (lv_at hl 0 rfl) ?_
    refine va_get (D := D) (ci := 2) (v := .int (nI B2)) (C := R_R) (T := T_R) (N := 5) hx hb (us_R G hW) (fun _ h => h) hown hK hP 6 rfl rfl 1 (by decide) (fl_F_126 G hW) (u_same (args := ([.ref xo, .int (nI j), .int (nI j2)] : List Value).toArray) (G.1.at 183 rfl rfl _ hW)) rfl d_F_merge_54 ?_
    refine lv_icmp_eq (tgt := 70) hx hb d_F_merge_57 (by decide) (fun c_57 => absurd c_57 (fun h9 => hne.elim (fun h8 => h8 ((nI_eq (by omega) (by omega)).mp c_44)) (fun h8 => h8 ((nI_eq (by omega) (by omega)).mp h9)))) (fun c_57 => ?_)
    exact mx_throw (rest := []) G hx hb hW hown (th_A G) (str_at G 622 rfl hW) hon (hl.1.trans hml.symm) het hlk d_F_merge_60 d_F_merge_63 d_F_merge_64 d_F_merge_66 d_F_merge_69 (Nat.le_of_ble_eq_true rfl) (Nat.le_of_ble_eq_true rfl) (Nat.le_of_ble_eq_true rfl) (Nat.le_of_ble_eq_true rfl) (Nat.le_of_ble_eq_true rfl) (Nat.le_of_ble_eq_true rfl) (fun _ h => nomatch h) (fun H1 q hz hk ho => ⟨⟨q, rfl, ho⟩, trivial⟩)

set_option maxHeartbeats 4000000 in
set_option maxRecDepth 100000 in
theorem c_F_merge_o {l : Launch} {s0 : State} {D : va_G} {cI cF cJ : ClassId} (G : Gx l s0 D cI cF cJ) (xo fa ma : Nat) (fi mk : Nat → Option Nat) (h h1 h2 A B n : Nat) (pv : Int32) (c0 f : Nat → Nat) (g : Nat → Int32) (k0 k1 k2 n2 : Nat) (pv2 : Int32) (c2 g2 : Nat → Nat) (g3 : Nat → Int32) (j j2 : Nat) {H0 : Heap} {A0 : Nat → Prop} (hP : va_P D vcl [(xo, .inr (3, [.ref fa, .ref ma])), (fa, aQ cF 4 fi), (ma, aQ cF 12 mk), (h, .inr (2, [.int (nI A), .int (nI B), .int (nI n), .ref h1, .ref h2])), (h1, aN cI 256 f), (h2, aI cI 256 g), (k0, .inr (2, [.int (nI A), .int (nI B), .int (nI n2), .ref k1, .ref k2])), (k1, aN cI 256 g2)] H0) (hD : va_D A0 [(xo, .inr (3, [.ref fa, .ref ma])), (fa, aQ cF 4 fi), (ma, aQ cF 12 mk), (h, .inr (2, [.int (nI A), .int (nI B), .int (nI n), .ref h1, .ref h2])), (h1, aN cI 256 f), (h2, aI cI 256 g), (k0, .inr (2, [.int (nI A), .int (nI B), .int (nI n2), .ref k1, .ref k2])), (k1, aN cI 256 g2)]) (hok : okS (3, A, B, nI n, pv, c0, n, f)) (hok2 : okS (3, A, B, nI n2, pv2, c2, n2, g2)) (hj : j < 4) (hj2 : j2 < 4) (hfi : fi j = some h) (hfi2 : fi j2 = some k0) (hon : onS s0 H0) (had : ∀ q ∈ [xo, fa, ma, h, h1, h2, k0, k1], s0.heap.size ≤ q) : Mx l s0 y_F_merge (.code y_F_merge b_F_merge 7 (some .int)) { frames := 7, cells := 1, slots := 6, locals := 160 } [.ref xo, .int (nI j), .int (nI j2)] H0 (Aa [xo, fa, ma, h, h1, h2, k0, k1] H0.size) (Rq s0 (if (n + n2 ≤ 2 ^ A) then none else some E_U) (some (.int (nI (if (n + n2 ≤ 2 ^ A) then (n + n2) else n)))) (fun H1 => va_P D vcl [(xo, .inr (3, [.ref fa, .ref ma])), (fa, aQ cF 4 fi), (ma, aQ cF 12 mk), (h, .inr (2, [.int (nI A), .int (nI B), .int (nI (if (n + n2 ≤ 2 ^ A) then (n + n2) else n)), .ref h1, .ref h2])), (h1, aN cI 256 (if (n + n2 ≤ 2 ^ A) then (mrg g2 (n + n2) n n2 f) else f)), (h2, aI cI 256 g), (k0, .inr (2, [.int (nI A), .int (nI B), .int (nI n2), .ref k1, .ref k2])), (k1, aN cI 256 g2)] H1)) := by
  refine Mx.ofW (own := "FewBits") rfl rfl ?_
  rintro p e s m below meth c ⟨hx, hb, hml, hr, hown, hW, hlk⟩ hnm het hH
  have hK := G.k hW
  have hD := hD.aa (sz := H0.size)
  have hD : va_D (Aa [xo, fa, ma, h, h1, h2, k0, k1] H0.size) [(xo, .inr (3, [.ref fa, .ref ma])), (fa, aQ cF 4 fi), (ma, aQ cF 12 mk), (h, .inr (2, [.int (nI A), .int (nI B), .int (nI n), .ref h1, .ref h2])), (h1, aN cI 256 f), (h2, aI cI 256 g), (k0, .inr (2, [.int (nI A), .int (nI B), .int (nI n2), .ref k1, .ref k2])), (k1, aN cI 256 g2)] := hD
  have hS : va_S (Aa [xo, fa, ma, h, h1, h2, k0, k1] H0.size) H0 H0 [] := va_S.rf
  have hq := (okS_3.mp hok).1
  have hA : A ≤ 8 := hq.2.1
  have hB1 : 1 ≤ B := by have := hq.2.2.1; omega
  have hB : B ≤ 20 := hq.2.2.2.1
  have hn := hq.n
  have hf := hq.lt28
  have hsr := hq.2.2.2.2.2.1
  have hfq := hq.q
  have hq2 := (okS_3.mp hok2).1
  have hn2 := hq2.n
  have hg2 := hq2.lt28
  have hl := lv_entry ([.ref xo, .int (nI j), .int (nI j2)]) (n := 7) (Nat.le_of_ble_eq_true rfl)
  rw [lg_entry_eq]
  generalize (lg_sl ([.ref xo, .int (nI j), .int (nI j2)]) ++ List.replicate (7 - (lg_sl ([.ref xo, .int (nI j), .int (nI j2)])).length) Slot.unset).toArray = ls at hl ⊢
  have hl : lv_has ls 7 [(0, .ref xo), (1, .int (nI j)), (2, .int (nI j2))] := hl
  refine lv_iload_n hx hb d_F_merge_0 rfl (lv_at hl 1 rfl) ?_
  refine mx_callV (c_F_requireNumber_ok G (nI j) (isNum_nI hj)) hW (iv_F_merge_1 G hx hb hown hW [.int (nI j)] [] rfl) hml hl.1 (by rw [hb]; exact d_F_merge_1) (cd_F_requireNumber G hW) ⟨Nat.le_of_ble_eq_true rfl, Nat.le_of_ble_eq_true rfl⟩ rfl rfl (Nat.le_of_ble_eq_true rfl) (Nat.le_of_ble_eq_true rfl) (Nat.le_of_ble_eq_true rfl) ?_
  refine lv_iload_n hx hb d_F_merge_4 rfl (lv_at hl 2 rfl) ?_
  refine mx_callV (c_F_requireNumber_ok G (nI j2) (isNum_nI hj2)) hW (iv_F_merge_5 G hx hb hown hW [.int (nI j2)] [] rfl) hml hl.1 (by rw [hb]; exact d_F_merge_5) (cd_F_requireNumber G hW) ⟨Nat.le_of_ble_eq_true rfl, Nat.le_of_ble_eq_true rfl⟩ rfl rfl (Nat.le_of_ble_eq_true rfl) (Nat.le_of_ble_eq_true rfl) (Nat.le_of_ble_eq_true rfl) ?_
  refine lv_aload_n hx hb d_F_merge_8 rfl (lv_at hl 0 rfl) ?_
  refine lv_iload_n hx hb d_F_merge_9 rfl (lv_at hl 1 rfl) ?_
  refine mx_callR (r := .ref h) (c_F_filterAt G xo fa ma fi mk j h (hP.sub [0, 1, 2] rfl) hj hfi) hW (iv_F_merge_10 G hx hb hown hW (va_recv hK hP (ci := 3) (q0 := 0) rfl rfl) [.int (nI j)] [] rfl) hml hl.1 (by rw [hb]; exact d_F_merge_10) (cd_F_filterAt G hW) ⟨Nat.le_of_ble_eq_true rfl, Nat.le_of_ble_eq_true rfl⟩ rfl rfl (Nat.le_of_ble_eq_true rfl) (Nat.le_of_ble_eq_true rfl) (Nat.le_of_ble_eq_true rfl) ?_
  refine lv_astore_n (lv' := [(3, .ref h), (0, .ref xo), (1, .int (nI j)), (2, .int (nI j2))]) hx hb d_F_merge_13 rfl hl (by decide) rfl (fun ls hl => ?_)
  refine lv_aload_n hx hb d_F_merge_14 rfl (lv_at hl 1 rfl) ?_
  refine lv_iload_n hx hb d_F_merge_15 rfl (lv_at hl 3 rfl) ?_
  refine mx_callR (r := .ref k0) (c_F_filterAt G xo fa ma fi mk j2 k0 (hP.sub [0, 1, 2] rfl) hj2 hfi2) hW (iv_F_merge_16 G hx hb hown hW (va_recv hK hP (ci := 3) (q0 := 0) rfl rfl) [.int (nI j2)] [] rfl) hml hl.1 (by rw [hb]; exact d_F_merge_16) (cd_F_filterAt G hW) ⟨Nat.le_of_ble_eq_true rfl, Nat.le_of_ble_eq_true rfl⟩ rfl rfl (Nat.le_of_ble_eq_true rfl) (Nat.le_of_ble_eq_true rfl) (Nat.le_of_ble_eq_true rfl) ?_
  refine lv_astore (lv' := [(4, .ref k0), (3, .ref h), (0, .ref xo), (1, .int (nI j)), (2, .int (nI j2))]) hx hb d_F_merge_19 hl (by decide) rfl (fun ls hl => ?_)
  refine lv_aload_n hx hb d_F_merge_21 rfl (lv_at hl 1 rfl) ?_
  refine mx_callR (r := .ref h) (c_F_asRuns_R G h h1 h2 A B n f g (hP.sub [3, 4, 5] rfl)) hW (iv_F_merge_22 G hx hb hown hW [.ref h] [] rfl) hml hl.1 (by rw [hb]; exact d_F_merge_22) (cd_F_asRuns G hW) ⟨Nat.le_of_ble_eq_true rfl, Nat.le_of_ble_eq_true rfl⟩ rfl rfl (Nat.le_of_ble_eq_true rfl) (Nat.le_of_ble_eq_true rfl) (Nat.le_of_ble_eq_true rfl) ?_
  refine lv_astore (lv' := [(5, .ref h), (4, .ref k0), (3, .ref h), (0, .ref xo), (1, .int (nI j)), (2, .int (nI j2))]) hx hb d_F_merge_25 hl (by decide) rfl (fun ls hl => ?_)
  refine lv_aload hx hb d_F_merge_27 (lv_at hl 1 rfl) ?_
  refine mx_callR (r := .ref k0) (c_F_asRuns_R2 G k0 k1 k2 A B n2 (hP.sub [6] rfl)) hW (iv_F_merge_29 G hx hb hown hW [.ref k0] [] rfl) hml hl.1 (by rw [hb]; exact d_F_merge_29) (cd_F_asRuns G hW) ⟨Nat.le_of_ble_eq_true rfl, Nat.le_of_ble_eq_true rfl⟩ rfl rfl (Nat.le_of_ble_eq_true rfl) (Nat.le_of_ble_eq_true rfl) (Nat.le_of_ble_eq_true rfl) ?_
  refine lv_astore (lv' := [(6, .ref k0), (5, .ref h), (4, .ref k0), (3, .ref h), (0, .ref xo), (1, .int (nI j)), (2, .int (nI j2))]) hx hb d_F_merge_32 hl (by decide) rfl (fun ls hl => ?_)
  refine lv_aload hx hb d_F_merge_34 (lv_at hl 1 rfl) ?_
  refine va_get (D := D) (ci := 2) (v := .int (nI A)) (C := R_R) (T := T_R) (N := 5) hx hb (us_R G hW) (fun _ h => h) hown hK hP 3 rfl rfl 0 (by decide) (fl_F_123 G hW) (u_same (args := ([.ref xo, .int (nI j), .int (nI j2)] : List Value).toArray) (G.1.at 174 rfl rfl _ hW)) rfl d_F_merge_36 ?_
  refine lv_aload hx hb d_F_merge_39 (lv_at hl 0 rfl) ?_
  refine va_get (D := D) (ci := 2) (v := .int (nI A)) (C := R_R) (T := T_R) (N := 5) hx hb (us_R G hW) (fun _ h => h) hown hK hP 6 rfl rfl 0 (by decide) (fl_F_123 G hW) (u_same (args := ([.ref xo, .int (nI j), .int (nI j2)] : List Value).toArray) (G.1.at 174 rfl rfl _ hW)) rfl d_F_merge_41 ?_
  refine lv_icmp_ne (tgt := 60) hx hb d_F_merge_44 (by decide) (fun c_44 => absurd (rfl) c_44) (fun c_44 => ?_)
  refine lv_aload hx hb d_F_merge_47 (lv_at hl 1 rfl) ?_
  refine va_get (D := D) (ci := 2) (v := .int (nI B)) (C := R_R) (T := T_R) (N := 5) hx hb (us_R G hW) (fun _ h => h) hown hK hP 3 rfl rfl 1 (by decide) (fl_F_126 G hW) (u_same (args := ([.ref xo, .int (nI j), .int (nI j2)] : List Value).toArray) (G.1.at 183 rfl rfl _ hW)) rfl d_F_merge_49 ?_
  refine lv_aload hx hb d_F_merge_52 (lv_at hl 0 rfl) ?_
  refine va_get (D := D) (ci := 2) (v := .int (nI B)) (C := R_R) (T := T_R) (N := 5) hx hb (us_R G hW) (fun _ h => h) hown hK hP 6 rfl rfl 1 (by decide) (fl_F_126 G hW) (u_same (args := ([.ref xo, .int (nI j), .int (nI j2)] : List Value).toArray) (G.1.at 183 rfl rfl _ hW)) rfl d_F_merge_54 ?_
  refine lv_icmp_eq (tgt := 70) hx hb d_F_merge_57 (by decide) (fun c_57 => ?_) (fun c_57 => absurd (rfl) c_57)
  refine lv_aload hx hb d_F_merge_70 (lv_at hl 1 rfl) ?_
  refine lv_aload hx hb d_F_merge_72 (lv_at hl 0 rfl) ?_
  refine mx_callW (r := .int (bI (decide (n + n2 ≤ 2 ^ A)))) (c_R_acceptPairs_o G h h1 h2 A B n f g k0 k1 k2 A B n2 g2 (hP.sub [3, 4, 5, 6, 7] rfl) (hD.sub [3, 4, 5, 6, 7] rfl rfl) hA hn hf hn2 hg2) hW (iv_F_merge_74 G hx hb hown hW (va_recv hK hP (ci := 2) (q0 := 3) rfl rfl) [.ref k0] [] rfl) hml hl.1 (by rw [hb]; exact d_F_merge_74) (cd_R_acceptPairs G hW) ⟨Nat.le_of_ble_eq_true rfl, Nat.le_of_ble_eq_true rfl⟩ (Nat.le_of_ble_eq_true rfl) (Nat.le_of_ble_eq_true rfl) (Nat.le_of_ble_eq_true rfl) hS (Aa.mono (fun _ h => List.mem_append_right [xo, fa, ma] h) hS.1) (fun H locs hP2 _ hkp hS => ?_)
  have hP := va_P.join (ws1 := [(xo, .inr (3, [.ref fa, .ref ma])), (fa, aQ cF 4 fi), (ma, aQ cF 12 mk)]) (ws2 := [(h, .inr (2, [.int (nI A), .int (nI B), .int (nI n), .ref h1, .ref h2])), (h1, aN cI 256 f), (h2, aI cI 256 g), (k0, .inr (2, [.int (nI A), .int (nI B), .int (nI n2), .ref k1, .ref k2])), (k1, aN cI 256 g2)]) hP hD hP2 hkp rfl
  have hP : va_P D vcl [(xo, .inr (3, [.ref fa, .ref ma])), (fa, aQ cF 4 fi), (ma, aQ cF 12 mk), (h, .inr (2, [.int (nI A), .int (nI B), .int (nI (if (n + n2 ≤ 2 ^ A) then (n + n2) else n)), .ref h1, .ref h2])), (h1, aN cI 256 (if (n + n2 ≤ 2 ^ A) then (mrg g2 (n + n2) n n2 f) else f)), (h2, aI cI 256 g), (k0, .inr (2, [.int (nI A), .int (nI B), .int (nI n2), .ref k1, .ref k2])), (k1, aN cI 256 g2)] H := hP
  have hD : va_D (Aa [xo, fa, ma, h, h1, h2, k0, k1] H0.size) [(xo, .inr (3, [.ref fa, .ref ma])), (fa, aQ cF 4 fi), (ma, aQ cF 12 mk), (h, .inr (2, [.int (nI A), .int (nI B), .int (nI (if (n + n2 ≤ 2 ^ A) then (n + n2) else n)), .ref h1, .ref h2])), (h1, aN cI 256 (if (n + n2 ≤ 2 ^ A) then (mrg g2 (n + n2) n n2 f) else f)), (h2, aI cI 256 g), (k0, .inr (2, [.int (nI A), .int (nI B), .int (nI n2), .ref k1, .ref k2])), (k1, aN cI 256 g2)] := va_D.same2 [xo, fa, ma, h, h1, h2, k0, k1] hD rfl rfl
  refine lv_if_ne (tgt := 90) hx hb d_F_merge_77 (by decide) (fun c_77 => ?_) (fun c_77 => ?_)
  · refine lv_aload hx hb d_F_merge_90 (lv_at hl 1 rfl) ?_
    refine va_get (D := D) (ci := 2) (v := .int (nI (if (n + n2 ≤ 2 ^ A) then (n + n2) else n))) (C := R_R) (T := T_R) (N := 5) hx hb (us_R G hW) (fun _ h => h) hown hK hP 3 rfl rfl 2 (by decide) (fl_F_135 G hW) (u_same (args := ([.ref xo, .int (nI j), .int (nI j2)] : List Value).toArray) (G.1.at 187 rfl rfl _ hW)) rfl d_F_merge_92 ?_
    exact mx_iret hx hb hr hlk d_F_merge_95 (Nat.le_of_ble_eq_true rfl) (Nat.le_of_ble_eq_true rfl) hS.2.2 (⟨by rw [if_pos (of_decide_eq_true (bI_t c_77))]; rfl, hP⟩)
  · exact mx_throw (rest := []) G hx hb hW hown (th_U G) (str_at G 627 rfl hW) (hon.go had hS) (hl.1.trans hml.symm) het hlk d_F_merge_80 d_F_merge_83 d_F_merge_84 d_F_merge_86 d_F_merge_89 (Nat.le_of_ble_eq_true rfl) (Nat.le_of_ble_eq_true rfl) (Nat.le_of_ble_eq_true rfl) (Nat.le_of_ble_eq_true rfl) (Nat.le_of_ble_eq_true rfl) (Nat.le_of_ble_eq_true rfl) hS.2.2 (fun H1 q hz hk ho => ⟨by rw [if_neg (of_decide_eq_false (bI_f c_77))]; exact ⟨q, rfl, ho⟩, va_P.ext hP hk⟩)

set_option maxHeartbeats 4000000 in
set_option maxRecDepth 100000 in
theorem c_F_merge_s {l : Launch} {s0 : State} {D : va_G} {cI cF cJ : ClassId} (G : Gx l s0 D cI cF cJ) (xo fa ma : Nat) (fi mk : Nat → Option Nat) (h h1 h2 A B n : Nat) (pv : Int32) (c0 f : Nat → Nat) (g : Nat → Int32) (j : Nat) {H0 : Heap} {A0 : Nat → Prop} (hP : va_P D vcl [(xo, .inr (3, [.ref fa, .ref ma])), (fa, aQ cF 4 fi), (ma, aQ cF 12 mk), (h, .inr (2, [.int (nI A), .int (nI B), .int (nI n), .ref h1, .ref h2])), (h1, aN cI 256 f), (h2, aI cI 256 g)] H0) (hD : va_D A0 [(xo, .inr (3, [.ref fa, .ref ma])), (fa, aQ cF 4 fi), (ma, aQ cF 12 mk), (h, .inr (2, [.int (nI A), .int (nI B), .int (nI n), .ref h1, .ref h2])), (h1, aN cI 256 f), (h2, aI cI 256 g)]) (hok : okS (3, A, B, nI n, pv, c0, n, f)) (hj : j < 4) (hfi : fi j = some h) (hon : onS s0 H0) (had : ∀ q ∈ [xo, fa, ma, h, h1, h2], s0.heap.size ≤ q)  : Mx l s0 y_F_merge (.code y_F_merge b_F_merge 7 (some .int)) { frames := 7, cells := 1, slots := 6, locals := 160 } [.ref xo, .int (nI j), .int (nI j)] H0 (Aa [xo, fa, ma, h, h1, h2] H0.size) (Rq s0 (if (n + n ≤ 2 ^ A) then none else some E_U) (some (.int (nI (if (n + n ≤ 2 ^ A) then (n + n) else n)))) (fun H1 => va_P D vcl [(xo, .inr (3, [.ref fa, .ref ma])), (fa, aQ cF 4 fi), (ma, aQ cF 12 mk), (h, .inr (2, [.int (nI A), .int (nI B), .int (nI (if (n + n ≤ 2 ^ A) then (n + n) else n)), .ref h1, .ref h2])), (h1, aN cI 256 (if (n + n ≤ 2 ^ A) then (mrg f (n + n) n n f) else f)), (h2, aI cI 256 g)] H1)) := by
  refine Mx.ofW (own := "FewBits") rfl rfl ?_
  rintro p e s m below meth c ⟨hx, hb, hml, hr, hown, hW, hlk⟩ hnm het hH
  have hK := G.k hW
  have hD := hD.aa (sz := H0.size)
  have hD : va_D (Aa [xo, fa, ma, h, h1, h2] H0.size) [(xo, .inr (3, [.ref fa, .ref ma])), (fa, aQ cF 4 fi), (ma, aQ cF 12 mk), (h, .inr (2, [.int (nI A), .int (nI B), .int (nI n), .ref h1, .ref h2])), (h1, aN cI 256 f), (h2, aI cI 256 g)] := hD
  have hS : va_S (Aa [xo, fa, ma, h, h1, h2] H0.size) H0 H0 [] := va_S.rf
  have hq := (okS_3.mp hok).1
  have hA : A ≤ 8 := hq.2.1
  have hB1 : 1 ≤ B := by have := hq.2.2.1; omega
  have hB : B ≤ 20 := hq.2.2.2.1
  have hn := hq.n
  have hf := hq.lt28
  have hsr := hq.2.2.2.2.2.1
  have hfq := hq.q
  have hl := lv_entry ([.ref xo, .int (nI j), .int (nI j)]) (n := 7) (Nat.le_of_ble_eq_true rfl)
  rw [lg_entry_eq]
  generalize (lg_sl ([.ref xo, .int (nI j), .int (nI j)]) ++ List.replicate (7 - (lg_sl ([.ref xo, .int (nI j), .int (nI j)])).length) Slot.unset).toArray = ls at hl ⊢
  have hl : lv_has ls 7 [(0, .ref xo), (1, .int (nI j)), (2, .int (nI j))] := hl
  refine lv_iload_n hx hb d_F_merge_0 rfl (lv_at hl 1 rfl) ?_
  refine mx_callV (c_F_requireNumber_ok G (nI j) (isNum_nI hj)) hW (iv_F_merge_1 G hx hb hown hW [.int (nI j)] [] rfl) hml hl.1 (by rw [hb]; exact d_F_merge_1) (cd_F_requireNumber G hW) ⟨Nat.le_of_ble_eq_true rfl, Nat.le_of_ble_eq_true rfl⟩ rfl rfl (Nat.le_of_ble_eq_true rfl) (Nat.le_of_ble_eq_true rfl) (Nat.le_of_ble_eq_true rfl) ?_
  refine lv_iload_n hx hb d_F_merge_4 rfl (lv_at hl 2 rfl) ?_
  refine mx_callV (c_F_requireNumber_ok G (nI j) (isNum_nI hj)) hW (iv_F_merge_5 G hx hb hown hW [.int (nI j)] [] rfl) hml hl.1 (by rw [hb]; exact d_F_merge_5) (cd_F_requireNumber G hW) ⟨Nat.le_of_ble_eq_true rfl, Nat.le_of_ble_eq_true rfl⟩ rfl rfl (Nat.le_of_ble_eq_true rfl) (Nat.le_of_ble_eq_true rfl) (Nat.le_of_ble_eq_true rfl) ?_
  refine lv_aload_n hx hb d_F_merge_8 rfl (lv_at hl 0 rfl) ?_
  refine lv_iload_n hx hb d_F_merge_9 rfl (lv_at hl 1 rfl) ?_
  refine mx_callR (r := .ref h) (c_F_filterAt G xo fa ma fi mk j h (hP.sub [0, 1, 2] rfl) hj hfi) hW (iv_F_merge_10 G hx hb hown hW (va_recv hK hP (ci := 3) (q0 := 0) rfl rfl) [.int (nI j)] [] rfl) hml hl.1 (by rw [hb]; exact d_F_merge_10) (cd_F_filterAt G hW) ⟨Nat.le_of_ble_eq_true rfl, Nat.le_of_ble_eq_true rfl⟩ rfl rfl (Nat.le_of_ble_eq_true rfl) (Nat.le_of_ble_eq_true rfl) (Nat.le_of_ble_eq_true rfl) ?_
  refine lv_astore_n (lv' := [(3, .ref h), (0, .ref xo), (1, .int (nI j)), (2, .int (nI j))]) hx hb d_F_merge_13 rfl hl (by decide) rfl (fun ls hl => ?_)
  refine lv_aload_n hx hb d_F_merge_14 rfl (lv_at hl 1 rfl) ?_
  refine lv_iload_n hx hb d_F_merge_15 rfl (lv_at hl 3 rfl) ?_
  refine mx_callR (r := .ref h) (c_F_filterAt G xo fa ma fi mk j h (hP.sub [0, 1, 2] rfl) hj hfi) hW (iv_F_merge_16 G hx hb hown hW (va_recv hK hP (ci := 3) (q0 := 0) rfl rfl) [.int (nI j)] [] rfl) hml hl.1 (by rw [hb]; exact d_F_merge_16) (cd_F_filterAt G hW) ⟨Nat.le_of_ble_eq_true rfl, Nat.le_of_ble_eq_true rfl⟩ rfl rfl (Nat.le_of_ble_eq_true rfl) (Nat.le_of_ble_eq_true rfl) (Nat.le_of_ble_eq_true rfl) ?_
  refine lv_astore (lv' := [(4, .ref h), (3, .ref h), (0, .ref xo), (1, .int (nI j)), (2, .int (nI j))]) hx hb d_F_merge_19 hl (by decide) rfl (fun ls hl => ?_)
  refine lv_aload_n hx hb d_F_merge_21 rfl (lv_at hl 1 rfl) ?_
  refine mx_callR (r := .ref h) (c_F_asRuns_R G h h1 h2 A B n f g (hP.sub [3, 4, 5] rfl)) hW (iv_F_merge_22 G hx hb hown hW [.ref h] [] rfl) hml hl.1 (by rw [hb]; exact d_F_merge_22) (cd_F_asRuns G hW) ⟨Nat.le_of_ble_eq_true rfl, Nat.le_of_ble_eq_true rfl⟩ rfl rfl (Nat.le_of_ble_eq_true rfl) (Nat.le_of_ble_eq_true rfl) (Nat.le_of_ble_eq_true rfl) ?_
  refine lv_astore (lv' := [(5, .ref h), (4, .ref h), (3, .ref h), (0, .ref xo), (1, .int (nI j)), (2, .int (nI j))]) hx hb d_F_merge_25 hl (by decide) rfl (fun ls hl => ?_)
  refine lv_aload hx hb d_F_merge_27 (lv_at hl 1 rfl) ?_
  refine mx_callR (r := .ref h) (c_F_asRuns_R G h h1 h2 A B n f g (hP.sub [3, 4, 5] rfl)) hW (iv_F_merge_29 G hx hb hown hW [.ref h] [] rfl) hml hl.1 (by rw [hb]; exact d_F_merge_29) (cd_F_asRuns G hW) ⟨Nat.le_of_ble_eq_true rfl, Nat.le_of_ble_eq_true rfl⟩ rfl rfl (Nat.le_of_ble_eq_true rfl) (Nat.le_of_ble_eq_true rfl) (Nat.le_of_ble_eq_true rfl) ?_
  refine lv_astore (lv' := [(6, .ref h), (5, .ref h), (4, .ref h), (3, .ref h), (0, .ref xo), (1, .int (nI j)), (2, .int (nI j))]) hx hb d_F_merge_32 hl (by decide) rfl (fun ls hl => ?_)
  refine lv_aload hx hb d_F_merge_34 (lv_at hl 1 rfl) ?_
  refine va_get (D := D) (ci := 2) (v := .int (nI A)) (C := R_R) (T := T_R) (N := 5) hx hb (us_R G hW) (fun _ h => h) hown hK hP 3 rfl rfl 0 (by decide) (fl_F_123 G hW) (u_same (args := ([.ref xo, .int (nI j), .int (nI j)] : List Value).toArray) (G.1.at 174 rfl rfl _ hW)) rfl d_F_merge_36 ?_
  refine lv_aload hx hb d_F_merge_39 (lv_at hl 0 rfl) ?_
  refine va_get (D := D) (ci := 2) (v := .int (nI A)) (C := R_R) (T := T_R) (N := 5) hx hb (us_R G hW) (fun _ h => h) hown hK hP 3 rfl rfl 0 (by decide) (fl_F_123 G hW) (u_same (args := ([.ref xo, .int (nI j), .int (nI j)] : List Value).toArray) (G.1.at 174 rfl rfl _ hW)) rfl d_F_merge_41 ?_
  refine lv_icmp_ne (tgt := 60) hx hb d_F_merge_44 (by decide) (fun c_44 => absurd (rfl) c_44) (fun c_44 => ?_)
  refine lv_aload hx hb d_F_merge_47 (lv_at hl 1 rfl) ?_
  refine va_get (D := D) (ci := 2) (v := .int (nI B)) (C := R_R) (T := T_R) (N := 5) hx hb (us_R G hW) (fun _ h => h) hown hK hP 3 rfl rfl 1 (by decide) (fl_F_126 G hW) (u_same (args := ([.ref xo, .int (nI j), .int (nI j)] : List Value).toArray) (G.1.at 183 rfl rfl _ hW)) rfl d_F_merge_49 ?_
  refine lv_aload hx hb d_F_merge_52 (lv_at hl 0 rfl) ?_
  refine va_get (D := D) (ci := 2) (v := .int (nI B)) (C := R_R) (T := T_R) (N := 5) hx hb (us_R G hW) (fun _ h => h) hown hK hP 3 rfl rfl 1 (by decide) (fl_F_126 G hW) (u_same (args := ([.ref xo, .int (nI j), .int (nI j)] : List Value).toArray) (G.1.at 183 rfl rfl _ hW)) rfl d_F_merge_54 ?_
  refine lv_icmp_eq (tgt := 70) hx hb d_F_merge_57 (by decide) (fun c_57 => ?_) (fun c_57 => absurd (rfl) c_57)
  refine lv_aload hx hb d_F_merge_70 (lv_at hl 1 rfl) ?_
  refine lv_aload hx hb d_F_merge_72 (lv_at hl 0 rfl) ?_
  refine mx_callW (r := .int (bI (decide (n + n ≤ 2 ^ A)))) (c_R_acceptPairs_s G h h1 h2 A B n f g (hP.sub [3, 4, 5] rfl) (hD.sub [3, 4, 5] rfl rfl) hA hn hf) hW (iv_F_merge_74 G hx hb hown hW (va_recv hK hP (ci := 2) (q0 := 3) rfl rfl) [.ref h] [] rfl) hml hl.1 (by rw [hb]; exact d_F_merge_74) (cd_R_acceptPairs G hW) ⟨Nat.le_of_ble_eq_true rfl, Nat.le_of_ble_eq_true rfl⟩ (Nat.le_of_ble_eq_true rfl) (Nat.le_of_ble_eq_true rfl) (Nat.le_of_ble_eq_true rfl) hS (Aa.mono (fun _ h => List.mem_append_right [xo, fa, ma] h) hS.1) (fun H locs hP2 _ hkp hS => ?_)
  have hP := va_P.join (ws1 := [(xo, .inr (3, [.ref fa, .ref ma])), (fa, aQ cF 4 fi), (ma, aQ cF 12 mk)]) (ws2 := [(h, .inr (2, [.int (nI A), .int (nI B), .int (nI n), .ref h1, .ref h2])), (h1, aN cI 256 f), (h2, aI cI 256 g)]) hP hD hP2 hkp rfl
  have hP : va_P D vcl [(xo, .inr (3, [.ref fa, .ref ma])), (fa, aQ cF 4 fi), (ma, aQ cF 12 mk), (h, .inr (2, [.int (nI A), .int (nI B), .int (nI (if (n + n ≤ 2 ^ A) then (n + n) else n)), .ref h1, .ref h2])), (h1, aN cI 256 (if (n + n ≤ 2 ^ A) then (mrg f (n + n) n n f) else f)), (h2, aI cI 256 g)] H := hP
  have hD : va_D (Aa [xo, fa, ma, h, h1, h2] H0.size) [(xo, .inr (3, [.ref fa, .ref ma])), (fa, aQ cF 4 fi), (ma, aQ cF 12 mk), (h, .inr (2, [.int (nI A), .int (nI B), .int (nI (if (n + n ≤ 2 ^ A) then (n + n) else n)), .ref h1, .ref h2])), (h1, aN cI 256 (if (n + n ≤ 2 ^ A) then (mrg f (n + n) n n f) else f)), (h2, aI cI 256 g)] := va_D.same2 [xo, fa, ma, h, h1, h2] hD rfl rfl
  refine lv_if_ne (tgt := 90) hx hb d_F_merge_77 (by decide) (fun c_77 => ?_) (fun c_77 => ?_)
  · refine lv_aload hx hb d_F_merge_90 (lv_at hl 1 rfl) ?_
    refine va_get (D := D) (ci := 2) (v := .int (nI (if (n + n ≤ 2 ^ A) then (n + n) else n))) (C := R_R) (T := T_R) (N := 5) hx hb (us_R G hW) (fun _ h => h) hown hK hP 3 rfl rfl 2 (by decide) (fl_F_135 G hW) (u_same (args := ([.ref xo, .int (nI j), .int (nI j)] : List Value).toArray) (G.1.at 187 rfl rfl _ hW)) rfl d_F_merge_92 ?_
    exact mx_iret hx hb hr hlk d_F_merge_95 (Nat.le_of_ble_eq_true rfl) (Nat.le_of_ble_eq_true rfl) hS.2.2 (⟨by rw [if_pos (of_decide_eq_true (bI_t c_77))]; rfl, hP⟩)
  · exact mx_throw (rest := []) G hx hb hW hown (th_U G) (str_at G 627 rfl hW) (hon.go had hS) (hl.1.trans hml.symm) het hlk d_F_merge_80 d_F_merge_83 d_F_merge_84 d_F_merge_86 d_F_merge_89 (Nat.le_of_ble_eq_true rfl) (Nat.le_of_ble_eq_true rfl) (Nat.le_of_ble_eq_true rfl) (Nat.le_of_ble_eq_true rfl) (Nat.le_of_ble_eq_true rfl) (Nat.le_of_ble_eq_true rfl) hS.2.2 (fun H1 q hz hk ho => ⟨by rw [if_neg (of_decide_eq_false (bI_f c_77))]; exact ⟨q, rfl, ho⟩, va_P.ext hP hk⟩)
