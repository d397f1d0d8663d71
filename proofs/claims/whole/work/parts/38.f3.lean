theorem va_D.mem {A : Nat → Prop} {ws : va_W} (h : va_D A ws) {q : Nat} (hq : q ∈ ws.map (·.1)) : A q := by
  obtain ⟨x, hx, e⟩ := List.mem_map.mp hq
  obtain ⟨k, hk⟩ := List.getElem?_of_mem hx
  rw [← e]
  exact h.2 k x hk
/-- what count tells -/
def cntS (S : FS) (w : Nat) : Int32 := match S with
  | (kd, A, B, hd, pu, cs, n, f) =>
    if w = 0 then nI kd else if w = 1 then nI A else if w = 2 then nI B else if w = 3 then hd
    else if w = 4 then (if kd = 1 then nI (posN cs (2 ^ A)) else hd)
    else if kd = 1 then nI (maxN cs (2 ^ A)) else if kd = 2 then pu else nI (if 2 ^ A < lngN (cirF f A B n) (2 ^ A) (2 * 2 ^ A) then 2 ^ A else lngN (cirF f A B n) (2 ^ A) (2 * 2 ^ A))
/-- what a cell shows -/
def lokS (S : FS) (z : Nat) : Int32 := match S with
  | (kd, A, B, hd, pu, cs, n, f) => if kd = 3 then nI (match cirF f A B n z with | none => 0 | some j => lkR f B n z j) else nI (cs z)
/-- a filter begun anew -/
def mkS (kd A B : Nat) (f : Nat → Nat) : FS := (kd, A, B, nI 0, nI 0, fun _ => 0, 0, f)

set_option maxHeartbeats 4000000 in
set_option maxRecDepth 100000 in
theorem c_F_count_C_0 {l : Launch} {s0 : State} {D : va_G} {cI cF cJ : ClassId} (G : Gx l s0 D cI cF cJ) (xo fa ma : Nat) (fi mk : Nat → Option Nat) (h h1 h2 h3 A B : Nat) (hd pv : Int32) (cs pl pb : Nat → Nat) (n0 : Nat) (f0 : Nat → Nat) (j : Nat) {H0 : Heap} {A0 : Nat → Prop} (hP : va_P D vcl [(xo, .inr (3, [.ref fa, .ref ma])), (fa, aQ cF 4 fi), (ma, aQ cF 12 mk), (h, .inr (0, [.int (nI A), .int (nI B), .int hd, .ref h1, .ref h2, .ref h3])), (h1, aN cI 1024 cs), (h2, aN cI 6 pl), (h3, aN cI 6 pb)] H0) (hD : va_D A0 [(xo, .inr (3, [.ref fa, .ref ma])), (fa, aQ cF 4 fi), (ma, aQ cF 12 mk), (h, .inr (0, [.int (nI A), .int (nI B), .int hd, .ref h1, .ref h2, .ref h3])), (h1, aN cI 1024 cs), (h2, aN cI 6 pl), (h3, aN cI 6 pb)]) (hok : okS (1, A, B, hd, pv, cs, n0, f0)) (hj : j < 4) (hfi : fi j = some h) (hon : onS s0 H0) (had : ∀ q ∈ [xo, fa, ma, h, h1, h2, h3], s0.heap.size ≤ q)  : Mx l s0 y_F_count (.code y_F_count b_F_count 4 (some .int)) { frames := 7, cells := 0, slots := 0, locals := 160 } [.ref xo, .int (nI j), .int (nI 0)] H0 (Aa [xo, fa, ma, h, h1, h2, h3] H0.size) (Rq s0 none (some (.int (cntS (1, A, B, hd, pv, cs, n0, f0) 0))) (fun H1 => va_P D vcl [(xo, .inr (3, [.ref fa, .ref ma])), (fa, aQ cF 4 fi), (ma, aQ cF 12 mk), (h, .inr (0, [.int (nI A), .int (nI B), .int hd, .ref h1, .ref h2, .ref h3])), (h1, aN cI 1024 cs), (h2, aN cI 6 pl), (h3, aN cI 6 pb)] H1)) := by
  refine Mx.ofW (own := "FewBits") rfl rfl ?_
  rintro p e s m below meth c ⟨hx, hb, hml, hr, hown, hW, hlk⟩ hnm het hH
  have hK := G.k hW
  have hD := hD.aa (sz := H0.size)
  have hD : va_D (Aa [xo, fa, ma, h, h1, h2, h3] H0.size) [(xo, .inr (3, [.ref fa, .ref ma])), (fa, aQ cF 4 fi), (ma, aQ cF 12 mk), (h, .inr (0, [.int (nI A), .int (nI B), .int hd, .ref h1, .ref h2, .ref h3])), (h1, aN cI 1024 cs), (h2, aN cI 6 pl), (h3, aN cI 6 pb)] := hD
  have hS : va_S (Aa [xo, fa, ma, h, h1, h2, h3] H0.size) H0 H0 [] := va_S.rf
  have hq := okS_1.mp hok
  have hA : A ≤ 10 := hq.2.1
  have hB : B ≤ 6 := hq.2.2.2.1
  have hc1 := hq.2.2.2.2.1
  have hl := lv_entry ([.ref xo, .int (nI j), .int (nI 0)]) (n := 4) (Nat.le_of_ble_eq_true rfl)
  rw [lg_entry_eq]
  generalize (lg_sl ([.ref xo, .int (nI j), .int (nI 0)]) ++ List.replicate (4 - (lg_sl ([.ref xo, .int (nI j), .int (nI 0)])).length) Slot.unset).toArray = ls at hl ⊢
  have hl : lv_has ls 4 [(0, .ref xo), (1, .int (nI j)), (2, .int (nI 0))] := hl
  refine lv_aload_n hx hb d_F_count_0 rfl (lv_at hl 0 rfl) ?_
  refine lv_iload_n hx hb d_F_count_1 rfl (lv_at hl 1 rfl) ?_
  refine mx_callR (r := .ref h) (c_F_filterAt G xo fa ma fi mk j h (hP.sub [0, 1, 2] rfl) hj hfi) hW (iv_F_count_2 G hx hb hown hW (va_recv hK hP (ci := 3) (q0 := 0) rfl rfl) [.int (nI j)] [] rfl) hml hl.1 (by rw [hb]; exact d_F_count_2) (cd_F_filterAt G hW) ⟨Nat.le_of_ble_eq_true rfl, Nat.le_of_ble_eq_true rfl⟩ rfl rfl (Nat.le_of_ble_eq_true rfl) (Nat.le_of_ble_eq_true rfl) (Nat.le_of_ble_eq_true rfl) ?_
  refine lv_astore_n (lv' := [(3, .ref h), (0, .ref xo), (1, .int (nI j)), (2, .int (nI 0))]) hx hb d_F_count_5 rfl hl (by decide) rfl (fun ls hl => ?_)
  refine lv_iload_n hx hb d_F_count_6 rfl (lv_at hl 3 rfl) ?_
  refine lv_tableIn (tgt := 44) hx hb d_F_count_7 (by decide) (by decide) rfl (by decide) ?_
  refine lv_aload_n hx hb d_F_count_44 rfl (lv_at hl 0 rfl) ?_
  refine mx_callR (r := .int (nI 1)) (c_C_kind G h h1 h2 h3 A B hd cs pl pb) hW (iv_F_count_45_C G hx hb hown hW (va_recv hK hP (ci := 0) (q0 := 3) rfl rfl) [] [] rfl) hml hl.1 (by rw [hb]; exact d_F_count_45) (cd_C_kind G hW) ⟨Nat.le_of_ble_eq_true rfl, Nat.le_of_ble_eq_true rfl⟩ rfl rfl (Nat.le_of_ble_eq_true rfl) (Nat.le_of_ble_eq_true rfl) (Nat.le_of_ble_eq_true rfl) ?_
  exact mx_iret hx hb hr hlk d_F_count_48 (Nat.le_of_ble_eq_true rfl) (Nat.le_of_ble_eq_true rfl) (fun _ h => nomatch h) (⟨rfl, hP⟩)

set_option maxHeartbeats 4000000 in
set_option maxRecDepth 100000 in
theorem c_F_count_C_1 {l : Launch} {s0 : State} {D : va_G} {cI cF cJ : ClassId} (G : Gx l s0 D cI cF cJ) (xo fa ma : Nat) (fi mk : Nat → Option Nat) (h h1 h2 h3 A B : Nat) (hd pv : Int32) (cs pl pb : Nat → Nat) (n0 : Nat) (f0 : Nat → Nat) (j : Nat) {H0 : Heap} {A0 : Nat → Prop} (hP : va_P D vcl [(xo, .inr (3, [.ref fa, .ref ma])), (fa, aQ cF 4 fi), (ma, aQ cF 12 mk), (h, .inr (0, [.int (nI A), .int (nI B), .int hd, .ref h1, .ref h2, .ref h3])), (h1, aN cI 1024 cs), (h2, aN cI 6 pl), (h3, aN cI 6 pb)] H0) (hD : va_D A0 [(xo, .inr (3, [.ref fa, .ref ma])), (fa, aQ cF 4 fi), (ma, aQ cF 12 mk), (h, .inr (0, [.int (nI A), .int (nI B), .int hd, .ref h1, .ref h2, .ref h3])), (h1, aN cI 1024 cs), (h2, aN cI 6 pl), (h3, aN cI 6 pb)]) (hok : okS (1, A, B, hd, pv, cs, n0, f0)) (hj : j < 4) (hfi : fi j = some h) (hon : onS s0 H0) (had : ∀ q ∈ [xo, fa, ma, h, h1, h2, h3], s0.heap.size ≤ q)  : Mx l s0 y_F_count (.code y_F_count b_F_count 4 (some .int)) { frames := 7, cells := 0, slots := 0, locals := 160 } [.ref xo, .int (nI j), .int (nI 1)] H0 (Aa [xo, fa, ma, h, h1, h2, h3] H0.size) (Rq s0 none (some (.int (cntS (1, A, B, hd, pv, cs, n0, f0) 1))) (fun H1 => va_P D vcl [(xo, .inr (3, [.ref fa, .ref ma])), (fa, aQ cF 4 fi), (ma, aQ cF 12 mk), (h, .inr (0, [.int (nI A), .int (nI B), .int hd, .ref h1, .ref h2, .ref h3])), (h1, aN cI 1024 cs), (h2, aN cI 6 pl), (h3, aN cI 6 pb)] H1)) := by
  refine Mx.ofW (own := "FewBits") rfl rfl ?_
  rintro p e s m below meth c ⟨hx, hb, hml, hr, hown, hW, hlk⟩ hnm het hH
  have hK := G.k hW
  have hD := hD.aa (sz := H0.size)
  have hD : va_D (Aa [xo, fa, ma, h, h1, h2, h3] H0.size) [(xo, .inr (3, [.ref fa, .ref ma])), (fa, aQ cF 4 fi), (ma, aQ cF 12 mk), (h, .inr (0, [.int (nI A), .int (nI B), .int hd, .ref h1, .ref h2, .ref h3])), (h1, aN cI 1024 cs), (h2, aN cI 6 pl), (h3, aN cI 6 pb)] := hD
  have hS : va_S (Aa [xo, fa, ma, h, h1, h2, h3] H0.size) H0 H0 [] := va_S.rf
  have hq := okS_1.mp hok
  have hA : A ≤ 10 := hq.2.1
  have hB : B ≤ 6 := hq.2.2.2.1
  have hc1 := hq.2.2.2.2.1
  have hl := lv_entry ([.ref xo, .int (nI j), .int (nI 1)]) (n := 4) (Nat.le_of_ble_eq_true rfl)
  rw [lg_entry_eq]
  generalize (lg_sl ([.ref xo, .int (nI j), .int (nI 1)]) ++ List.replicate (4 - (lg_sl ([.ref xo, .int (nI j), .int (nI 1)])).length) Slot.unset).toArray = ls at hl ⊢
  have hl : lv_has ls 4 [(0, .ref xo), (1, .int (nI j)), (2, .int (nI 1))] := hl
  refine lv_aload_n hx hb d_F_count_0 rfl (lv_at hl 0 rfl) ?_
  refine lv_iload_n hx hb d_F_count_1 rfl (lv_at hl 1 rfl) ?_
  refine mx_callR (r := .ref h) (c_F_filterAt G xo fa ma fi mk j h (hP.sub [0, 1, 2] rfl) hj hfi) hW (iv_F_count_2 G hx hb hown hW (va_recv hK hP (ci := 3) (q0 := 0) rfl rfl) [.int (nI j)] [] rfl) hml hl.1 (by rw [hb]; exact d_F_count_2) (cd_F_filterAt G hW) ⟨Nat.le_of_ble_eq_true rfl, Nat.le_of_ble_eq_true rfl⟩ rfl rfl (Nat.le_of_ble_eq_true rfl) (Nat.le_of_ble_eq_true rfl) (Nat.le_of_ble_eq_true rfl) ?_
  refine lv_astore_n (lv' := [(3, .ref h), (0, .ref xo), (1, .int (nI j)), (2, .int (nI 1))]) hx hb d_F_count_5 rfl hl (by decide) rfl (fun ls hl => ?_)
  refine lv_iload_n hx hb d_F_count_6 rfl (lv_at hl 3 rfl) ?_
  refine lv_tableIn (tgt := 49) hx hb d_F_count_7 (by decide) (by decide) rfl (by decide) ?_
  refine lv_aload_n hx hb d_F_count_49 rfl (lv_at hl 0 rfl) ?_
  refine va_get (D := D) (ci := 0) (v := .int (nI A)) (C := R_C) (T := T_C) (N := 6) hx hb (us_C G hW) (fun _ h => h) hown hK hP 3 rfl rfl 0 (by decide) (fl_F_84 G hW) (fun _ h9 => h9) rfl d_F_count_50 ?_
  exact mx_iret hx hb hr hlk d_F_count_53 (Nat.le_of_ble_eq_true rfl) (Nat.le_of_ble_eq_true rfl) (fun _ h => nomatch h) (⟨rfl, hP⟩)

set_option maxHeartbeats 4000000 in
set_option maxRecDepth 100000 in
theorem c_F_count_C_2 {l : Launch} {s0 : State} {D : va_G} {cI cF cJ : ClassId} (G : Gx l s0 D cI cF cJ) (xo fa ma : Nat) (fi mk : Nat → Option Nat) (h h1 h2 h3 A B : Nat) (hd pv : Int32) (cs pl pb : Nat → Nat) (n0 : Nat) (f0 : Nat → Nat) (j : Nat) {H0 : Heap} {A0 : Nat → Prop} (hP : va_P D vcl [(xo, .inr (3, [.ref fa, .ref ma])), (fa, aQ cF 4 fi), (ma, aQ cF 12 mk), (h, .inr (0, [.int (nI A), .int (nI B), .int hd, .ref h1, .ref h2, .ref h3])), (h1, aN cI 1024 cs), (h2, aN cI 6 pl), (h3, aN cI 6 pb)] H0) (hD : va_D A0 [(xo, .inr (3, [.ref fa, .ref ma])), (fa, aQ cF 4 fi), (ma, aQ cF 12 mk), (h, .inr (0, [.int (nI A), .int (nI B), .int hd, .ref h1, .ref h2, .ref h3])), (h1, aN cI 1024 cs), (h2, aN cI 6 pl), (h3, aN cI 6 pb)]) (hok : okS (1, A, B, hd, pv, cs, n0, f0)) (hj : j < 4) (hfi : fi j = some h) (hon : onS s0 H0) (had : ∀ q ∈ [xo, fa, ma, h, h1, h2, h3], s0.heap.size ≤ q)  : Mx l s0 y_F_count (.code y_F_count b_F_count 4 (some .int)) { frames := 7, cells := 0, slots := 0, locals := 160 } [.ref xo, .int (nI j), .int (nI 2)] H0 (Aa [xo, fa, ma, h, h1, h2, h3] H0.size) (Rq s0 none (some (.int (cntS (1, A, B, hd, pv, cs, n0, f0) 2))) (fun H1 => va_P D vcl [(xo, .inr (3, [.ref fa, .ref ma])), (fa, aQ cF 4 fi), (ma, aQ cF 12 mk), (h, .inr (0, [.int (nI A), .int (nI B), .int hd, .ref h1, .ref h2, .ref h3])), (h1, aN cI 1024 cs), (h2, aN cI 6 pl), (h3, aN cI 6 pb)] H1)) := by
  refine Mx.ofW (own := "FewBits") rfl rfl ?_
  rintro p e s m below meth c ⟨hx, hb, hml, hr, hown, hW, hlk⟩ hnm het hH
  have hK := G.k hW
  have hD := hD.aa (sz := H0.size)
  have hD : va_D (Aa [xo, fa, ma, h, h1, h2, h3] H0.size) [(xo, .inr (3, [.ref fa, .ref ma])), (fa, aQ cF 4 fi), (ma, aQ cF 12 mk), (h, .inr (0, [.int (nI A), .int (nI B), .int hd, .ref h1, .ref h2, .ref h3])), (h1, aN cI 1024 cs), (h2, aN cI 6 pl), (h3, aN cI 6 pb)] := hD
  have hS : va_S (Aa [xo, fa, ma, h, h1, h2, h3] H0.size) H0 H0 [] := va_S.rf
  have hq := okS_1.mp hok
  have hA : A ≤ 10 := hq.2.1
  have hB : B ≤ 6 := hq.2.2.2.1
  have hc1 := hq.2.2.2.2.1
  have hl := lv_entry ([.ref xo, .int (nI j), .int (nI 2)]) (n := 4) (Nat.le_of_ble_eq_true rfl)
  rw [lg_entry_eq]
  generalize (lg_sl ([.ref xo, .int (nI j), .int (nI 2)]) ++ List.replicate (4 - (lg_sl ([.ref xo, .int (nI j), .int (nI 2)])).length) Slot.unset).toArray = ls at hl ⊢
  have hl : lv_has ls 4 [(0, .ref xo), (1, .int (nI j)), (2, .int (nI 2))] := hl
  refine lv_aload_n hx hb d_F_count_0 rfl (lv_at hl 0 rfl) ?_
  refine lv_iload_n hx hb d_F_count_1 rfl (lv_at hl 1 rfl) ?_
  refine mx_callR (r := .ref h) (c_F_filterAt G xo fa ma fi mk j h (hP.sub [0, 1, 2] rfl) hj hfi) hW (iv_F_count_2 G hx hb hown hW (va_recv hK hP (ci := 3) (q0 := 0) rfl rfl) [.int (nI j)] [] rfl) hml hl.1 (by rw [hb]; exact d_F_count_2) (cd_F_filterAt G hW) ⟨Nat.le_of_ble_eq_true rfl, Nat.le_of_ble_eq_true rfl⟩ rfl rfl (Nat.le_of_ble_eq_true rfl) (Nat.le_of_ble_eq_true rfl) (Nat.le_of_ble_eq_true rfl) ?_
  refine lv_astore_n (lv' := [(3, .ref h), (0, .ref xo), (1, .int (nI j)), (2, .int (nI 2))]) hx hb d_F_count_5 rfl hl (by decide) rfl (fun ls hl => ?_)
  refine lv_iload_n hx hb d_F_count_6 rfl (lv_at hl 3 rfl) ?_
  refine lv_tableIn (tgt := 54) hx hb d_F_count_7 (by decide) (by decide) rfl (by decide) ?_
  refine lv_aload_n hx hb d_F_count_54 rfl (lv_at hl 0 rfl) ?_
  refine va_get (D := D) (ci := 0) (v := .int (nI B)) (C := R_C) (T := T_C) (N := 6) hx hb (us_C G hW) (fun _ h => h) hown hK hP 3 rfl rfl 1 (by decide) (fl_F_87 G hW) (fun _ h9 => h9) rfl d_F_count_55 ?_
  exact mx_iret hx hb hr hlk d_F_count_58 (Nat.le_of_ble_eq_true rfl) (Nat.le_of_ble_eq_true rfl) (fun _ h => nomatch h) (⟨rfl, hP⟩)

set_option maxHeartbeats 4000000 in
set_option maxRecDepth 100000 in
theorem c_F_count_C_3 {l : Launch} {s0 : State} {D : va_G} {cI cF cJ : ClassId} (G : Gx l s0 D cI cF cJ) (xo fa ma : Nat) (fi mk : Nat → Option Nat) (h h1 h2 h3 A B : Nat) (hd pv : Int32) (cs pl pb : Nat → Nat) (n0 : Nat) (f0 : Nat → Nat) (j : Nat) {H0 : Heap} {A0 : Nat → Prop} (hP : va_P D vcl [(xo, .inr (3, [.ref fa, .ref ma])), (fa, aQ cF 4 fi), (ma, aQ cF 12 mk), (h, .inr (0, [.int (nI A), .int (nI B), .int hd, .ref h1, .ref h2, .ref h3])), (h1, aN cI 1024 cs), (h2, aN cI 6 pl), (h3, aN cI 6 pb)] H0) (hD : va_D A0 [(xo, .inr (3, [.ref fa, .ref ma])), (fa, aQ cF 4 fi), (ma, aQ cF 12 mk), (h, .inr (0, [.int (nI A), .int (nI B), .int hd, .ref h1, .ref h2, .ref h3])), (h1, aN cI 1024 cs), (h2, aN cI 6 pl), (h3, aN cI 6 pb)]) (hok : okS (1, A, B, hd, pv, cs, n0, f0)) (hj : j < 4) (hfi : fi j = some h) (hon : onS s0 H0) (had : ∀ q ∈ [xo, fa, ma, h, h1, h2, h3], s0.heap.size ≤ q)  : Mx l s0 y_F_count (.code y_F_count b_F_count 4 (some .int)) { frames := 7, cells := 0, slots := 0, locals := 160 } [.ref xo, .int (nI j), .int (nI 3)] H0 (Aa [xo, fa, ma, h, h1, h2, h3] H0.size) (Rq s0 none (some (.int (cntS (1, A, B, hd, pv, cs, n0, f0) 3))) (fun H1 => va_P D vcl [(xo, .inr (3, [.ref fa, .ref ma])), (fa, aQ cF 4 fi), (ma, aQ cF 12 mk), (h, .inr (0, [.int (nI A), .int (nI B), .int hd, .ref h1, .ref h2, .ref h3])), (h1, aN cI 1024 cs), (h2, aN cI 6 pl), (h3, aN cI 6 pb)] H1)) := by
  refine Mx.ofW (own := "FewBits") rfl rfl ?_
  rintro p e s m below meth c ⟨hx, hb, hml, hr, hown, hW, hlk⟩ hnm het hH
  have hK := G.k hW
  have hD := hD.aa (sz := H0.size)
  have hD : va_D (Aa [xo, fa, ma, h, h1, h2, h3] H0.size) [(xo, .inr (3, [.ref fa, .ref ma])), (fa, aQ cF 4 fi), (ma, aQ cF 12 mk), (h, .inr (0, [.int (nI A), .int (nI B), .int hd, .ref h1, .ref h2, .ref h3])), (h1, aN cI 1024 cs), (h2, aN cI 6 pl), (h3, aN cI 6 pb)] := hD
  have hS : va_S (Aa [xo, fa, ma, h, h1, h2, h3] H0.size) H0 H0 [] := va_S.rf
  have hq := okS_1.mp hok
  have hA : A ≤ 10 := hq.2.1
  have hB : B ≤ 6 := hq.2.2.2.1
  have hc1 := hq.2.2.2.2.1
  have hl := lv_entry ([.ref xo, .int (nI j), .int (nI 3)]) (n := 4) (Nat.le_of_ble_eq_true rfl)
  rw [lg_entry_eq]
  generalize (lg_sl ([.ref xo, .int (nI j), .int (nI 3)]) ++ List.replicate (4 - (lg_sl ([.ref xo, .int (nI j), .int (nI 3)])).length) Slot.unset).toArray = ls at hl ⊢
  have hl : lv_has ls 4 [(0, .ref xo), (1, .int (nI j)), (2, .int (nI 3))] := hl
  refine lv_aload_n hx hb d_F_count_0 rfl (lv_at hl 0 rfl) ?_
  refine lv_iload_n hx hb d_F_count_1 rfl (lv_at hl 1 rfl) ?_
  refine mx_callR (r := .ref h) (c_F_filterAt G xo fa ma fi mk j h (hP.sub [0, 1, 2] rfl) hj hfi) hW (iv_F_count_2 G hx hb hown hW (va_recv hK hP (ci := 3) (q0 := 0) rfl rfl) [.int (nI j)] [] rfl) hml hl.1 (by rw [hb]; exact d_F_count_2) (cd_F_filterAt G hW) ⟨Nat.le_of_ble_eq_true rfl, Nat.le_of_ble_eq_true rfl⟩ rfl rfl (Nat.le_of_ble_eq_true rfl) (Nat.le_of_ble_eq_true rfl) (Nat.le_of_ble_eq_true rfl) ?_
  refine lv_astore_n (lv' := [(3, .ref h), (0, .ref xo), (1, .int (nI j)), (2, .int (nI 3))]) hx hb d_F_count_5 rfl hl (by decide) rfl (fun ls hl => ?_)
  refine lv_iload_n hx hb d_F_count_6 rfl (lv_at hl 3 rfl) ?_
  refine lv_tableIn (tgt := 59) hx hb d_F_count_7 (by decide) (by decide) rfl (by decide) ?_
  refine lv_aload_n hx hb d_F_count_59 rfl (lv_at hl 0 rfl) ?_
  refine va_get (D := D) (ci := 0) (v := .int hd) (C := R_C) (T := T_C) (N := 6) hx hb (us_C G hW) (fun _ h => h) hown hK hP 3 rfl rfl 2 (by decide) (fl_F_58 G hW) (fun _ h9 => h9) rfl d_F_count_60 ?_
  exact mx_iret hx hb hr hlk d_F_count_63 (Nat.le_of_ble_eq_true rfl) (Nat.le_of_ble_eq_true rfl) (fun _ h => nomatch h) (⟨rfl, hP⟩)

set_option maxHeartbeats 4000000 in
set_option maxRecDepth 100000 in
theorem c_F_count_C_4 {l : Launch} {s0 : State} {D : va_G} {cI cF cJ : ClassId} (G : Gx l s0 D cI cF cJ) (xo fa ma : Nat) (fi mk : Nat → Option Nat) (h h1 h2 h3 A B : Nat) (hd pv : Int32) (cs pl pb : Nat → Nat) (n0 : Nat) (f0 : Nat → Nat) (j : Nat) {H0 : Heap} {A0 : Nat → Prop} (hP : va_P D vcl [(xo, .inr (3, [.ref fa, .ref ma])), (fa, aQ cF 4 fi), (ma, aQ cF 12 mk), (h, .inr (0, [.int (nI A), .int (nI B), .int hd, .ref h1, .ref h2, .ref h3])), (h1, aN cI 1024 cs), (h2, aN cI 6 pl), (h3, aN cI 6 pb)] H0) (hD : va_D A0 [(xo, .inr (3, [.ref fa, .ref ma])), (fa, aQ cF 4 fi), (ma, aQ cF 12 mk), (h, .inr (0, [.int (nI A), .int (nI B), .int hd, .ref h1, .ref h2, .ref h3])), (h1, aN cI 1024 cs), (h2, aN cI 6 pl), (h3, aN cI 6 pb)]) (hok : okS (1, A, B, hd, pv, cs, n0, f0)) (hj : j < 4) (hfi : fi j = some h) (hon : onS s0 H0) (had : ∀ q ∈ [xo, fa, ma, h, h1, h2, h3], s0.heap.size ≤ q)  : Mx l s0 y_F_count (.code y_F_count b_F_count 4 (some .int)) { frames := 7, cells := 0, slots := 0, locals := 160 } [.ref xo, .int (nI j), .int (nI 4)] H0 (Aa [xo, fa, ma, h, h1, h2, h3] H0.size) (Rq s0 none (some (.int (cntS (1, A, B, hd, pv, cs, n0, f0) 4))) (fun H1 => va_P D vcl [(xo, .inr (3, [.ref fa, .ref ma])), (fa, aQ cF 4 fi), (ma, aQ cF 12 mk), (h, .inr (0, [.int (nI A), .int (nI B), .int hd, .ref h1, .ref h2, .ref h3])), (h1, aN cI 1024 cs), (h2, aN cI 6 pl), (h3, aN cI 6 pb)] H1)) := by
  refine Mx.ofW (own := "FewBits") rfl rfl ?_
  rintro p e s m below meth c ⟨hx, hb, hml, hr, hown, hW, hlk⟩ hnm het hH
  have hK := G.k hW
  have hD := hD.aa (sz := H0.size)
  have hD : va_D (Aa [xo, fa, ma, h, h1, h2, h3] H0.size) [(xo, .inr (3, [.ref fa, .ref ma])), (fa, aQ cF 4 fi), (ma, aQ cF 12 mk), (h, .inr (0, [.int (nI A), .int (nI B), .int hd, .ref h1, .ref h2, .ref h3])), (h1, aN cI 1024 cs), (h2, aN cI 6 pl), (h3, aN cI 6 pb)] := hD
  have hS : va_S (Aa [xo, fa, ma, h, h1, h2, h3] H0.size) H0 H0 [] := va_S.rf
  have hq := okS_1.mp hok
  have hA : A ≤ 10 := hq.2.1
  have hB : B ≤ 6 := hq.2.2.2.1
  have hc1 := hq.2.2.2.2.1
  have hl := lv_entry ([.ref xo, .int (nI j), .int (nI 4)]) (n := 4) (Nat.le_of_ble_eq_true rfl)
  rw [lg_entry_eq]
  generalize (lg_sl ([.ref xo, .int (nI j), .int (nI 4)]) ++ List.replicate (4 - (lg_sl ([.ref xo, .int (nI j), .int (nI 4)])).length) Slot.unset).toArray = ls at hl ⊢
  have hl : lv_has ls 4 [(0, .ref xo), (1, .int (nI j)), (2, .int (nI 4))] := hl
  refine lv_aload_n hx hb d_F_count_0 rfl (lv_at hl 0 rfl) ?_
  refine lv_iload_n hx hb d_F_count_1 rfl (lv_at hl 1 rfl) ?_
  refine mx_callR (r := .ref h) (c_F_filterAt G xo fa ma fi mk j h (hP.sub [0, 1, 2] rfl) hj hfi) hW (iv_F_count_2 G hx hb hown hW (va_recv hK hP (ci := 3) (q0 := 0) rfl rfl) [.int (nI j)] [] rfl) hml hl.1 (by rw [hb]; exact d_F_count_2) (cd_F_filterAt G hW) ⟨Nat.le_of_ble_eq_true rfl, Nat.le_of_ble_eq_true rfl⟩ rfl rfl (Nat.le_of_ble_eq_true rfl) (Nat.le_of_ble_eq_true rfl) (Nat.le_of_ble_eq_true rfl) ?_
  refine lv_astore_n (lv' := [(3, .ref h), (0, .ref xo), (1, .int (nI j)), (2, .int (nI 4))]) hx hb d_F_count_5 rfl hl (by decide) rfl (fun ls hl => ?_)
  refine lv_iload_n hx hb d_F_count_6 rfl (lv_at hl 3 rfl) ?_
  refine lv_tableIn (tgt := 64) hx hb d_F_count_7 (by decide) (by decide) rfl (by decide) ?_
  refine lv_aload_n hx hb d_F_count_64 rfl (lv_at hl 0 rfl) ?_
  refine mx_callR (r := .int (nI (posN cs (2 ^ A)))) (c_C_filledCells G h h1 h2 h3 A B hd cs pl pb (hP.sub [3, 4, 5, 6] rfl) hA hc1) hW (iv_F_count_65_C G hx hb hown hW (va_recv hK hP (ci := 0) (q0 := 3) rfl rfl) [] [] rfl) hml hl.1 (by rw [hb]; exact d_F_count_65) (cd_C_filledCells G hW) ⟨Nat.le_of_ble_eq_true rfl, Nat.le_of_ble_eq_true rfl⟩ rfl rfl (Nat.le_of_ble_eq_true rfl) (Nat.le_of_ble_eq_true rfl) (Nat.le_of_ble_eq_true rfl) ?_
  exact mx_iret hx hb hr hlk d_F_count_68 (Nat.le_of_ble_eq_true rfl) (Nat.le_of_ble_eq_true rfl) (fun _ h => nomatch h) (⟨rfl, hP⟩)

set_option maxHeartbeats 4000000 in
set_option maxRecDepth 100000 in
theorem c_F_count_C_5 {l : Launch} {s0 : State} {D : va_G} {cI cF cJ : ClassId} (G : Gx l s0 D cI cF cJ) (xo fa ma : Nat) (fi mk : Nat → Option Nat) (h h1 h2 h3 A B : Nat) (hd pv : Int32) (cs pl pb : Nat → Nat) (n0 : Nat) (f0 : Nat → Nat) (j : Nat) {H0 : Heap} {A0 : Nat → Prop} (hP : va_P D vcl [(xo, .inr (3, [.ref fa, .ref ma])), (fa, aQ cF 4 fi), (ma, aQ cF 12 mk), (h, .inr (0, [.int (nI A), .int (nI B), .int hd, .ref h1, .ref h2, .ref h3])), (h1, aN cI 1024 cs), (h2, aN cI 6 pl), (h3, aN cI 6 pb)] H0) (hD : va_D A0 [(xo, .inr (3, [.ref fa, .ref ma])), (fa, aQ cF 4 fi), (ma, aQ cF 12 mk), (h, .inr (0, [.int (nI A), .int (nI B), .int hd, .ref h1, .ref h2, .ref h3])), (h1, aN cI 1024 cs), (h2, aN cI 6 pl), (h3, aN cI 6 pb)]) (hok : okS (1, A, B, hd, pv, cs, n0, f0)) (hj : j < 4) (hfi : fi j = some h) (hon : onS s0 H0) (had : ∀ q ∈ [xo, fa, ma, h, h1, h2, h3], s0.heap.size ≤ q)  : Mx l s0 y_F_count (.code y_F_count b_F_count 4 (some .int)) { frames := 7, cells := 0, slots := 0, locals := 160 } [.ref xo, .int (nI j), .int (nI 5)] H0 (Aa [xo, fa, ma, h, h1, h2, h3] H0.size) (Rq s0 none (some (.int (cntS (1, A, B, hd, pv, cs, n0, f0) 5))) (fun H1 => va_P D vcl [(xo, .inr (3, [.ref fa, .ref ma])), (fa, aQ cF 4 fi), (ma, aQ cF 12 mk), (h, .inr (0, [.int (nI A), .int (nI B), .int hd, .ref h1, .ref h2, .ref h3])), (h1, aN cI 1024 cs), (h2, aN cI 6 pl), (h3, aN cI 6 pb)] H1)) := by
  refine Mx.ofW (own := "FewBits") rfl rfl ?_
  rintro p e s m below meth c ⟨hx, hb, hml, hr, hown, hW, hlk⟩ hnm het hH
  have hK := G.k hW
  have hD := hD.aa (sz := H0.size)
  have hD : va_D (Aa [xo, fa, ma, h, h1, h2, h3] H0.size) [(xo, .inr (3, [.ref fa, .ref ma])), (fa, aQ cF 4 fi), (ma, aQ cF 12 mk), (h, .inr (0, [.int (nI A), .int (nI B), .int hd, .ref h1, .ref h2, .ref h3])), (h1, aN cI 1024 cs), (h2, aN cI 6 pl), (h3, aN cI 6 pb)] := hD
  have hS : va_S (Aa [xo, fa, ma, h, h1, h2, h3] H0.size) H0 H0 [] := va_S.rf
  have hq := okS_1.mp hok
  have hA : A ≤ 10 := hq.2.1
  have hB : B ≤ 6 := hq.2.2.2.1
  have hc1 := hq.2.2.2.2.1
  have hl := lv_entry ([.ref xo, .int (nI j), .int (nI 5)]) (n := 4) (Nat.le_of_ble_eq_true rfl)
  rw [lg_entry_eq]
  generalize (lg_sl ([.ref xo, .int (nI j), .int (nI 5)]) ++ List.replicate (4 - (lg_sl ([.ref xo, .int (nI j), .int (nI 5)])).length) Slot.unset).toArray = ls at hl ⊢
  have hl : lv_has ls 4 [(0, .ref xo), (1, .int (nI j)), (2, .int (nI 5))] := hl
  refine lv_aload_n hx hb d_F_count_0 rfl (lv_at hl 0 rfl) ?_
  refine lv_iload_n hx hb d_F_count_1 rfl (lv_at hl 1 rfl) ?_
  refine mx_callR (r := .ref h) (c_F_filterAt G xo fa ma fi mk j h (hP.sub [0, 1, 2] rfl) hj hfi) hW (iv_F_count_2 G hx hb hown hW (va_recv hK hP (ci := 3) (q0 := 0) rfl rfl) [.int (nI j)] [] rfl) hml hl.1 (by rw [hb]; exact d_F_count_2) (cd_F_filterAt G hW) ⟨Nat.le_of_ble_eq_true rfl, Nat.le_of_ble_eq_true rfl⟩ rfl rfl (Nat.le_of_ble_eq_true rfl) (Nat.le_of_ble_eq_true rfl) (Nat.le_of_ble_eq_true rfl) ?_
  refine lv_astore_n (lv' := [(3, .ref h), (0, .ref xo), (1, .int (nI j)), (2, .int (nI 5))]) hx hb d_F_count_5 rfl hl (by decide) rfl (fun ls hl => ?_)
  refine lv_iload_n hx hb d_F_count_6 rfl (lv_at hl 3 rfl) ?_
  refine lv_tableIn (tgt := 69) hx hb d_F_count_7 (by decide) (by decide) rfl (by decide) ?_
  refine lv_aload_n hx hb d_F_count_69 rfl (lv_at hl 0 rfl) ?_
  refine mx_callR (r := .int (nI (maxN cs (2 ^ A)))) (c_C_strain G h h1 h2 h3 A B hd cs pl pb (hP.sub [3, 4, 5, 6] rfl) hA hc1) hW (iv_F_count_70_C G hx hb hown hW (va_recv hK hP (ci := 0) (q0 := 3) rfl rfl) [] [] rfl) hml hl.1 (by rw [hb]; exact d_F_count_70) (cd_C_strain G hW) ⟨Nat.le_of_ble_eq_true rfl, Nat.le_of_ble_eq_true rfl⟩ rfl rfl (Nat.le_of_ble_eq_true rfl) (Nat.le_of_ble_eq_true rfl) (Nat.le_of_ble_eq_true rfl) ?_
  exact mx_iret hx hb hr hlk d_F_count_73 (Nat.le_of_ble_eq_true rfl) (Nat.le_of_ble_eq_true rfl) (fun _ h => nomatch h) (⟨rfl, hP⟩)

set_option maxHeartbeats 4000000 in
set_option maxRecDepth 100000 in
theorem c_F_count_C_out {l : Launch} {s0 : State} {D : va_G} {cI cF cJ : ClassId} (G : Gx l s0 D cI cF cJ) (xo fa ma : Nat) (fi mk : Nat → Option Nat) (h h1 h2 h3 A B : Nat) (hd pv : Int32) (cs pl pb : Nat → Nat) (n0 : Nat) (f0 : Nat → Nat) (j : Nat) (wv : Int32) {H0 : Heap} {A0 : Nat → Prop} (hP : va_P D vcl [(xo, .inr (3, [.ref fa, .ref ma])), (fa, aQ cF 4 fi), (ma, aQ cF 12 mk), (h, .inr (0, [.int (nI A), .int (nI B), .int hd, .ref h1, .ref h2, .ref h3])), (h1, aN cI 1024 cs), (h2, aN cI 6 pl), (h3, aN cI 6 pb)] H0) (hD : va_D A0 [(xo, .inr (3, [.ref fa, .ref ma])), (fa, aQ cF 4 fi), (ma, aQ cF 12 mk), (h, .inr (0, [.int (nI A), .int (nI B), .int hd, .ref h1, .ref h2, .ref h3])), (h1, aN cI 1024 cs), (h2, aN cI 6 pl), (h3, aN cI 6 pb)]) (hok : okS (1, A, B, hd, pv, cs, n0, f0)) (hj : j < 4) (hfi : fi j = some h) (hon : onS s0 H0) (had : ∀ q ∈ [xo, fa, ma, h, h1, h2, h3], s0.heap.size ≤ q) (hw : wv.toInt < 0 ∨ 5 < wv.toInt) : Mx l s0 y_F_count (.code y_F_count b_F_count 4 (some .int)) { frames := 7, cells := 1, slots := 6, locals := 160 } [.ref xo, .int (nI j), .int wv] H0 (Aa [xo, fa, ma, h, h1, h2, h3] H0.size) (Rq s0 (some E_A) none (fun H1 => va_P D vcl [(xo, .inr (3, [.ref fa, .ref ma])), (fa, aQ cF 4 fi), (ma, aQ cF 12 mk), (h, .inr (0, [.int (nI A), .int (nI B), .int hd, .ref h1, .ref h2, .ref h3])), (h1, aN cI 1024 cs), (h2, aN cI 6 pl), (h3, aN cI 6 pb)] H1)) := by
  refine Mx.ofW (own := "FewBits") rfl rfl ?_
  rintro p e s m below meth c ⟨hx, hb, hml, hr, hown, hW, hlk⟩ hnm het hH
  have hK := G.k hW
  have hD := hD.aa (sz := H0.size)
  have hD : va_D (Aa [xo, fa, ma, h, h1, h2, h3] H0.size) [(xo, .inr (3, [.ref fa, .ref ma])), (fa, aQ cF 4 fi), (ma, aQ cF 12 mk), (h, .inr (0, [.int (nI A), .int (nI B), .int hd, .ref h1, .ref h2, .ref h3])), (h1, aN cI 1024 cs), (h2, aN cI 6 pl), (h3, aN cI 6 pb)] := hD
  have hS : va_S (Aa [xo, fa, ma, h, h1, h2, h3] H0.size) H0 H0 [] := va_S.rf
  have hl := lv_entry ([.ref xo, .int (nI j), .int wv]) (n := 4) (Nat.le_of_ble_eq_true rfl)
  rw [lg_entry_eq]
  generalize (lg_sl ([.ref xo, .int (nI j), .int wv]) ++ List.replicate (4 - (lg_sl ([.ref xo, .int (nI j), .int wv])).length) Slot.unset).toArray = ls at hl ⊢
  have hl : lv_has ls 4 [(0, .ref xo), (1, .int (nI j)), (2, .int wv)] := hl
  refine lv_aload_n hx hb d_F_count_0 rfl (lv_at hl 0 rfl) ?_
  refine lv_iload_n hx hb d_F_count_1 rfl (lv_at hl 1 rfl) ?_
  refine mx_callR (r := .ref h) (c_F_filterAt G xo fa ma fi mk j h (hP.sub [0, 1, 2] rfl) hj hfi) hW (iv_F_count_2 G hx hb hown hW (va_recv hK hP (ci := 3) (q0 := 0) rfl rfl) [.int (nI j)] [] rfl) hml hl.1 (by rw [hb]; exact d_F_count_2) (cd_F_filterAt G hW) ⟨Nat.le_of_ble_eq_true rfl, Nat.le_of_ble_eq_true rfl⟩ rfl rfl (Nat.le_of_ble_eq_true rfl) (Nat.le_of_ble_eq_true rfl) (Nat.le_of_ble_eq_true rfl) ?_
  refine lv_astore_n (lv' := [(3, .ref h), (0, .ref xo), (1, .int (nI j)), (2, .int wv)]) hx hb d_F_count_5 rfl hl (by decide) rfl (fun ls hl => ?_)
  refine lv_iload_n hx hb d_F_count_6 rfl (lv_at hl 3 rfl) ?_
  refine lv_tableOut (tgt := 74) hx hb d_F_count_7 (hw) (by decide) ?_
  exact mx_throw (rest := []) G hx hb hW hown (th_A G) (str_at G 570 rfl hW) (hon.go had hS) (hl.1.trans hml.symm) het hlk d_F_count_74 d_F_count_77 d_F_count_78 d_F_count_80 d_F_count_83 (Nat.le_of_ble_eq_true rfl) (Nat.le_of_ble_eq_true rfl) (Nat.le_of_ble_eq_true rfl) (Nat.le_of_ble_eq_true rfl) (Nat.le_of_ble_eq_true rfl) (Nat.le_of_ble_eq_true rfl) (fun _ h => nomatch h) (fun H1 q hz hk ho => ⟨⟨q, rfl, ho⟩, va_P.ext hP hk⟩)

set_option maxHeartbeats 4000000 in
set_option maxRecDepth 100000 in
theorem c_F_cell_C {l : Launch} {s0 : State} {D : va_G} {cI cF cJ : ClassId} (G : Gx l s0 D cI cF cJ) (xo fa ma : Nat) (fi mk : Nat → Option Nat) (h h1 h2 h3 A B : Nat) (hd pv : Int32) (cs pl pb : Nat → Nat) (n0 : Nat) (f0 : Nat → Nat) (j : Nat) (z : Nat) {H0 : Heap} {A0 : Nat → Prop} (hP : va_P D vcl [(xo, .inr (3, [.ref fa, .ref ma])), (fa, aQ cF 4 fi), (ma, aQ cF 12 mk), (h, .inr (0, [.int (nI A), .int (nI B), .int hd, .ref h1, .ref h2, .ref h3])), (h1, aN cI 1024 cs), (h2, aN cI 6 pl), (h3, aN cI 6 pb)] H0) (hD : va_D A0 [(xo, .inr (3, [.ref fa, .ref ma])), (fa, aQ cF 4 fi), (ma, aQ cF 12 mk), (h, .inr (0, [.int (nI A), .int (nI B), .int hd, .ref h1, .ref h2, .ref h3])), (h1, aN cI 1024 cs), (h2, aN cI 6 pl), (h3, aN cI 6 pb)]) (hok : okS (1, A, B, hd, pv, cs, n0, f0)) (hj : j < 4) (hfi : fi j = some h) (hon : onS s0 H0) (had : ∀ q ∈ [xo, fa, ma, h, h1, h2, h3], s0.heap.size ≤ q) (hz : z < (2 ^ A)) : Mx l s0 y_F_cell (.code y_F_cell b_F_cell 4 (some .int)) { frames := 7, cells := 0, slots := 0, locals := 160 } [.ref xo, .int (nI j), .int (nI z)] H0 (Aa [xo, fa, ma, h, h1, h2, h3] H0.size) (Rq s0 none (some (.int (lokS (1, A, B, hd, pv, cs, n0, f0) z))) (fun H1 => va_P D vcl [(xo, .inr (3, [.ref fa, .ref ma])), (fa, aQ cF 4 fi), (ma, aQ cF 12 mk), (h, .inr (0, [.int (nI A), .int (nI B), .int hd, .ref h1, .ref h2, .ref h3])), (h1, aN cI 1024 cs), (h2, aN cI 6 pl), (h3, aN cI 6 pb)] H1)) := by
  refine Mx.ofW (own := "FewBits") rfl rfl ?_
  rintro p e s m below meth c ⟨hx, hb, hml, hr, hown, hW, hlk⟩ hnm het hH
  have hK := G.k hW
  have hD := hD.aa (sz := H0.size)
  have hD : va_D (Aa [xo, fa, ma, h, h1, h2, h3] H0.size) [(xo, .inr (3, [.ref fa, .ref ma])), (fa, aQ cF 4 fi), (ma, aQ cF 12 mk), (h, .inr (0, [.int (nI A), .int (nI B), .int hd, .ref h1, .ref h2, .ref h3])), (h1, aN cI 1024 cs), (h2, aN cI 6 pl), (h3, aN cI 6 pb)] := hD
  have hS : va_S (Aa [xo, fa, ma, h, h1, h2, h3] H0.size) H0 H0 [] := va_S.rf
  have hq := okS_1.mp hok
  have hA : A ≤ 10 := hq.2.1
  have hB : B ≤ 6 := hq.2.2.2.1
  have hc1 := hq.2.2.2.2.1
  have h8 := p2_le hA
  have hl := lv_entry ([.ref xo, .int (nI j), .int (nI z)]) (n := 4) (Nat.le_of_ble_eq_true rfl)
  rw [lg_entry_eq]
  generalize (lg_sl ([.ref xo, .int (nI j), .int (nI z)]) ++ List.replicate (4 - (lg_sl ([.ref xo, .int (nI j), .int (nI z)])).length) Slot.unset).toArray = ls at hl ⊢
  have hl : lv_has ls 4 [(0, .ref xo), (1, .int (nI j)), (2, .int (nI z))] := hl
  refine lv_iload_n hx hb d_F_cell_0 rfl (lv_at hl 1 rfl) ?_
  refine mx_callR (r := .int (bI (isNum (nI j)))) (c_F_isNumber G (nI j)) hW (iv_F_cell_1 G hx hb hown hW [.int (nI j)] [] rfl) hml hl.1 (by rw [hb]; exact d_F_cell_1) (cd_F_isNumber G hW) ⟨Nat.le_of_ble_eq_true rfl, Nat.le_of_ble_eq_true rfl⟩ rfl rfl (Nat.le_of_ble_eq_true rfl) (Nat.le_of_ble_eq_true rfl) (Nat.le_of_ble_eq_true rfl) ?_
  refine lv_if_eq (tgt := 16) hx hb d_F_cell_4 (by decide) (fun c_4 => absurd c_4 (by rw [isNum_nI hj]; decide)) (fun c_4 => ?_)
  refine lv_aload_n hx hb d_F_cell_7 rfl (lv_at hl 0 rfl) ?_
  refine va_get (D := D) (ci := 3) (v := .ref fa) (C := R_F) (T := T_F) (N := 2) hx hb (us_F G hW) (fun _ h => h) hown hK hP 0 rfl rfl 0 (by decide) (fl_F_11 G hW) (fun _ h9 => h9) rfl d_F_cell_8 ?_
  refine lv_iload_n hx hb d_F_cell_11 rfl (lv_at hl 1 rfl) ?_
  refine qa_ld hx hb hK hP 1 (j := j) rfl (hj) (by decide) d_F_cell_12 ?_
  refine tp_v (y := .ref h) (by rw [hfi]; rfl) ?_
  refine lv_ifnonnull (tgt := 26) hx hb d_F_cell_13 (by decide) ?_
  refine lv_aload_n hx hb d_F_cell_26 rfl (lv_at hl 0 rfl) ?_
  refine va_get (D := D) (ci := 3) (v := .ref fa) (C := R_F) (T := T_F) (N := 2) hx hb (us_F G hW) (fun _ h => h) hown hK hP 0 rfl rfl 0 (by decide) (fl_F_11 G hW) (fun _ h9 => h9) rfl d_F_cell_27 ?_
  refine lv_iload_n hx hb d_F_cell_30 rfl (lv_at hl 1 rfl) ?_
  refine qa_ld hx hb hK hP 1 (j := j) rfl (hj) (by decide) d_F_cell_31 ?_
  refine tp_v (y := .ref h) (by rw [hfi]; rfl) ?_
  refine lv_astore_n (lv' := [(3, .ref h), (0, .ref xo), (1, .int (nI j)), (2, .int (nI z))]) hx hb d_F_cell_32 rfl hl (by decide) rfl (fun ls hl => ?_)
  refine lv_iload_n hx hb d_F_cell_33 rfl (lv_at hl 3 rfl) ?_
  refine lv_if_lt (tgt := 45) hx hb d_F_cell_34 (by decide) (fun c_34 => absurd c_34 (nI_pos (by omega))) (fun c_34 => ?_)
  refine lv_iload_n hx hb d_F_cell_37 rfl (lv_at hl 3 rfl) ?_
  refine lv_aload_n hx hb d_F_cell_38 rfl (lv_at hl 0 rfl) ?_
  refine mx_callR (r := .int (nI (2 ^ A))) (c_P_cells_C G h h1 h2 h3 A B hd cs pl pb (hP.sub [3, 4, 5, 6] rfl) hA) hW (iv_F_cell_39_C G hx hb hown hW (va_recv hK hP (ci := 0) (q0 := 3) rfl rfl) [] [.int (nI z)] rfl) hml hl.1 (by rw [hb]; exact d_F_cell_39) (cd_P_cells G hW) ⟨Nat.le_of_ble_eq_true rfl, Nat.le_of_ble_eq_true rfl⟩ rfl rfl (Nat.le_of_ble_eq_true rfl) (Nat.le_of_ble_eq_true rfl) (Nat.le_of_ble_eq_true rfl) ?_
  refine lv_icmp_lt (tgt := 55) hx hb d_F_cell_42 (by decide) (fun c_42 => ?_) (fun c_42 => absurd (nI_lt hz (by omega)) c_42)
  refine lv_aload_n hx hb d_F_cell_55 rfl (lv_at hl 0 rfl) ?_
  refine lv_iload_n hx hb d_F_cell_56 rfl (lv_at hl 3 rfl) ?_
  refine mx_callR (r := .int (nI (cs z))) (c_C_look G h h1 h2 h3 A B hd cs pl pb z (hP.sub [3, 4, 5, 6] rfl) (by omega)) hW (iv_F_cell_57_C G hx hb hown hW (va_recv hK hP (ci := 0) (q0 := 3) rfl rfl) [.int (nI z)] [] rfl) hml hl.1 (by rw [hb]; exact d_F_cell_57) (cd_C_look G hW) ⟨Nat.le_of_ble_eq_true rfl, Nat.le_of_ble_eq_true rfl⟩ rfl rfl (Nat.le_of_ble_eq_true rfl) (Nat.le_of_ble_eq_true rfl) (Nat.le_of_ble_eq_true rfl) ?_
  exact mx_iret hx hb hr hlk d_F_cell_60 (Nat.le_of_ble_eq_true rfl) (Nat.le_of_ble_eq_true rfl) (fun _ h => nomatch h) (⟨rfl, hP⟩)

set_option maxHeartbeats 4000000 in
set_option maxRecDepth 100000 in
theorem c_F_cell_C_out {l : Launch} {s0 : State} {D : va_G} {cI cF cJ : ClassId} (G : Gx l s0 D cI cF cJ) (xo fa ma : Nat) (fi mk : Nat → Option Nat) (h h1 h2 h3 A B : Nat) (hd pv : Int32) (cs pl pb : Nat → Nat) (n0 : Nat) (f0 : Nat → Nat) (j : Nat) (iv : Int32) {H0 : Heap} {A0 : Nat → Prop} (hP : va_P D vcl [(xo, .inr (3, [.ref fa, .ref ma])), (fa, aQ cF 4 fi), (ma, aQ cF 12 mk), (h, .inr (0, [.int (nI A), .int (nI B), .int hd, .ref h1, .ref h2, .ref h3])), (h1, aN cI 1024 cs), (h2, aN cI 6 pl), (h3, aN cI 6 pb)] H0) (hD : va_D A0 [(xo, .inr (3, [.ref fa, .ref ma])), (fa, aQ cF 4 fi), (ma, aQ cF 12 mk), (h, .inr (0, [.int (nI A), .int (nI B), .int hd, .ref h1, .ref h2, .ref h3])), (h1, aN cI 1024 cs), (h2, aN cI 6 pl), (h3, aN cI 6 pb)]) (hok : okS (1, A, B, hd, pv, cs, n0, f0)) (hj : j < 4) (hfi : fi j = some h) (hon : onS s0 H0) (had : ∀ q ∈ [xo, fa, ma, h, h1, h2, h3], s0.heap.size ≤ q) (hbad : iv < 0 ∨ nI (2 ^ A) ≤ iv) : Mx l s0 y_F_cell (.code y_F_cell b_F_cell 4 (some .int)) { frames := 7, cells := 1, slots := 6, locals := 160 } [.ref xo, .int (nI j), .int iv] H0 (Aa [xo, fa, ma, h, h1, h2, h3] H0.size) (Rq s0 (some E_I) none (fun H1 => va_P D vcl [(xo, .inr (3, [.ref fa, .ref ma])), (fa, aQ cF 4 fi), (ma, aQ cF 12 mk), (h, .inr (0, [.int (nI A), .int (nI B), .int hd, .ref h1, .ref h2, .ref h3])), (h1, aN cI 1024 cs), (h2, aN cI 6 pl), (h3, aN cI 6 pb)] H1)) := by
  refine Mx.ofW (own := "FewBits") rfl rfl ?_
  rintro p e s m below meth c ⟨hx, hb, hml, hr, hown, hW, hlk⟩ hnm het hH
  have hK := G.k hW
  have hD := hD.aa (sz := H0.size)
  have hD : va_D (Aa [xo, fa, ma, h, h1, h2, h3] H0.size) [(xo, .inr (3, [.ref fa, .ref ma])), (fa, aQ cF 4 fi), (ma, aQ cF 12 mk), (h, .inr (0, [.int (nI A), .int (nI B), .int hd, .ref h1, .ref h2, .ref h3])), (h1, aN cI 1024 cs), (h2, aN cI 6 pl), (h3, aN cI 6 pb)] := hD
  have hS : va_S (Aa [xo, fa, ma, h, h1, h2, h3] H0.size) H0 H0 [] := va_S.rf
  have hq := okS_1.mp hok
  have hA : A ≤ 10 := hq.2.1
  have hB : B ≤ 6 := hq.2.2.2.1
  have hc1 := hq.2.2.2.2.1
  have hl := lv_entry ([.ref xo, .int (nI j), .int iv]) (n := 4) (Nat.le_of_ble_eq_true rfl)
  rw [lg_entry_eq]
  generalize (lg_sl ([.ref xo, .int (nI j), .int iv]) ++ List.replicate (4 - (lg_sl ([.ref xo, .int (nI j), .int iv])).length) Slot.unset).toArray = ls at hl ⊢
  have hl : lv_has ls 4 [(0, .ref xo), (1, .int (nI j)), (2, .int iv)] := hl
  refine lv_iload_n hx hb d_F_cell_0 rfl (lv_at hl 1 rfl) ?_
  refine mx_callR (r := .int (bI (isNum (nI j)))) (c_F_isNumber G (nI j)) hW (iv_F_cell_1 G hx hb hown hW [.int (nI j)] [] rfl) hml hl.1 (by rw [hb]; exact d_F_cell_1) (cd_F_isNumber G hW) ⟨Nat.le_of_ble_eq_true rfl, Nat.le_of_ble_eq_true rfl⟩ rfl rfl (Nat.le_of_ble_eq_true rfl) (Nat.le_of_ble_eq_true rfl) (Nat.le_of_ble_eq_true rfl) ?_
  refine lv_if_eq (tgt := 16) hx hb d_F_cell_4 (by decide) (fun c_4 => absurd c_4 (by rw [isNum_nI hj]; decide)) (fun c_4 => ?_)
  refine lv_aload_n hx hb d_F_cell_7 rfl (lv_at hl 0 rfl) ?_
  refine va_get (D := D) (ci := 3) (v := .ref fa) (C := R_F) (T := T_F) (N := 2) hx hb (us_F G hW) (fun _ h => h) hown hK hP 0 rfl rfl 0 (by decide) (fl_F_11 G hW) (fun _ h9 => h9) rfl d_F_cell_8 ?_
  refine lv_iload_n hx hb d_F_cell_11 rfl (lv_at hl 1 rfl) ?_
  refine qa_ld hx hb hK hP 1 (j := j) rfl (hj) (by decide) d_F_cell_12 ?_
  refine tp_v (y := .ref h) (by rw [hfi]; rfl) ?_
  refine lv_ifnonnull (tgt := 26) hx hb d_F_cell_13 (by decide) ?_
  refine lv_aload_n hx hb d_F_cell_26 rfl (lv_at hl 0 rfl) ?_
  refine va_get (D := D) (ci := 3) (v := .ref fa) (C := R_F) (T := T_F) (N := 2) hx hb (us_F G hW) (fun _ h => h) hown hK hP 0 rfl rfl 0 (by decide) (fl_F_11 G hW) (fun _ h9 => h9) rfl d_F_cell_27 ?_
  refine lv_iload_n hx hb d_F_cell_30 rfl (lv_at hl 1 rfl) ?_
  refine qa_ld hx hb hK hP 1 (j := j) rfl (hj) (by decide) d_F_cell_31 ?_
  refine tp_v (y := .ref h) (by rw [hfi]; rfl) ?_
  refine lv_astore_n (lv' := [(3, .ref h), (0, .ref xo), (1, .int (nI j)), (2, .int iv)]) hx hb d_F_cell_32 rfl hl (by decide) rfl (fun ls hl => ?_)
  refine lv_iload_n hx hb d_F_cell_33 rfl (lv_at hl 3 rfl) ?_
  refine lv_if_lt (tgt := 45) hx hb d_F_cell_34 (by decide) (fun c_34 => ?_) (fun c_34 => ?_)
  · exact mx_throw (rest := []) G hx hb hW hown (th_I G) (str_at G 590 rfl hW) (hon.go had hS) (hl.1.trans hml.symm) het hlk d_F_cell_45 d_F_cell_48 d_F_cell_49 d_F_cell_51 d_F_cell_54 (Nat.le_of_ble_eq_true rfl) (Nat.le_of_ble_eq_true rfl) (Nat.le_of_ble_eq_true rfl) (Nat.le_of_ble_eq_true rfl) (Nat.le_of_ble_eq_true rfl) (Nat.le_of_ble_eq_true rfl) (fun _ h => nomatch h) (fun H1 q hz hk ho => ⟨⟨q, rfl, ho⟩, va_P.ext hP hk⟩)
  · refine lv_iload_n hx hb d_F_cell_37 rfl (lv_at hl 3 rfl) ?_
    refine lv_aload_n hx hb d_F_cell_38 rfl (lv_at hl 0 rfl) ?_
    refine mx_callR (r := .int (nI (2 ^ A))) (c_P_cells_C G h h1 h2 h3 A B hd cs pl pb (hP.sub [3, 4, 5, 6] rfl) hA) hW (iv_F_cell_39_C G hx hb hown hW (va_recv hK hP (ci := 0) (q0 := 3) rfl rfl) [] [.int iv] rfl) hml hl.1 (by rw [hb]; exact d_F_cell_39) (cd_P_cells G hW) ⟨Nat.le_of_ble_eq_true rfl, Nat.le_of_ble_eq_true rfl⟩ rfl rfl (Nat.le_of_ble_eq_true rfl) (Nat.le_of_ble_eq_true rfl) (Nat.le_of_ble_eq_true rfl) ?_
    refine lv_icmp_lt (tgt := 55) hx hb d_F_cell_42 (by decide) (fun c_42 => absurd c_42 (Int32.not_lt.mpr (hbad.resolve_left c_34))) (fun c_42 => ?_)
    exact mx_throw (rest := []) G hx hb hW hown (th_I G) (str_at G 590 rfl hW) (hon.go had hS) (hl.1.trans hml.symm) het hlk d_F_cell_45 d_F_cell_48 d_F_cell_49 d_F_cell_51 d_F_cell_54 (Nat.le_of_ble_eq_true rfl) (Nat.le_of_ble_eq_true rfl) (Nat.le_of_ble_eq_true rfl) (Nat.le_of_ble_eq_true rfl) (Nat.le_of_ble_eq_true rfl) (Nat.le_of_ble_eq_true rfl) (fun _ h => nomatch h) (fun H1 q hz hk ho => ⟨⟨q, rfl, ho⟩, va_P.ext hP hk⟩)

set_option maxHeartbeats 4000000 in
set_option maxRecDepth 100000 in
theorem c_F_clear_C {l : Launch} {s0 : State} {D : va_G} {cI cF cJ : ClassId} (G : Gx l s0 D cI cF cJ) (xo fa ma : Nat) (fi mk : Nat → Option Nat) (h h1 h2 h3 A B : Nat) (hd pv : Int32) (cs pl pb : Nat → Nat) (n0 : Nat) (f0 : Nat → Nat) (j : Nat) {H0 : Heap} {A0 : Nat → Prop} (hP : va_P D vcl [(xo, .inr (3, [.ref fa, .ref ma])), (fa, aQ cF 4 fi), (ma, aQ cF 12 mk), (h, .inr (0, [.int (nI A), .int (nI B), .int hd, .ref h1, .ref h2, .ref h3])), (h1, aN cI 1024 cs), (h2, aN cI 6 pl), (h3, aN cI 6 pb)] H0) (hD : va_D A0 [(xo, .inr (3, [.ref fa, .ref ma])), (fa, aQ cF 4 fi), (ma, aQ cF 12 mk), (h, .inr (0, [.int (nI A), .int (nI B), .int hd, .ref h1, .ref h2, .ref h3])), (h1, aN cI 1024 cs), (h2, aN cI 6 pl), (h3, aN cI 6 pb)]) (hok : okS (1, A, B, hd, pv, cs, n0, f0)) (hj : j < 4) (hfi : fi j = some h) (hon : onS s0 H0) (had : ∀ q ∈ [xo, fa, ma, h, h1, h2, h3], s0.heap.size ≤ q)  : Mx l s0 y_F_clear (.code y_F_clear b_F_clear 4 (some .int)) { frames := 7, cells := 0, slots := 0, locals := 160 } [.ref xo, .int (nI j)] H0 (Aa [xo, fa, ma, h, h1, h2, h3] H0.size) (Rq s0 none (some (.int hd)) (fun H1 => va_P D vcl [(xo, .inr (3, [.ref fa, .ref ma])), (fa, aQ cF 4 fi), (ma, aQ cF 12 mk), (h, .inr (0, [.int (nI A), .int (nI B), .int (nI 0), .ref h1, .ref h2, .ref h3])), (h1, aN cI 1024 (fun _ => 0)), (h2, aN cI 6 pl), (h3, aN cI 6 pb)] H1)) := by
  refine Mx.ofW (own := "FewBits") rfl rfl ?_
  rintro p e s m below meth c ⟨hx, hb, hml, hr, hown, hW, hlk⟩ hnm het hH
  have hK := G.k hW
  have hD := hD.aa (sz := H0.size)
  have hD : va_D (Aa [xo, fa, ma, h, h1, h2, h3] H0.size) [(xo, .inr (3, [.ref fa, .ref ma])), (fa, aQ cF 4 fi), (ma, aQ cF 12 mk), (h, .inr (0, [.int (nI A), .int (nI B), .int hd, .ref h1, .ref h2, .ref h3])), (h1, aN cI 1024 cs), (h2, aN cI 6 pl), (h3, aN cI 6 pb)] := hD
  have hS : va_S (Aa [xo, fa, ma, h, h1, h2, h3] H0.size) H0 H0 [] := va_S.rf
  have hl := lv_entry ([.ref xo, .int (nI j)]) (n := 4) (Nat.le_of_ble_eq_true rfl)
  rw [lg_entry_eq]
  generalize (lg_sl ([.ref xo, .int (nI j)]) ++ List.replicate (4 - (lg_sl ([.ref xo, .int (nI j)])).length) Slot.unset).toArray = ls at hl ⊢
  have hl : lv_has ls 4 [(0, .ref xo), (1, .int (nI j))] := hl
  refine lv_aload_n hx hb d_F_clear_0 rfl (lv_at hl 0 rfl) ?_
  refine lv_iload_n hx hb d_F_clear_1 rfl (lv_at hl 1 rfl) ?_
  refine mx_callR (r := .ref h) (c_F_filterAt G xo fa ma fi mk j h (hP.sub [0, 1, 2] rfl) hj hfi) hW (iv_F_clear_2 G hx hb hown hW (va_recv hK hP (ci := 3) (q0 := 0) rfl rfl) [.int (nI j)] [] rfl) hml hl.1 (by rw [hb]; exact d_F_clear_2) (cd_F_filterAt G hW) ⟨Nat.le_of_ble_eq_true rfl, Nat.le_of_ble_eq_true rfl⟩ rfl rfl (Nat.le_of_ble_eq_true rfl) (Nat.le_of_ble_eq_true rfl) (Nat.le_of_ble_eq_true rfl) ?_
  refine lv_astore_n (lv' := [(2, .ref h), (0, .ref xo), (1, .int (nI j))]) hx hb d_F_clear_5 rfl hl (by decide) rfl (fun ls hl => ?_)
  refine lv_aload_n hx hb d_F_clear_6 rfl (lv_at hl 0 rfl) ?_
  refine va_get (D := D) (ci := 0) (v := .int hd) (C := R_C) (T := T_C) (N := 6) hx hb (us_C G hW) (fun _ h => h) hown hK hP 3 rfl rfl 2 (by decide) (fl_F_58 G hW) (fun _ h9 => h9) rfl d_F_clear_7 ?_
  refine lv_istore_n (lv' := [(3, .int hd), (2, .ref h), (0, .ref xo), (1, .int (nI j))]) hx hb d_F_clear_10 rfl hl (by decide) rfl (fun ls hl => ?_)
  refine lv_aload_n hx hb d_F_clear_11 rfl (lv_at hl 1 rfl) ?_
  refine lv_aload_n hx hb d_F_clear_12 rfl (lv_at hl 1 rfl) ?_
  refine va_get (D := D) (ci := 0) (v := .int (nI A)) (C := R_C) (T := T_C) (N := 6) hx hb (us_C G hW) (fun _ h => h) hown hK hP 3 rfl rfl 0 (by decide) (fl_F_84 G hW) (fun _ h9 => h9) rfl d_F_clear_13 ?_
  refine lv_aload_n hx hb d_F_clear_16 rfl (lv_at hl 1 rfl) ?_
  refine va_get (D := D) (ci := 0) (v := .int (nI B)) (C := R_C) (T := T_C) (N := 6) hx hb (us_C G hW) (fun _ h => h) hown hK hP 3 rfl rfl 1 (by decide) (fl_F_87 G hW) (fun _ h9 => h9) rfl d_F_clear_17 ?_
  refine mx_callN (c_P_begin_C G h h1 h2 h3 (nI A) (nI B) hd A B cs pl pb (hP.sub [3, 4, 5, 6] rfl) (hD.sub [3, 4, 5, 6] rfl rfl)) hW (iv_F_clear_20_C G hx hb hown hW (va_recv hK hP (ci := 0) (q0 := 3) rfl rfl) [.int (nI A), .int (nI B)] [] rfl) hml hl.1 (by rw [hb]; exact d_F_clear_20) (cd_P_begin G hW) ⟨Nat.le_of_ble_eq_true rfl, Nat.le_of_ble_eq_true rfl⟩ (Nat.le_of_ble_eq_true rfl) (Nat.le_of_ble_eq_true rfl) (Nat.le_of_ble_eq_true rfl) hS (Aa.mono (fun _ h => List.mem_append_right [xo, fa, ma] h) hS.1) (fun H locs hP2 _ hkp hS => ?_)
  have hP := va_P.join (ws1 := [(xo, .inr (3, [.ref fa, .ref ma])), (fa, aQ cF 4 fi), (ma, aQ cF 12 mk)]) (ws2 := [(h, .inr (0, [.int (nI A), .int (nI B), .int hd, .ref h1, .ref h2, .ref h3])), (h1, aN cI 1024 cs), (h2, aN cI 6 pl), (h3, aN cI 6 pb)]) hP hD hP2 hkp rfl
  have hP : va_P D vcl [(xo, .inr (3, [.ref fa, .ref ma])), (fa, aQ cF 4 fi), (ma, aQ cF 12 mk), (h, .inr (0, [.int (nI A), .int (nI B), .int (nI 0), .ref h1, .ref h2, .ref h3])), (h1, aN cI 1024 (fun _ => 0)), (h2, aN cI 6 pl), (h3, aN cI 6 pb)] H := hP
  have hD : va_D (Aa [xo, fa, ma, h, h1, h2, h3] H0.size) [(xo, .inr (3, [.ref fa, .ref ma])), (fa, aQ cF 4 fi), (ma, aQ cF 12 mk), (h, .inr (0, [.int (nI A), .int (nI B), .int (nI 0), .ref h1, .ref h2, .ref h3])), (h1, aN cI 1024 (fun _ => 0)), (h2, aN cI 6 pl), (h3, aN cI 6 pb)] := va_D.same2 [xo, fa, ma, h, h1, h2, h3] hD rfl rfl
  refine lv_iload_n hx hb d_F_clear_23 rfl (lv_at hl 0 rfl) ?_
  exact mx_iret hx hb hr hlk d_F_clear_24 (Nat.le_of_ble_eq_true rfl) (Nat.le_of_ble_eq_true rfl) hS.2.2 (⟨rfl, hP⟩)

set_option maxHeartbeats 4000000 in
set_option maxRecDepth 100000 in
theorem c_F_grow_C {l : Launch} {s0 : State} {D : va_G} {cI cF cJ : ClassId} (G : Gx l s0 D cI cF cJ) (xo fa ma : Nat) (fi mk : Nat → Option Nat) (h h1 h2 h3 A B : Nat) (hd pv : Int32) (cs pl pb : Nat → Nat) (n0 : Nat) (f0 : Nat → Nat) (j : Nat) {H0 : Heap} {A0 : Nat → Prop} (hP : va_P D vcl [(xo, .inr (3, [.ref fa, .ref ma])), (fa, aQ cF 4 fi), (ma, aQ cF 12 mk), (h, .inr (0, [.int (nI A), .int (nI B), .int hd, .ref h1, .ref h2, .ref h3])), (h1, aN cI 1024 cs), (h2, aN cI 6 pl), (h3, aN cI 6 pb)] H0) (hD : va_D A0 [(xo, .inr (3, [.ref fa, .ref ma])), (fa, aQ cF 4 fi), (ma, aQ cF 12 mk), (h, .inr (0, [.int (nI A), .int (nI B), .int hd, .ref h1, .ref h2, .ref h3])), (h1, aN cI 1024 cs), (h2, aN cI 6 pl), (h3, aN cI 6 pb)]) (hok : okS (1, A, B, hd, pv, cs, n0, f0)) (hj : j < 4) (hfi : fi j = some h) (hon : onS s0 H0) (had : ∀ q ∈ [xo, fa, ma, h, h1, h2, h3], s0.heap.size ≤ q)  : Mx l s0 y_F_grow (.code y_F_grow b_F_grow 3 none) { frames := 7, cells := 1, slots := 6, locals := 160 } [.ref xo, .int (nI j)] H0 (Aa [xo, fa, ma, h, h1, h2, h3] H0.size) (Rq s0 (some E_A) none (fun H1 => va_P D vcl [(xo, .inr (3, [.ref fa, .ref ma])), (fa, aQ cF 4 fi), (ma, aQ cF 12 mk), (h, .inr (0, [.int (nI A), .int (nI B), .int hd, .ref h1, .ref h2, .ref h3])), (h1, aN cI 1024 cs), (h2, aN cI 6 pl), (h3, aN cI 6 pb)] H1)) := by
  refine Mx.ofW (own := "FewBits") rfl rfl ?_
  rintro p e s m below meth c ⟨hx, hb, hml, hr, hown, hW, hlk⟩ hnm het hH
  have hK := G.k hW
  have hD := hD.aa (sz := H0.size)
  have hD : va_D (Aa [xo, fa, ma, h, h1, h2, h3] H0.size) [(xo, .inr (3, [.ref fa, .ref ma])), (fa, aQ cF 4 fi), (ma, aQ cF 12 mk), (h, .inr (0, [.int (nI A), .int (nI B), .int hd, .ref h1, .ref h2, .ref h3])), (h1, aN cI 1024 cs), (h2, aN cI 6 pl), (h3, aN cI 6 pb)] := hD
  have hS : va_S (Aa [xo, fa, ma, h, h1, h2, h3] H0.size) H0 H0 [] := va_S.rf
  have hl := lv_entry ([.ref xo, .int (nI j)]) (n := 3) (Nat.le_of_ble_eq_true rfl)
  rw [lg_entry_eq]
  generalize (lg_sl ([.ref xo, .int (nI j)]) ++ List.replicate (3 - (lg_sl ([.ref xo, .int (nI j)])).length) Slot.unset).toArray = ls at hl ⊢
  have hl : lv_has ls 3 [(0, .ref xo), (1, .int (nI j))] := hl
  refine lv_aload_n hx hb d_F_grow_0 rfl (lv_at hl 0 rfl) ?_
  refine lv_iload_n hx hb d_F_grow_1 rfl (lv_at hl 1 rfl) ?_
  refine mx_callR (r := .ref h) (c_F_filterAt G xo fa ma fi mk j h (hP.sub [0, 1, 2] rfl) hj hfi) hW (iv_F_grow_2 G hx hb hown hW (va_recv hK hP (ci := 3) (q0 := 0) rfl rfl) [.int (nI j)] [] rfl) hml hl.1 (by rw [hb]; exact d_F_grow_2) (cd_F_filterAt G hW) ⟨Nat.le_of_ble_eq_true rfl, Nat.le_of_ble_eq_true rfl⟩ rfl rfl (Nat.le_of_ble_eq_true rfl) (Nat.le_of_ble_eq_true rfl) (Nat.le_of_ble_eq_true rfl) ?_
  exact mx_callT (c_F_asRuns_C G h h1 h2 h3 A B hd cs pl pb (hP.sub [3, 4, 5, 6] rfl) hon) hW (iv_F_grow_5 G hx hb hown hW [.ref h] [] rfl) hml hl.1 (by rw [hb]; exact d_F_grow_5) (cd_F_asRuns G hW) ⟨Nat.le_of_ble_eq_true rfl, Nat.le_of_ble_eq_true rfl⟩ (Nat.le_of_ble_eq_true rfl) (Nat.le_of_ble_eq_true rfl) (Nat.le_of_ble_eq_true rfl) het hlk (Nat.le_of_ble_eq_true rfl) (Nat.le_of_ble_eq_true rfl) (fun _ h => nomatch h) (fun _ h => h.elim) (fun H1 q hz hk hp ho => ⟨⟨q, rfl, ho⟩, hP.ext (fun z hz => hk z hz (fun h9 => h9))⟩)

set_option maxHeartbeats 4000000 in
set_option maxRecDepth 100000 in
theorem c_F_count_B_0 {l : Launch} {s0 : State} {D : va_G} {cI cF cJ : ClassId} (G : Gx l s0 D cI cF cJ) (xo fa ma : Nat) (fi mk : Nat → Option Nat) (h h1 h2 A B : Nat) (hd pu : Int32) (sl pt : Nat → Nat) (n0 : Nat) (f0 : Nat → Nat) (j : Nat) {H0 : Heap} {A0 : Nat → Prop} (hP : va_P D vcl [(xo, .inr (3, [.ref fa, .ref ma])), (fa, aQ cF 4 fi), (ma, aQ cF 12 mk), (h, .inr (1, [.int (nI A), .int (nI B), .int hd, .ref h1, .ref h2, .int pu])), (h1, aN cI 1024 sl), (h2, aN cI 64 pt)] H0) (hD : va_D A0 [(xo, .inr (3, [.ref fa, .ref ma])), (fa, aQ cF 4 fi), (ma, aQ cF 12 mk), (h, .inr (1, [.int (nI A), .int (nI B), .int hd, .ref h1, .ref h2, .int pu])), (h1, aN cI 1024 sl), (h2, aN cI 64 pt)]) (hok : okS (2, A, B, hd, pu, sl, n0, f0)) (hj : j < 4) (hfi : fi j = some h) (hon : onS s0 H0) (had : ∀ q ∈ [xo, fa, ma, h, h1, h2], s0.heap.size ≤ q)  : Mx l s0 y_F_count (.code y_F_count b_F_count 4 (some .int)) { frames := 7, cells := 0, slots := 0, locals := 160 } [.ref xo, .int (nI j), .int (nI 0)] H0 (Aa [xo, fa, ma, h, h1, h2] H0.size) (Rq s0 none (some (.int (cntS (2, A, B, hd, pu, sl, n0, f0) 0))) (fun H1 => va_P D vcl [(xo, .inr (3, [.ref fa, .ref ma])), (fa, aQ cF 4 fi), (ma, aQ cF 12 mk), (h, .inr (1, [.int (nI A), .int (nI B), .int hd, .ref h1, .ref h2, .int pu])), (h1, aN cI 1024 sl), (h2, aN cI 64 pt)] H1)) := by
  refine Mx.ofW (own := "FewBits") rfl rfl ?_
  rintro p e s m below meth c ⟨hx, hb, hml, hr, hown, hW, hlk⟩ hnm het hH
  have hK := G.k hW
  have hD := hD.aa (sz := H0.size)
  have hD : va_D (Aa [xo, fa, ma, h, h1, h2] H0.size) [(xo, .inr (3, [.ref fa, .ref ma])), (fa, aQ cF 4 fi), (ma, aQ cF 12 mk), (h, .inr (1, [.int (nI A), .int (nI B), .int hd, .ref h1, .ref h2, .int pu])), (h1, aN cI 1024 sl), (h2, aN cI 64 pt)] := hD
  have hS : va_S (Aa [xo, fa, ma, h, h1, h2] H0.size) H0 H0 [] := va_S.rf
  have hq := okS_2.mp hok
  have hA : A ≤ 8 := hq.2.1
  have hB4 : 4 ≤ B := hq.2.2.1
  have hB : B ≤ 16 := hq.2.2.2.1
  have hs := hq.2.2.2.2.1.1
  have hl := lv_entry ([.ref xo, .int (nI j), .int (nI 0)]) (n := 4) (Nat.le_of_ble_eq_true rfl)
  rw [lg_entry_eq]
  generalize (lg_sl ([.ref xo, .int (nI j), .int (nI 0)]) ++ List.replicate (4 - (lg_sl ([.ref xo, .int (nI j), .int (nI 0)])).length) Slot.unset).toArray = ls at hl ⊢
  have hl : lv_has ls 4 [(0, .ref xo), (1, .int (nI j)), (2, .int (nI 0))] := hl
  refine lv_aload_n hx hb d_F_count_0 rfl (lv_at hl 0 rfl) ?_
  refine lv_iload_n hx hb d_F_count_1 rfl (lv_at hl 1 rfl) ?_
  refine mx_callR (r := .ref h) (c_F_filterAt G xo fa ma fi mk j h (hP.sub [0, 1, 2] rfl) hj hfi) hW (iv_F_count_2 G hx hb hown hW (va_recv hK hP (ci := 3) (q0 := 0) rfl rfl) [.int (nI j)] [] rfl) hml hl.1 (by rw [hb]; exact d_F_count_2) (cd_F_filterAt G hW) ⟨Nat.le_of_ble_eq_true rfl, Nat.le_of_ble_eq_true rfl⟩ rfl rfl (Nat.le_of_ble_eq_true rfl) (Nat.le_of_ble_eq_true rfl) (Nat.le_of_ble_eq_true rfl) ?_
  refine lv_astore_n (lv' := [(3, .ref h), (0, .ref xo), (1, .int (nI j)), (2, .int (nI 0))]) hx hb d_F_count_5 rfl hl (by decide) rfl (fun ls hl => ?_)
  refine lv_iload_n hx hb d_F_count_6 rfl (lv_at hl 3 rfl) ?_
  refine lv_tableIn (tgt := 44) hx hb d_F_count_7 (by decide) (by decide) rfl (by decide) ?_
  refine lv_aload_n hx hb d_F_count_44 rfl (lv_at hl 0 rfl) ?_
  refine mx_callR (r := .int (nI 2)) (c_B_kind G h h1 h2 A B hd pu sl pt) hW (iv_F_count_45_B G hx hb hown hW (va_recv hK hP (ci := 1) (q0 := 3) rfl rfl) [] [] rfl) hml hl.1 (by rw [hb]; exact d_F_count_45) (cd_B_kind G hW) ⟨Nat.le_of_ble_eq_true rfl, Nat.le_of_ble_eq_true rfl⟩ rfl rfl (Nat.le_of_ble_eq_true rfl) (Nat.le_of_ble_eq_true rfl) (Nat.le_of_ble_eq_true rfl) ?_
  exact mx_iret hx hb hr hlk d_F_count_48 (Nat.le_of_ble_eq_true rfl) (Nat.le_of_ble_eq_true rfl) (fun _ h => nomatch h) (⟨rfl, hP⟩)

set_option maxHeartbeats 4000000 in
set_option maxRecDepth 100000 in
theorem c_F_count_B_1 {l : Launch} {s0 : State} {D : va_G} {cI cF cJ : ClassId} (G : Gx l s0 D cI cF cJ) (xo fa ma : Nat) (fi mk : Nat → Option Nat) (h h1 h2 A B : Nat) (hd pu : Int32) (sl pt : Nat → Nat) (n0 : Nat) (f0 : Nat → Nat) (j : Nat) {H0 : Heap} {A0 : Nat → Prop} (hP : va_P D vcl [(xo, .inr (3, [.ref fa, .ref ma])), (fa, aQ cF 4 fi), (ma, aQ cF 12 mk), (h, .inr (1, [.int (nI A), .int (nI B), .int hd, .ref h1, .ref h2, .int pu])), (h1, aN cI 1024 sl), (h2, aN cI 64 pt)] H0) (hD : va_D A0 [(xo, .inr (3, [.ref fa, .ref ma])), (fa, aQ cF 4 fi), (ma, aQ cF 12 mk), (h, .inr (1, [.int (nI A), .int (nI B), .int hd, .ref h1, .ref h2, .int pu])), (h1, aN cI 1024 sl), (h2, aN cI 64 pt)]) (hok : okS (2, A, B, hd, pu, sl, n0, f0)) (hj : j < 4) (hfi : fi j = some h) (hon : onS s0 H0) (had : ∀ q ∈ [xo, fa, ma, h, h1, h2], s0.heap.size ≤ q)  : Mx l s0 y_F_count (.code y_F_count b_F_count 4 (some .int)) { frames := 7, cells := 0, slots := 0, locals := 160 } [.ref xo, .int (nI j), .int (nI 1)] H0 (Aa [xo, fa, ma, h, h1, h2] H0.size) (Rq s0 none (some (.int (cntS (2, A, B, hd, pu, sl, n0, f0) 1))) (fun H1 => va_P D vcl [(xo, .inr (3, [.ref fa, .ref ma])), (fa, aQ cF 4 fi), (ma, aQ cF 12 mk), (h, .inr (1, [.int (nI A), .int (nI B), .int hd, .ref h1, .ref h2, .int pu])), (h1, aN cI 1024 sl), (h2, aN cI 64 pt)] H1)) := by
  refine Mx.ofW (own := "FewBits") rfl rfl ?_
  rintro p e s m below meth c ⟨hx, hb, hml, hr, hown, hW, hlk⟩ hnm het hH
  have hK := G.k hW
  have hD := hD.aa (sz := H0.size)
  have hD : va_D (Aa [xo, fa, ma, h, h1, h2] H0.size) [(xo, .inr (3, [.ref fa, .ref ma])), (fa, aQ cF 4 fi), (ma, aQ cF 12 mk), (h, .inr (1, [.int (nI A), .int (nI B), .int hd, .ref h1, .ref h2, .int pu])), (h1, aN cI 1024 sl), (h2, aN cI 64 pt)] := hD
  have hS : va_S (Aa [xo, fa, ma, h, h1, h2] H0.size) H0 H0 [] := va_S.rf
  have hq := okS_2.mp hok
  have hA : A ≤ 8 := hq.2.1
  have hB4 : 4 ≤ B := hq.2.2.1
  have hB : B ≤ 16 := hq.2.2.2.1
  have hs := hq.2.2.2.2.1.1
  have hl := lv_entry ([.ref xo, .int (nI j), .int (nI 1)]) (n := 4) (Nat.le_of_ble_eq_true rfl)
  rw [lg_entry_eq]
  generalize (lg_sl ([.ref xo, .int (nI j), .int (nI 1)]) ++ List.replicate (4 - (lg_sl ([.ref xo, .int (nI j), .int (nI 1)])).length) Slot.unset).toArray = ls at hl ⊢
  have hl : lv_has ls 4 [(0, .ref xo), (1, .int (nI j)), (2, .int (nI 1))] := hl
  refine lv_aload_n hx hb d_F_count_0 rfl (lv_at hl 0 rfl) ?_
  refine lv_iload_n hx hb d_F_count_1 rfl (lv_at hl 1 rfl) ?_
  refine mx_callR (r := .ref h) (c_F_filterAt G xo fa ma fi mk j h (hP.sub [0, 1, 2] rfl) hj hfi) hW (iv_F_count_2 G hx hb hown hW (va_recv hK hP (ci := 3) (q0 := 0) rfl rfl) [.int (nI j)] [] rfl) hml hl.1 (by rw [hb]; exact d_F_count_2) (cd_F_filterAt G hW) ⟨Nat.le_of_ble_eq_true rfl, Nat.le_of_ble_eq_true rfl⟩ rfl rfl (Nat.le_of_ble_eq_true rfl) (Nat.le_of_ble_eq_true rfl) (Nat.le_of_ble_eq_true rfl) ?_
  refine lv_astore_n (lv' := [(3, .ref h), (0, .ref xo), (1, .int (nI j)), (2, .int (nI 1))]) hx hb d_F_count_5 rfl hl (by decide) rfl (fun ls hl => ?_)
  refine lv_iload_n hx hb d_F_count_6 rfl (lv_at hl 3 rfl) ?_
  refine lv_tableIn (tgt := 49) hx hb d_F_count_7 (by decide) (by decide) rfl (by decide) ?_
  refine lv_aload_n hx hb d_F_count_49 rfl (lv_at hl 0 rfl) ?_
  refine va_get (D := D) (ci := 1) (v := .int (nI A)) (C := R_B) (T := T_B) (N := 6) hx hb (us_B G hW) (fun _ h => h) hown hK hP 3 rfl rfl 0 (by decide) (fl_F_84 G hW) (fun _ h9 => h9) rfl d_F_count_50 ?_
  exact mx_iret hx hb hr hlk d_F_count_53 (Nat.le_of_ble_eq_true rfl) (Nat.le_of_ble_eq_true rfl) (fun _ h => nomatch h) (⟨rfl, hP⟩)

set_option maxHeartbeats 4000000 in
set_option maxRecDepth 100000 in
theorem c_F_count_B_2 {l : Launch} {s0 : State} {D : va_G} {cI cF cJ : ClassId} (G : Gx l s0 D cI cF cJ) (xo fa ma : Nat) (fi mk : Nat → Option Nat) (h h1 h2 A B : Nat) (hd pu : Int32) (sl pt : Nat → Nat) (n0 : Nat) (f0 : Nat → Nat) (j : Nat) {H0 : Heap} {A0 : Nat → Prop} (hP : va_P D vcl [(xo, .inr (3, [.ref fa, .ref ma])), (fa, aQ cF 4 fi), (ma, aQ cF 12 mk), (h, .inr (1, [.int (nI A), .int (nI B), .int hd, .ref h1, .ref h2, .int pu])), (h1, aN cI 1024 sl), (h2, aN cI 64 pt)] H0) (hD : va_D A0 [(xo, .inr (3, [.ref fa, .ref ma])), (fa, aQ cF 4 fi), (ma, aQ cF 12 mk), (h, .inr (1, [.int (nI A), .int (nI B), .int hd, .ref h1, .ref h2, .int pu])), (h1, aN cI 1024 sl), (h2, aN cI 64 pt)]) (hok : okS (2, A, B, hd, pu, sl, n0, f0)) (hj : j < 4) (hfi : fi j = some h) (hon : onS s0 H0) (had : ∀ q ∈ [xo, fa, ma, h, h1, h2], s0.heap.size ≤ q)  : Mx l s0 y_F_count (.code y_F_count b_F_count 4 (some .int)) { frames := 7, cells := 0, slots := 0, locals := 160 } [.ref xo, .int (nI j), .int (nI 2)] H0 (Aa [xo, fa, ma, h, h1, h2] H0.size) (Rq s0 none (some (.int (cntS (2, A, B, hd, pu, sl, n0, f0) 2))) (fun H1 => va_P D vcl [(xo, .inr (3, [.ref fa, .ref ma])), (fa, aQ cF 4 fi), (ma, aQ cF 12 mk), (h, .inr (1, [.int (nI A), .int (nI B), .int hd, .ref h1, .ref h2, .int pu])), (h1, aN cI 1024 sl), (h2, aN cI 64 pt)] H1)) := by
  refine Mx.ofW (own := "FewBits") rfl rfl ?_
  rintro p e s m below meth c ⟨hx, hb, hml, hr, hown, hW, hlk⟩ hnm het hH
  have hK := G.k hW
  have hD := hD.aa (sz := H0.size)
  have hD : va_D (Aa [xo, fa, ma, h, h1, h2] H0.size) [(xo, .inr (3, [.ref fa, .ref ma])), (fa, aQ cF 4 fi), (ma, aQ cF 12 mk), (h, .inr (1, [.int (nI A), .int (nI B), .int hd, .ref h1, .ref h2, .int pu])), (h1, aN cI 1024 sl), (h2, aN cI 64 pt)] := hD
  have hS : va_S (Aa [xo, fa, ma, h, h1, h2] H0.size) H0 H0 [] := va_S.rf
  have hq := okS_2.mp hok
  have hA : A ≤ 8 := hq.2.1
  have hB4 : 4 ≤ B := hq.2.2.1
  have hB : B ≤ 16 := hq.2.2.2.1
  have hs := hq.2.2.2.2.1.1
  have hl := lv_entry ([.ref xo, .int (nI j), .int (nI 2)]) (n := 4) (Nat.le_of_ble_eq_true rfl)
  rw [lg_entry_eq]
  generalize (lg_sl ([.ref xo, .int (nI j), .int (nI 2)]) ++ List.replicate (4 - (lg_sl ([.ref xo, .int (nI j), .int (nI 2)])).length) Slot.unset).toArray = ls at hl ⊢
  have hl : lv_has ls 4 [(0, .ref xo), (1, .int (nI j)), (2, .int (nI 2))] := hl
  refine lv_aload_n hx hb d_F_count_0 rfl (lv_at hl 0 rfl) ?_
  refine lv_iload_n hx hb d_F_count_1 rfl (lv_at hl 1 rfl) ?_
  refine mx_callR (r := .ref h) (c_F_filterAt G xo fa ma fi mk j h (hP.sub [0, 1, 2] rfl) hj hfi) hW (iv_F_count_2 G hx hb hown hW (va_recv hK hP (ci := 3) (q0 := 0) rfl rfl) [.int (nI j)] [] rfl) hml hl.1 (by rw [hb]; exact d_F_count_2) (cd_F_filterAt G hW) ⟨Nat.le_of_ble_eq_true rfl, Nat.le_of_ble_eq_true rfl⟩ rfl rfl (Nat.le_of_ble_eq_true rfl) (Nat.le_of_ble_eq_true rfl) (Nat.le_of_ble_eq_true rfl) ?_
  refine lv_astore_n (lv' := [(3, .ref h), (0, .ref xo), (1, .int (nI j)), (2, .int (nI 2))]) hx hb d_F_count_5 rfl hl (by decide) rfl (fun ls hl => ?_)
  refine lv_iload_n hx hb d_F_count_6 rfl (lv_at hl 3 rfl) ?_
  refine lv_tableIn (tgt := 54) hx hb d_F_count_7 (by decide) (by decide) rfl (by decide) ?_
  refine lv_aload_n hx hb d_F_count_54 rfl (lv_at hl 0 rfl) ?_
  refine va_get (D := D) (ci := 1) (v := .int (nI B)) (C := R_B) (T := T_B) (N := 6) hx hb (us_B G hW) (fun _ h => h) hown hK hP 3 rfl rfl 1 (by decide) (fl_F_87 G hW) (fun _ h9 => h9) rfl d_F_count_55 ?_
  exact mx_iret hx hb hr hlk d_F_count_58 (Nat.le_of_ble_eq_true rfl) (Nat.le_of_ble_eq_true rfl) (fun _ h => nomatch h) (⟨rfl, hP⟩)

set_option maxHeartbeats 4000000 in
set_option maxRecDepth 100000 in
theorem c_F_count_B_3 {l : Launch} {s0 : State} {D : va_G} {cI cF cJ : ClassId} (G : Gx l s0 D cI cF cJ) (xo fa ma : Nat) (fi mk : Nat → Option Nat) (h h1 h2 A B : Nat) (hd pu : Int32) (sl pt : Nat → Nat) (n0 : Nat) (f0 : Nat → Nat) (j : Nat) {H0 : Heap} {A0 : Nat → Prop} (hP : va_P D vcl [(xo, .inr (3, [.ref fa, .ref ma])), (fa, aQ cF 4 fi), (ma, aQ cF 12 mk), (h, .inr (1, [.int (nI A), .int (nI B), .int hd, .ref h1, .ref h2, .int pu])), (h1, aN cI 1024 sl), (h2, aN cI 64 pt)] H0) (hD : va_D A0 [(xo, .inr (3, [.ref fa, .ref ma])), (fa, aQ cF 4 fi), (ma, aQ cF 12 mk), (h, .inr (1, [.int (nI A), .int (nI B), .int hd, .ref h1, .ref h2, .int pu])), (h1, aN cI 1024 sl), (h2, aN cI 64 pt)]) (hok : okS (2, A, B, hd, pu, sl, n0, f0)) (hj : j < 4) (hfi : fi j = some h) (hon : onS s0 H0) (had : ∀ q ∈ [xo, fa, ma, h, h1, h2], s0.heap.size ≤ q)  : Mx l s0 y_F_count (.code y_F_count b_F_count 4 (some .int)) { frames := 7, cells := 0, slots := 0, locals := 160 } [.ref xo, .int (nI j), .int (nI 3)] H0 (Aa [xo, fa, ma, h, h1, h2] H0.size) (Rq s0 none (some (.int (cntS (2, A, B, hd, pu, sl, n0, f0) 3))) (fun H1 => va_P D vcl [(xo, .inr (3, [.ref fa, .ref ma])), (fa, aQ cF 4 fi), (ma, aQ cF 12 mk), (h, .inr (1, [.int (nI A), .int (nI B), .int hd, .ref h1, .ref h2, .int pu])), (h1, aN cI 1024 sl), (h2, aN cI 64 pt)] H1)) := by
  refine Mx.ofW (own := "FewBits") rfl rfl ?_
  rintro p e s m below meth c ⟨hx, hb, hml, hr, hown, hW, hlk⟩ hnm het hH
  have hK := G.k hW
  have hD := hD.aa (sz := H0.size)
  have hD : va_D (Aa [xo, fa, ma, h, h1, h2] H0.size) [(xo, .inr (3, [.ref fa, .ref ma])), (fa, aQ cF 4 fi), (ma, aQ cF 12 mk), (h, .inr (1, [.int (nI A), .int (nI B), .int hd, .ref h1, .ref h2, .int pu])), (h1, aN cI 1024 sl), (h2, aN cI 64 pt)] := hD
  have hS : va_S (Aa [xo, fa, ma, h, h1, h2] H0.size) H0 H0 [] := va_S.rf
  have hq := okS_2.mp hok
  have hA : A ≤ 8 := hq.2.1
  have hB4 : 4 ≤ B := hq.2.2.1
  have hB : B ≤ 16 := hq.2.2.2.1
  have hs := hq.2.2.2.2.1.1
  have hl := lv_entry ([.ref xo, .int (nI j), .int (nI 3)]) (n := 4) (Nat.le_of_ble_eq_true rfl)
  rw [lg_entry_eq]
  generalize (lg_sl ([.ref xo, .int (nI j), .int (nI 3)]) ++ List.replicate (4 - (lg_sl ([.ref xo, .int (nI j), .int (nI 3)])).length) Slot.unset).toArray = ls at hl ⊢
  have hl : lv_has ls 4 [(0, .ref xo), (1, .int (nI j)), (2, .int (nI 3))] := hl
  refine lv_aload_n hx hb d_F_count_0 rfl (lv_at hl 0 rfl) ?_
  refine lv_iload_n hx hb d_F_count_1 rfl (lv_at hl 1 rfl) ?_
  refine mx_callR (r := .ref h) (c_F_filterAt G xo fa ma fi mk j h (hP.sub [0, 1, 2] rfl) hj hfi) hW (iv_F_count_2 G hx hb hown hW (va_recv hK hP (ci := 3) (q0 := 0) rfl rfl) [.int (nI j)] [] rfl) hml hl.1 (by rw [hb]; exact d_F_count_2) (cd_F_filterAt G hW) ⟨Nat.le_of_ble_eq_true rfl, Nat.le_of_ble_eq_true rfl⟩ rfl rfl (Nat.le_of_ble_eq_true rfl) (Nat.le_of_ble_eq_true rfl) (Nat.le_of_ble_eq_true rfl) ?_
  refine lv_astore_n (lv' := [(3, .ref h), (0, .ref xo), (1, .int (nI j)), (2, .int (nI 3))]) hx hb d_F_count_5 rfl hl (by decide) rfl (fun ls hl => ?_)
  refine lv_iload_n hx hb d_F_count_6 rfl (lv_at hl 3 rfl) ?_
  refine lv_tableIn (tgt := 59) hx hb d_F_count_7 (by decide) (by decide) rfl (by decide) ?_
  refine lv_aload_n hx hb d_F_count_59 rfl (lv_at hl 0 rfl) ?_
  refine va_get (D := D) (ci := 1) (v := .int hd) (C := R_B) (T := T_B) (N := 6) hx hb (us_B G hW) (fun _ h => h) hown hK hP 3 rfl rfl 2 (by decide) (fl_F_58 G hW) (fun _ h9 => h9) rfl d_F_count_60 ?_
  exact mx_iret hx hb hr hlk d_F_count_63 (Nat.le_of_ble_eq_true rfl) (Nat.le_of_ble_eq_true rfl) (fun _ h => nomatch h) (⟨rfl, hP⟩)

set_option maxHeartbeats 4000000 in
set_option maxRecDepth 100000 in
theorem c_F_count_B_4 {l : Launch} {s0 : State} {D : va_G} {cI cF cJ : ClassId} (G : Gx l s0 D cI cF cJ) (xo fa ma : Nat) (fi mk : Nat → Option Nat) (h h1 h2 A B : Nat) (hd pu : Int32) (sl pt : Nat → Nat) (n0 : Nat) (f0 : Nat → Nat) (j : Nat) {H0 : Heap} {A0 : Nat → Prop} (hP : va_P D vcl [(xo, .inr (3, [.ref fa, .ref ma])), (fa, aQ cF 4 fi), (ma, aQ cF 12 mk), (h, .inr (1, [.int (nI A), .int (nI B), .int hd, .ref h1, .ref h2, .int pu])), (h1, aN cI 1024 sl), (h2, aN cI 64 pt)] H0) (hD : va_D A0 [(xo, .inr (3, [.ref fa, .ref ma])), (fa, aQ cF 4 fi), (ma, aQ cF 12 mk), (h, .inr (1, [.int (nI A), .int (nI B), .int hd, .ref h1, .ref h2, .int pu])), (h1, aN cI 1024 sl), (h2, aN cI 64 pt)]) (hok : okS (2, A, B, hd, pu, sl, n0, f0)) (hj : j < 4) (hfi : fi j = some h) (hon : onS s0 H0) (had : ∀ q ∈ [xo, fa, ma, h, h1, h2], s0.heap.size ≤ q)  : Mx l s0 y_F_count (.code y_F_count b_F_count 4 (some .int)) { frames := 7, cells := 0, slots := 0, locals := 160 } [.ref xo, .int (nI j), .int (nI 4)] H0 (Aa [xo, fa, ma, h, h1, h2] H0.size) (Rq s0 none (some (.int (cntS (2, A, B, hd, pu, sl, n0, f0) 4))) (fun H1 => va_P D vcl [(xo, .inr (3, [.ref fa, .ref ma])), (fa, aQ cF 4 fi), (ma, aQ cF 12 mk), (h, .inr (1, [.int (nI A), .int (nI B), .int hd, .ref h1, .ref h2, .int pu])), (h1, aN cI 1024 sl), (h2, aN cI 64 pt)] H1)) := by
  refine Mx.ofW (own := "FewBits") rfl rfl ?_
  rintro p e s m below meth c ⟨hx, hb, hml, hr, hown, hW, hlk⟩ hnm het hH
  have hK := G.k hW
  have hD := hD.aa (sz := H0.size)
  have hD : va_D (Aa [xo, fa, ma, h, h1, h2] H0.size) [(xo, .inr (3, [.ref fa, .ref ma])), (fa, aQ cF 4 fi), (ma, aQ cF 12 mk), (h, .inr (1, [.int (nI A), .int (nI B), .int hd, .ref h1, .ref h2, .int pu])), (h1, aN cI 1024 sl), (h2, aN cI 64 pt)] := hD
  have hS : va_S (Aa [xo, fa, ma, h, h1, h2] H0.size) H0 H0 [] := va_S.rf
  have hq := okS_2.mp hok
  have hA : A ≤ 8 := hq.2.1
  have hB4 : 4 ≤ B := hq.2.2.1
  have hB : B ≤ 16 := hq.2.2.2.1
  have hs := hq.2.2.2.2.1.1
  have hl := lv_entry ([.ref xo, .int (nI j), .int (nI 4)]) (n := 4) (Nat.le_of_ble_eq_true rfl)
  rw [lg_entry_eq]
  generalize (lg_sl ([.ref xo, .int (nI j), .int (nI 4)]) ++ List.replicate (4 - (lg_sl ([.ref xo, .int (nI j), .int (nI 4)])).length) Slot.unset).toArray = ls at hl ⊢
  have hl : lv_has ls 4 [(0, .ref xo), (1, .int (nI j)), (2, .int (nI 4))] := hl
  refine lv_aload_n hx hb d_F_count_0 rfl (lv_at hl 0 rfl) ?_
  refine lv_iload_n hx hb d_F_count_1 rfl (lv_at hl 1 rfl) ?_
  refine mx_callR (r := .ref h) (c_F_filterAt G xo fa ma fi mk j h (hP.sub [0, 1, 2] rfl) hj hfi) hW (iv_F_count_2 G hx hb hown hW (va_recv hK hP (ci := 3) (q0 := 0) rfl rfl) [.int (nI j)] [] rfl) hml hl.1 (by rw [hb]; exact d_F_count_2) (cd_F_filterAt G hW) ⟨Nat.le_of_ble_eq_true rfl, Nat.le_of_ble_eq_true rfl⟩ rfl rfl (Nat.le_of_ble_eq_true rfl) (Nat.le_of_ble_eq_true rfl) (Nat.le_of_ble_eq_true rfl) ?_
  refine lv_astore_n (lv' := [(3, .ref h), (0, .ref xo), (1, .int (nI j)), (2, .int (nI 4))]) hx hb d_F_count_5 rfl hl (by decide) rfl (fun ls hl => ?_)
  refine lv_iload_n hx hb d_F_count_6 rfl (lv_at hl 3 rfl) ?_
  refine lv_tableIn (tgt := 64) hx hb d_F_count_7 (by decide) (by decide) rfl (by decide) ?_
  refine lv_aload_n hx hb d_F_count_64 rfl (lv_at hl 0 rfl) ?_
  refine mx_callR (r := .int hd) (c_P_filledCells_B G h h1 h2 A B hd pu sl pt (hP.sub [3, 4, 5] rfl)) hW (iv_F_count_65_B G hx hb hown hW (va_recv hK hP (ci := 1) (q0 := 3) rfl rfl) [] [] rfl) hml hl.1 (by rw [hb]; exact d_F_count_65) (cd_P_filledCells G hW) ⟨Nat.le_of_ble_eq_true rfl, Nat.le_of_ble_eq_true rfl⟩ rfl rfl (Nat.le_of_ble_eq_true rfl) (Nat.le_of_ble_eq_true rfl) (Nat.le_of_ble_eq_true rfl) ?_
  exact mx_iret hx hb hr hlk d_F_count_68 (Nat.le_of_ble_eq_true rfl) (Nat.le_of_ble_eq_true rfl) (fun _ h => nomatch h) (⟨rfl, hP⟩)

set_option maxHeartbeats 4000000 in
set_option maxRecDepth 100000 in
theorem c_F_count_B_5 {l : Launch} {s0 : State} {D : va_G} {cI cF cJ : ClassId} (G : Gx l s0 D cI cF cJ) (xo fa ma : Nat) (fi mk : Nat → Option Nat) (h h1 h2 A B : Nat) (hd pu : Int32) (sl pt : Nat → Nat) (n0 : Nat) (f0 : Nat → Nat) (j : Nat) {H0 : Heap} {A0 : Nat → Prop} (hP : va_P D vcl [(xo, .inr (3, [.ref fa, .ref ma])), (fa, aQ cF 4 fi), (ma, aQ cF 12 mk), (h, .inr (1, [.int (nI A), .int (nI B), .int hd, .ref h1, .ref h2, .int pu])), (h1, aN cI 1024 sl), (h2, aN cI 64 pt)] H0) (hD : va_D A0 [(xo, .inr (3, [.ref fa, .ref ma])), (fa, aQ cF 4 fi), (ma, aQ cF 12 mk), (h, .inr (1, [.int (nI A), .int (nI B), .int hd, .ref h1, .ref h2, .int pu])), (h1, aN cI 1024 sl), (h2, aN cI 64 pt)]) (hok : okS (2, A, B, hd, pu, sl, n0, f0)) (hj : j < 4) (hfi : fi j = some h) (hon : onS s0 H0) (had : ∀ q ∈ [xo, fa, ma, h, h1, h2], s0.heap.size ≤ q)  : Mx l s0 y_F_count (.code y_F_count b_F_count 4 (some .int)) { frames := 7, cells := 0, slots := 0, locals := 160 } [.ref xo, .int (nI j), .int (nI 5)] H0 (Aa [xo, fa, ma, h, h1, h2] H0.size) (Rq s0 none (some (.int (cntS (2, A, B, hd, pu, sl, n0, f0) 5))) (fun H1 => va_P D vcl [(xo, .inr (3, [.ref fa, .ref ma])), (fa, aQ cF 4 fi), (ma, aQ cF 12 mk), (h, .inr (1, [.int (nI A), .int (nI B), .int hd, .ref h1, .ref h2, .int pu])), (h1, aN cI 1024 sl), (h2, aN cI 64 pt)] H1)) := by
  refine Mx.ofW (own := "FewBits") rfl rfl ?_
  rintro p e s m below meth c ⟨hx, hb, hml, hr, hown, hW, hlk⟩ hnm het hH
  have hK := G.k hW
  have hD := hD.aa (sz := H0.size)
  have hD : va_D (Aa [xo, fa, ma, h, h1, h2] H0.size) [(xo, .inr (3, [.ref fa, .ref ma])), (fa, aQ cF 4 fi), (ma, aQ cF 12 mk), (h, .inr (1, [.int (nI A), .int (nI B), .int hd, .ref h1, .ref h2, .int pu])), (h1, aN cI 1024 sl), (h2, aN cI 64 pt)] := hD
  have hS : va_S (Aa [xo, fa, ma, h, h1, h2] H0.size) H0 H0 [] := va_S.rf
  have hq := okS_2.mp hok
  have hA : A ≤ 8 := hq.2.1
  have hB4 : 4 ≤ B := hq.2.2.1
  have hB : B ≤ 16 := hq.2.2.2.1
  have hs := hq.2.2.2.2.1.1
  have hl := lv_entry ([.ref xo, .int (nI j), .int (nI 5)]) (n := 4) (Nat.le_of_ble_eq_true rfl)
  rw [lg_entry_eq]
  generalize (lg_sl ([.ref xo, .int (nI j), .int (nI 5)]) ++ List.replicate (4 - (lg_sl ([.ref xo, .int (nI j), .int (nI 5)])).length) Slot.unset).toArray = ls at hl ⊢
  have hl : lv_has ls 4 [(0, .ref xo), (1, .int (nI j)), (2, .int (nI 5))] := hl
  refine lv_aload_n hx hb d_F_count_0 rfl (lv_at hl 0 rfl) ?_
  refine lv_iload_n hx hb d_F_count_1 rfl (lv_at hl 1 rfl) ?_
  refine mx_callR (r := .ref h) (c_F_filterAt G xo fa ma fi mk j h (hP.sub [0, 1, 2] rfl) hj hfi) hW (iv_F_count_2 G hx hb hown hW (va_recv hK hP (ci := 3) (q0 := 0) rfl rfl) [.int (nI j)] [] rfl) hml hl.1 (by rw [hb]; exact d_F_count_2) (cd_F_filterAt G hW) ⟨Nat.le_of_ble_eq_true rfl, Nat.le_of_ble_eq_true rfl⟩ rfl rfl (Nat.le_of_ble_eq_true rfl) (Nat.le_of_ble_eq_true rfl) (Nat.le_of_ble_eq_true rfl) ?_
  refine lv_astore_n (lv' := [(3, .ref h), (0, .ref xo), (1, .int (nI j)), (2, .int (nI 5))]) hx hb d_F_count_5 rfl hl (by decide) rfl (fun ls hl => ?_)
  refine lv_iload_n hx hb d_F_count_6 rfl (lv_at hl 3 rfl) ?_
  refine lv_tableIn (tgt := 69) hx hb d_F_count_7 (by decide) (by decide) rfl (by decide) ?_
  refine lv_aload_n hx hb d_F_count_69 rfl (lv_at hl 0 rfl) ?_
  refine mx_callR (r := .int pu) (c_B_strain G h h1 h2 A B hd pu sl pt (hP.sub [3, 4, 5] rfl)) hW (iv_F_count_70_B G hx hb hown hW (va_recv hK hP (ci := 1) (q0 := 3) rfl rfl) [] [] rfl) hml hl.1 (by rw [hb]; exact d_F_count_70) (cd_B_strain G hW) ⟨Nat.le_of_ble_eq_true rfl, Nat.le_of_ble_eq_true rfl⟩ rfl rfl (Nat.le_of_ble_eq_true rfl) (Nat.le_of_ble_eq_true rfl) (Nat.le_of_ble_eq_true rfl) ?_
  exact mx_iret hx hb hr hlk d_F_count_73 (Nat.le_of_ble_eq_true rfl) (Nat.le_of_ble_eq_true rfl) (fun _ h => nomatch h) (⟨rfl, hP⟩)

set_option maxHeartbeats 4000000 in
set_option maxRecDepth 100000 in
theorem c_F_count_B_out {l : Launch} {s0 : State} {D : va_G} {cI cF cJ : ClassId} (G : Gx l s0 D cI cF cJ) (xo fa ma : Nat) (fi mk : Nat → Option Nat) (h h1 h2 A B : Nat) (hd pu : Int32) (sl pt : Nat → Nat) (n0 : Nat) (f0 : Nat → Nat) (j : Nat) (wv : Int32) {H0 : Heap} {A0 : Nat → Prop} (hP : va_P D vcl [(xo, .inr (3, [.ref fa, .ref ma])), (fa, aQ cF 4 fi), (ma, aQ cF 12 mk), (h, .inr (1, [.int (nI A), .int (nI B), .int hd, .ref h1, .ref h2, .int pu])), (h1, aN cI 1024 sl), (h2, aN cI 64 pt)] H0) (hD : va_D A0 [(xo, .inr (3, [.ref fa, .ref ma])), (fa, aQ cF 4 fi), (ma, aQ cF 12 mk), (h, .inr (1, [.int (nI A), .int (nI B), .int hd, .ref h1, .ref h2, .int pu])), (h1, aN cI 1024 sl), (h2, aN cI 64 pt)]) (hok : okS (2, A, B, hd, pu, sl, n0, f0)) (hj : j < 4) (hfi : fi j = some h) (hon : onS s0 H0) (had : ∀ q ∈ [xo, fa, ma, h, h1, h2], s0.heap.size ≤ q) (hw : wv.toInt < 0 ∨ 5 < wv.toInt) : Mx l s0 y_F_count (.code y_F_count b_F_count 4 (some .int)) { frames := 7, cells := 1, slots := 6, locals := 160 } [.ref xo, .int (nI j), .int wv] H0 (Aa [xo, fa, ma, h, h1, h2] H0.size) (Rq s0 (some E_A) none (fun H1 => va_P D vcl [(xo, .inr (3, [.ref fa, .ref ma])), (fa, aQ cF 4 fi), (ma, aQ cF 12 mk), (h, .inr (1, [.int (nI A), .int (nI B), .int hd, .ref h1, .ref h2, .int pu])), (h1, aN cI 1024 sl), (h2, aN cI 64 pt)] H1)) := by
  refine Mx.ofW (own := "FewBits") rfl rfl ?_
  rintro p e s m below meth c ⟨hx, hb, hml, hr, hown, hW, hlk⟩ hnm het hH
  have hK := G.k hW
  have hD := hD.aa (sz := H0.size)
  have hD : va_D (Aa [xo, fa, ma, h, h1, h2] H0.size) [(xo, .inr (3, [.ref fa, .ref ma])), (fa, aQ cF 4 fi), (ma, aQ cF 12 mk), (h, .inr (1, [.int (nI A), .int (nI B), .int hd, .ref h1, .ref h2, .int pu])), (h1, aN cI 1024 sl), (h2, aN cI 64 pt)] := hD
  have hS : va_S (Aa [xo, fa, ma, h, h1, h2] H0.size) H0 H0 [] := va_S.rf
  have hl := lv_entry ([.ref xo, .int (nI j), .int wv]) (n := 4) (Nat.le_of_ble_eq_true rfl)
  rw [lg_entry_eq]
  generalize (lg_sl ([.ref xo, .int (nI j), .int wv]) ++ List.replicate (4 - (lg_sl ([.ref xo, .int (nI j), .int wv])).length) Slot.unset).toArray = ls at hl ⊢
  have hl : lv_has ls 4 [(0, .ref xo), (1, .int (nI j)), (2, .int wv)] := hl
  refine lv_aload_n hx hb d_F_count_0 rfl (lv_at hl 0 rfl) ?_
  refine lv_iload_n hx hb d_F_count_1 rfl (lv_at hl 1 rfl) ?_
  refine mx_callR (r := .ref h) (c_F_filterAt G xo fa ma fi mk j h (hP.sub [0, 1, 2] rfl) hj hfi) hW (iv_F_count_2 G hx hb hown hW (va_recv hK hP (ci := 3) (q0 := 0) rfl rfl) [.int (nI j)] [] rfl) hml hl.1 (by rw [hb]; exact d_F_count_2) (cd_F_filterAt G hW) ⟨Nat.le_of_ble_eq_true rfl, Nat.le_of_ble_eq_true rfl⟩ rfl rfl (Nat.le_of_ble_eq_true rfl) (Nat.le_of_ble_eq_true rfl) (Nat.le_of_ble_eq_true rfl) ?_
  refine lv_astore_n (lv' := [(3, .ref h), (0, .ref xo), (1, .int (nI j)), (2, .int wv)]) hx hb d_F_count_5 rfl hl (by decide) rfl (fun ls hl => ?_)
  refine lv_iload_n hx hb d_F_count_6 rfl (lv_at hl 3 rfl) ?_
  refine lv_tableOut (tgt := 74) hx hb d_F_count_7 (hw) (by decide) ?_
  exact mx_throw (rest := []) G hx hb hW hown (th_A G) (str_at G 570 rfl hW) (hon.go had hS) (hl.1.trans hml.symm) het hlk d_F_count_74 d_F_count_77 d_F_count_78 d_F_count_80 d_F_count_83 (Nat.le_of_ble_eq_true rfl) (Nat.le_of_ble_eq_true rfl) (Nat.le_of_ble_eq_true rfl) (Nat.le_of_ble_eq_true rfl) (Nat.le_of_ble_eq_true rfl) (Nat.le_of_ble_eq_true rfl) (fun _ h => nomatch h) (fun H1 q hz hk ho => ⟨⟨q, rfl, ho⟩, va_P.ext hP hk⟩)

set_option maxHeartbeats 4000000 in
set_option maxRecDepth 100000 in
theorem c_F_cell_B {l : Launch} {s0 : State} {D : va_G} {cI cF cJ : ClassId} (G : Gx l s0 D cI cF cJ) (xo fa ma : Nat) (fi mk : Nat → Option Nat) (h h1 h2 A B : Nat) (hd pu : Int32) (sl pt : Nat → Nat) (n0 : Nat) (f0 : Nat → Nat) (j : Nat) (z : Nat) {H0 : Heap} {A0 : Nat → Prop} (hP : va_P D vcl [(xo, .inr (3, [.ref fa, .ref ma])), (fa, aQ cF 4 fi), (ma, aQ cF 12 mk), (h, .inr (1, [.int (nI A), .int (nI B), .int hd, .ref h1, .ref h2, .int pu])), (h1, aN cI 1024 sl), (h2, aN cI 64 pt)] H0) (hD : va_D A0 [(xo, .inr (3, [.ref fa, .ref ma])), (fa, aQ cF 4 fi), (ma, aQ cF 12 mk), (h, .inr (1, [.int (nI A), .int (nI B), .int hd, .ref h1, .ref h2, .int pu])), (h1, aN cI 1024 sl), (h2, aN cI 64 pt)]) (hok : okS (2, A, B, hd, pu, sl, n0, f0)) (hj : j < 4) (hfi : fi j = some h) (hon : onS s0 H0) (had : ∀ q ∈ [xo, fa, ma, h, h1, h2], s0.heap.size ≤ q) (hz : z < (4 * 2 ^ A)) : Mx l s0 y_F_cell (.code y_F_cell b_F_cell 4 (some .int)) { frames := 7, cells := 0, slots := 0, locals := 160 } [.ref xo, .int (nI j), .int (nI z)] H0 (Aa [xo, fa, ma, h, h1, h2] H0.size) (Rq s0 none (some (.int (lokS (2, A, B, hd, pu, sl, n0, f0) z))) (fun H1 => va_P D vcl [(xo, .inr (3, [.ref fa, .ref ma])), (fa, aQ cF 4 fi), (ma, aQ cF 12 mk), (h, .inr (1, [.int (nI A), .int (nI B), .int hd, .ref h1, .ref h2, .int pu])), (h1, aN cI 1024 sl), (h2, aN cI 64 pt)] H1)) := by
  refine Mx.ofW (own := "FewBits") rfl rfl ?_
  rintro p e s m below meth c ⟨hx, hb, hml, hr, hown, hW, hlk⟩ hnm het hH
  have hK := G.k hW
  have hD := hD.aa (sz := H0.size)
  have hD : va_D (Aa [xo, fa, ma, h, h1, h2] H0.size) [(xo, .inr (3, [.ref fa, .ref ma])), (fa, aQ cF 4 fi), (ma, aQ cF 12 mk), (h, .inr (1, [.int (nI A), .int (nI B), .int hd, .ref h1, .ref h2, .int pu])), (h1, aN cI 1024 sl), (h2, aN cI 64 pt)] := hD
  have hS : va_S (Aa [xo, fa, ma, h, h1, h2] H0.size) H0 H0 [] := va_S.rf
  have hq := okS_2.mp hok
  have hA : A ≤ 8 := hq.2.1
  have hB4 : 4 ≤ B := hq.2.2.1
  have hB : B ≤ 16 := hq.2.2.2.1
  have hs := hq.2.2.2.2.1.1
  have h8 := p2_le hA
  have hl := lv_entry ([.ref xo, .int (nI j), .int (nI z)]) (n := 4) (Nat.le_of_ble_eq_true rfl)
  rw [lg_entry_eq]
  generalize (lg_sl ([.ref xo, .int (nI j), .int (nI z)]) ++ List.replicate (4 - (lg_sl ([.ref xo, .int (nI j), .int (nI z)])).length) Slot.unset).toArray = ls at hl ⊢
  have hl : lv_has ls 4 [(0, .ref xo), (1, .int (nI j)), (2, .int (nI z))] := hl
  refine lv_iload_n hx hb d_F_cell_0 rfl (lv_at hl 1 rfl) ?_
  refine mx_callR (r := .int (bI (isNum (nI j)))) (c_F_isNumber G (nI j)) hW (iv_F_cell_1 G hx hb hown hW [.int (nI j)] [] rfl) hml hl.1 (by rw [hb]; exact d_F_cell_1) (cd_F_isNumber G hW) ⟨Nat.le_of_ble_eq_true rfl, Nat.le_of_ble_eq_true rfl⟩ rfl rfl (Nat.le_of_ble_eq_true rfl) (Nat.le_of_ble_eq_true rfl) (Nat.le_of_ble_eq_true rfl) ?_
  refine lv_if_eq (tgt := 16) hx hb d_F_cell_4 (by decide) (fun c_4 => absurd c_4 (by rw [isNum_nI hj]; decide)) (fun c_4 => ?_)
  refine lv_aload_n hx hb d_F_cell_7 rfl (lv_at hl 0 rfl) ?_
  refine va_get (D := D) (ci := 3) (v := .ref fa) (C := R_F) (T := T_F) (N := 2) hx hb (us_F G hW) (fun _ h => h) hown hK hP 0 rfl rfl 0 (by decide) (fl_F_11 G hW) (fun _ h9 => h9) rfl d_F_cell_8 ?_
  refine lv_iload_n hx hb d_F_cell_11 rfl (lv_at hl 1 rfl) ?_
  refine qa_ld hx hb hK hP 1 (j := j) rfl (hj) (by decide) d_F_cell_12 ?_
  refine tp_v (y := .ref h) (by rw [hfi]; rfl) ?_
  refine lv_ifnonnull (tgt := 26) hx hb d_F_cell_13 (by decide) ?_
  refine lv_aload_n hx hb d_F_cell_26 rfl (lv_at hl 0 rfl) ?_
  refine va_get (D := D) (ci := 3) (v := .ref fa) (C := R_F) (T := T_F) (N := 2) hx hb (us_F G hW) (fun _ h => h) hown hK hP 0 rfl rfl 0 (by decide) (fl_F_11 G hW) (fun _ h9 => h9) rfl d_F_cell_27 ?_
  refine lv_iload_n hx hb d_F_cell_30 rfl (lv_at hl 1 rfl) ?_
  refine qa_ld hx hb hK hP 1 (j := j) rfl (hj) (by decide) d_F_cell_31 ?_
  refine tp_v (y := .ref h) (by rw [hfi]; rfl) ?_
  refine lv_astore_n (lv' := [(3, .ref h), (0, .ref xo), (1, .int (nI j)), (2, .int (nI z))]) hx hb d_F_cell_32 rfl hl (by decide) rfl (fun ls hl => ?_)
  refine lv_iload_n hx hb d_F_cell_33 rfl (lv_at hl 3 rfl) ?_
  refine lv_if_lt (tgt := 45) hx hb d_F_cell_34 (by decide) (fun c_34 => absurd c_34 (nI_pos (by omega))) (fun c_34 => ?_)
  refine lv_iload_n hx hb d_F_cell_37 rfl (lv_at hl 3 rfl) ?_
  refine lv_aload_n hx hb d_F_cell_38 rfl (lv_at hl 0 rfl) ?_
  refine mx_callR (r := .int (nI (4 * 2 ^ A))) (c_B_cells G h h1 h2 A B hd pu sl pt (hP.sub [3, 4, 5] rfl) hA) hW (iv_F_cell_39_B G hx hb hown hW (va_recv hK hP (ci := 1) (q0 := 3) rfl rfl) [] [.int (nI z)] rfl) hml hl.1 (by rw [hb]; exact d_F_cell_39) (cd_B_cells G hW) ⟨Nat.le_of_ble_eq_true rfl, Nat.le_of_ble_eq_true rfl⟩ rfl rfl (Nat.le_of_ble_eq_true rfl) (Nat.le_of_ble_eq_true rfl) (Nat.le_of_ble_eq_true rfl) ?_
  refine lv_icmp_lt (tgt := 55) hx hb d_F_cell_42 (by decide) (fun c_42 => ?_) (fun c_42 => absurd (nI_lt hz (by omega)) c_42)
  refine lv_aload_n hx hb d_F_cell_55 rfl (lv_at hl 0 rfl) ?_
  refine lv_iload_n hx hb d_F_cell_56 rfl (lv_at hl 3 rfl) ?_
  refine mx_callR (r := .int (nI (sl z))) (c_B_look G h h1 h2 A B hd pu sl pt z (hP.sub [3, 4, 5] rfl) (by omega)) hW (iv_F_cell_57_B G hx hb hown hW (va_recv hK hP (ci := 1) (q0 := 3) rfl rfl) [.int (nI z)] [] rfl) hml hl.1 (by rw [hb]; exact d_F_cell_57) (cd_B_look G hW) ⟨Nat.le_of_ble_eq_true rfl, Nat.le_of_ble_eq_true rfl⟩ rfl rfl (Nat.le_of_ble_eq_true rfl) (Nat.le_of_ble_eq_true rfl) (Nat.le_of_ble_eq_true rfl) ?_
  exact mx_iret hx hb hr hlk d_F_cell_60 (Nat.le_of_ble_eq_true rfl) (Nat.le_of_ble_eq_true rfl) (fun _ h => nomatch h) (⟨rfl, hP⟩)

set_option maxHeartbeats 4000000 in
set_option maxRecDepth 100000 in
theorem c_F_cell_B_out {l : Launch} {s0 : State} {D : va_G} {cI cF cJ : ClassId} (G : Gx l s0 D cI cF cJ) (xo fa ma : Nat) (fi mk : Nat → Option Nat) (h h1 h2 A B : Nat) (hd pu : Int32) (sl pt : Nat → Nat) (n0 : Nat) (f0 : Nat → Nat) (j : Nat) (iv : Int32) {H0 : Heap} {A0 : Nat → Prop} (hP : va_P D vcl [(xo, .inr (3, [.ref fa, .ref ma])), (fa, aQ cF 4 fi), (ma, aQ cF 12 mk), (h, .inr (1, [.int (nI A), .int (nI B), .int hd, .ref h1, .ref h2, .int pu])), (h1, aN cI 1024 sl), (h2, aN cI 64 pt)] H0) (hD : va_D A0 [(xo, .inr (3, [.ref fa, .ref ma])), (fa, aQ cF 4 fi), (ma, aQ cF 12 mk), (h, .inr (1, [.int (nI A), .int (nI B), .int hd, .ref h1, .ref h2, .int pu])), (h1, aN cI 1024 sl), (h2, aN cI 64 pt)]) (hok : okS (2, A, B, hd, pu, sl, n0, f0)) (hj : j < 4) (hfi : fi j = some h) (hon : onS s0 H0) (had : ∀ q ∈ [xo, fa, ma, h, h1, h2], s0.heap.size ≤ q) (hbad : iv < 0 ∨ nI (4 * 2 ^ A) ≤ iv) : Mx l s0 y_F_cell (.code y_F_cell b_F_cell 4 (some .int)) { frames := 7, cells := 1, slots := 6, locals := 160 } [.ref xo, .int (nI j), .int iv] H0 (Aa [xo, fa, ma, h, h1, h2] H0.size) (Rq s0 (some E_I) none (fun H1 => va_P D vcl [(xo, .inr (3, [.ref fa, .ref ma])), (fa, aQ cF 4 fi), (ma, aQ cF 12 mk), (h, .inr (1, [.int (nI A), .int (nI B), .int hd, .ref h1, .ref h2, .int pu])), (h1, aN cI 1024 sl), (h2, aN cI 64 pt)] H1)) := by
  refine Mx.ofW (own := "FewBits") rfl rfl ?_
  rintro p e s m below meth c ⟨hx, hb, hml, hr, hown, hW, hlk⟩ hnm het hH
  have hK := G.k hW
  have hD := hD.aa (sz := H0.size)
  have hD : va_D (Aa [xo, fa, ma, h, h1, h2] H0.size) [(xo, .inr (3, [.ref fa, .ref ma])), (fa, aQ cF 4 fi), (ma, aQ cF 12 mk), (h, .inr (1, [.int (nI A), .int (nI B), .int hd, .ref h1, .ref h2, .int pu])), (h1, aN cI 1024 sl), (h2, aN cI 64 pt)] := hD
  have hS : va_S (Aa [xo, fa, ma, h, h1, h2] H0.size) H0 H0 [] := va_S.rf
  have hq := okS_2.mp hok
  have hA : A ≤ 8 := hq.2.1
  have hB4 : 4 ≤ B := hq.2.2.1
  have hB : B ≤ 16 := hq.2.2.2.1
  have hs := hq.2.2.2.2.1.1
  have hl := lv_entry ([.ref xo, .int (nI j), .int iv]) (n := 4) (Nat.le_of_ble_eq_true rfl)
  rw [lg_entry_eq]
  generalize (lg_sl ([.ref xo, .int (nI j), .int iv]) ++ List.replicate (4 - (lg_sl ([.ref xo, .int (nI j), .int iv])).length) Slot.unset).toArray = ls at hl ⊢
  have hl : lv_has ls 4 [(0, .ref xo), (1, .int (nI j)), (2, .int iv)] := hl
  refine lv_iload_n hx hb d_F_cell_0 rfl (lv_at hl 1 rfl) ?_
  refine mx_callR (r := .int (bI (isNum (nI j)))) (c_F_isNumber G (nI j)) hW (iv_F_cell_1 G hx hb hown hW [.int (nI j)] [] rfl) hml hl.1 (by rw [hb]; exact d_F_cell_1) (cd_F_isNumber G hW) ⟨Nat.le_of_ble_eq_true rfl, Nat.le_of_ble_eq_true rfl⟩ rfl rfl (Nat.le_of_ble_eq_true rfl) (Nat.le_of_ble_eq_true rfl) (Nat.le_of_ble_eq_true rfl) ?_
  refine lv_if_eq (tgt := 16) hx hb d_F_cell_4 (by decide) (fun c_4 => absurd c_4 (by rw [isNum_nI hj]; decide)) (fun c_4 => ?_)
  refine lv_aload_n hx hb d_F_cell_7 rfl (lv_at hl 0 rfl) ?_
  refine va_get (D := D) (ci := 3) (v := .ref fa) (C := R_F) (T := T_F) (N := 2) hx hb (us_F G hW) (fun _ h => h) hown hK hP 0 rfl rfl 0 (by decide) (fl_F_11 G hW) (fun _ h9 => h9) rfl d_F_cell_8 ?_
  refine lv_iload_n hx hb d_F_cell_11 rfl (lv_at hl 1 rfl) ?_
  refine qa_ld hx hb hK hP 1 (j := j) rfl (hj) (by decide) d_F_cell_12 ?_
  refine tp_v (y := .ref h) (by rw [hfi]; rfl) ?_
  refine lv_ifnonnull (tgt := 26) hx hb d_F_cell_13 (by decide) ?_
  refine lv_aload_n hx hb d_F_cell_26 rfl (lv_at hl 0 rfl) ?_
  refine va_get (D := D) (ci := 3) (v := .ref fa) (C := R_F) (T := T_F) (N := 2) hx hb (us_F G hW) (fun _ h => h) hown hK hP 0 rfl rfl 0 (by decide) (fl_F_11 G hW) (fun _ h9 => h9) rfl d_F_cell_27 ?_
  refine lv_iload_n hx hb d_F_cell_30 rfl (lv_at hl 1 rfl) ?_
  refine qa_ld hx hb hK hP 1 (j := j) rfl (hj) (by decide) d_F_cell_31 ?_
  refine tp_v (y := .ref h) (by rw [hfi]; rfl) ?_
  refine lv_astore_n (lv' := [(3, .ref h), (0, .ref xo), (1, .int (nI j)), (2, .int iv)]) hx hb d_F_cell_32 rfl hl (by decide) rfl (fun ls hl => ?_)
  refine lv_iload_n hx hb d_F_cell_33 rfl (lv_at hl 3 rfl) ?_
  refine lv_if_lt (tgt := 45) hx hb d_F_cell_34 (by decide) (fun c_34 => ?_) (fun c_34 => ?_)
  · exact mx_throw (rest := []) G hx hb hW hown (th_I G) (str_at G 590 rfl hW) (hon.go had hS) (hl.1.trans hml.symm) het hlk d_F_cell_45 d_F_cell_48 d_F_cell_49 d_F_cell_51 d_F_cell_54 (Nat.le_of_ble_eq_true rfl) (Nat.le_of_ble_eq_true rfl) (Nat.le_of_ble_eq_true rfl) (Nat.le_of_ble_eq_true rfl) (Nat.le_of_ble_eq_true rfl) (Nat.le_of_ble_eq_true rfl) (fun _ h => nomatch h) (fun H1 q hz hk ho => ⟨⟨q, rfl, ho⟩, va_P.ext hP hk⟩)
  · refine lv_iload_n hx hb d_F_cell_37 rfl (lv_at hl 3 rfl) ?_
    refine lv_aload_n hx hb d_F_cell_38 rfl (lv_at hl 0 rfl) ?_
    refine mx_callR (r := .int (nI (4 * 2 ^ A))) (c_B_cells G h h1 h2 A B hd pu sl pt (hP.sub [3, 4, 5] rfl) hA) hW (iv_F_cell_39_B G hx hb hown hW (va_recv hK hP (ci := 1) (q0 := 3) rfl rfl) [] [.int iv] rfl) hml hl.1 (by rw [hb]; exact d_F_cell_39) (cd_B_cells G hW) ⟨Nat.le_of_ble_eq_true rfl, Nat.le_of_ble_eq_true rfl⟩ rfl rfl (Nat.le_of_ble_eq_true rfl) (Nat.le_of_ble_eq_true rfl) (Nat.le_of_ble_eq_true rfl) ?_
    refine lv_icmp_lt (tgt := 55) hx hb d_F_cell_42 (by decide) (fun c_42 => absurd c_42 (Int32.not_lt.mpr (hbad.resolve_left c_34))) (fun c_42 => ?_)
    exact mx_throw (rest := []) G hx hb hW hown (th_I G) (str_at G 590 rfl hW) (hon.go had hS) (hl.1.trans hml.symm) het hlk d_F_cell_45 d_F_cell_48 d_F_cell_49 d_F_cell_51 d_F_cell_54 (Nat.le_of_ble_eq_true rfl) (Nat.le_of_ble_eq_true rfl) (Nat.le_of_ble_eq_true rfl) (Nat.le_of_ble_eq_true rfl) (Nat.le_of_ble_eq_true rfl) (Nat.le_of_ble_eq_true rfl) (fun _ h => nomatch h) (fun H1 q hz hk ho => ⟨⟨q, rfl, ho⟩, va_P.ext hP hk⟩)

set_option maxHeartbeats 4000000 in
set_option maxRecDepth 100000 in
theorem c_F_clear_B {l : Launch} {s0 : State} {D : va_G} {cI cF cJ : ClassId} (G : Gx l s0 D cI cF cJ) (xo fa ma : Nat) (fi mk : Nat → Option Nat) (h h1 h2 A B : Nat) (hd pu : Int32) (sl pt : Nat → Nat) (n0 : Nat) (f0 : Nat → Nat) (j : Nat) {H0 : Heap} {A0 : Nat → Prop} (hP : va_P D vcl [(xo, .inr (3, [.ref fa, .ref ma])), (fa, aQ cF 4 fi), (ma, aQ cF 12 mk), (h, .inr (1, [.int (nI A), .int (nI B), .int hd, .ref h1, .ref h2, .int pu])), (h1, aN cI 1024 sl), (h2, aN cI 64 pt)] H0) (hD : va_D A0 [(xo, .inr (3, [.ref fa, .ref ma])), (fa, aQ cF 4 fi), (ma, aQ cF 12 mk), (h, .inr (1, [.int (nI A), .int (nI B), .int hd, .ref h1, .ref h2, .int pu])), (h1, aN cI 1024 sl), (h2, aN cI 64 pt)]) (hok : okS (2, A, B, hd, pu, sl, n0, f0)) (hj : j < 4) (hfi : fi j = some h) (hon : onS s0 H0) (had : ∀ q ∈ [xo, fa, ma, h, h1, h2], s0.heap.size ≤ q)  : Mx l s0 y_F_clear (.code y_F_clear b_F_clear 4 (some .int)) { frames := 7, cells := 0, slots := 0, locals := 160 } [.ref xo, .int (nI j)] H0 (Aa [xo, fa, ma, h, h1, h2] H0.size) (Rq s0 none (some (.int hd)) (fun H1 => va_P D vcl [(xo, .inr (3, [.ref fa, .ref ma])), (fa, aQ cF 4 fi), (ma, aQ cF 12 mk), (h, .inr (1, [.int (nI A), .int (nI B), .int (nI 0), .ref h1, .ref h2, .int (nI 0)])), (h1, aN cI 1024 (fun _ => 0)), (h2, aN cI 64 pt)] H1)) := by
  refine Mx.ofW (own := "FewBits") rfl rfl ?_
  rintro p e s m below meth c ⟨hx, hb, hml, hr, hown, hW, hlk⟩ hnm het hH
  have hK := G.k hW
  have hD := hD.aa (sz := H0.size)
  have hD : va_D (Aa [xo, fa, ma, h, h1, h2] H0.size) [(xo, .inr (3, [.ref fa, .ref ma])), (fa, aQ cF 4 fi), (ma, aQ cF 12 mk), (h, .inr (1, [.int (nI A), .int (nI B), .int hd, .ref h1, .ref h2, .int pu])), (h1, aN cI 1024 sl), (h2, aN cI 64 pt)] := hD
  have hS : va_S (Aa [xo, fa, ma, h, h1, h2] H0.size) H0 H0 [] := va_S.rf
  have hl := lv_entry ([.ref xo, .int (nI j)]) (n := 4) (Nat.le_of_ble_eq_true rfl)
  rw [lg_entry_eq]
  generalize (lg_sl ([.ref xo, .int (nI j)]) ++ List.replicate (4 - (lg_sl ([.ref xo, .int (nI j)])).length) Slot.unset).toArray = ls at hl ⊢
  have hl : lv_has ls 4 [(0, .ref xo), (1, .int (nI j))] := hl
  refine lv_aload_n hx hb d_F_clear_0 rfl (lv_at hl 0 rfl) ?_
  refine lv_iload_n hx hb d_F_clear_1 rfl (lv_at hl 1 rfl) ?_
  refine mx_callR (r := .ref h) (c_F_filterAt G xo fa ma fi mk j h (hP.sub [0, 1, 2] rfl) hj hfi) hW (iv_F_clear_2 G hx hb hown hW (va_recv hK hP (ci := 3) (q0 := 0) rfl rfl) [.int (nI j)] [] rfl) hml hl.1 (by rw [hb]; exact d_F_clear_2) (cd_F_filterAt G hW) ⟨Nat.le_of_ble_eq_true rfl, Nat.le_of_ble_eq_true rfl⟩ rfl rfl (Nat.le_of_ble_eq_true rfl) (Nat.le_of_ble_eq_true rfl) (Nat.le_of_ble_eq_true rfl) ?_
  refine lv_astore_n (lv' := [(2, .ref h), (0, .ref xo), (1, .int (nI j))]) hx hb d_F_clear_5 rfl hl (by decide) rfl (fun ls hl => ?_)
  refine lv_aload_n hx hb d_F_clear_6 rfl (lv_at hl 0 rfl) ?_
  refine va_get (D := D) (ci := 1) (v := .int hd) (C := R_B) (T := T_B) (N := 6) hx hb (us_B G hW) (fun _ h => h) hown hK hP 3 rfl rfl 2 (by decide) (fl_F_58 G hW) (fun _ h9 => h9) rfl d_F_clear_7 ?_
  refine lv_istore_n (lv' := [(3, .int hd), (2, .ref h), (0, .ref xo), (1, .int (nI j))]) hx hb d_F_clear_10 rfl hl (by decide) rfl (fun ls hl => ?_)
  refine lv_aload_n hx hb d_F_clear_11 rfl (lv_at hl 1 rfl) ?_
  refine lv_aload_n hx hb d_F_clear_12 rfl (lv_at hl 1 rfl) ?_
  refine va_get (D := D) (ci := 1) (v := .int (nI A)) (C := R_B) (T := T_B) (N := 6) hx hb (us_B G hW) (fun _ h => h) hown hK hP 3 rfl rfl 0 (by decide) (fl_F_84 G hW) (fun _ h9 => h9) rfl d_F_clear_13 ?_
  refine lv_aload_n hx hb d_F_clear_16 rfl (lv_at hl 1 rfl) ?_
  refine va_get (D := D) (ci := 1) (v := .int (nI B)) (C := R_B) (T := T_B) (N := 6) hx hb (us_B G hW) (fun _ h => h) hown hK hP 3 rfl rfl 1 (by decide) (fl_F_87 G hW) (fun _ h9 => h9) rfl d_F_clear_17 ?_
  refine mx_callN (c_P_begin_B G h h1 h2 (nI A) (nI B) hd pu A B sl pt (hP.sub [3, 4, 5] rfl) (hD.sub [3, 4, 5] rfl rfl)) hW (iv_F_clear_20_B G hx hb hown hW (va_recv hK hP (ci := 1) (q0 := 3) rfl rfl) [.int (nI A), .int (nI B)] [] rfl) hml hl.1 (by rw [hb]; exact d_F_clear_20) (cd_P_begin G hW) ⟨Nat.le_of_ble_eq_true rfl, Nat.le_of_ble_eq_true rfl⟩ (Nat.le_of_ble_eq_true rfl) (Nat.le_of_ble_eq_true rfl) (Nat.le_of_ble_eq_true rfl) hS (Aa.mono (fun _ h => List.mem_append_right [xo, fa, ma] h) hS.1) (fun H locs hP2 _ hkp hS => ?_)
  have hP := va_P.join (ws1 := [(xo, .inr (3, [.ref fa, .ref ma])), (fa, aQ cF 4 fi), (ma, aQ cF 12 mk)]) (ws2 := [(h, .inr (1, [.int (nI A), .int (nI B), .int hd, .ref h1, .ref h2, .int pu])), (h1, aN cI 1024 sl), (h2, aN cI 64 pt)]) hP hD hP2 hkp rfl
  have hP : va_P D vcl [(xo, .inr (3, [.ref fa, .ref ma])), (fa, aQ cF 4 fi), (ma, aQ cF 12 mk), (h, .inr (1, [.int (nI A), .int (nI B), .int (nI 0), .ref h1, .ref h2, .int (nI 0)])), (h1, aN cI 1024 (fun _ => 0)), (h2, aN cI 64 pt)] H := hP
  have hD : va_D (Aa [xo, fa, ma, h, h1, h2] H0.size) [(xo, .inr (3, [.ref fa, .ref ma])), (fa, aQ cF 4 fi), (ma, aQ cF 12 mk), (h, .inr (1, [.int (nI A), .int (nI B), .int (nI 0), .ref h1, .ref h2, .int (nI 0)])), (h1, aN cI 1024 (fun _ => 0)), (h2, aN cI 64 pt)] := va_D.same2 [xo, fa, ma, h, h1, h2] hD rfl rfl
  refine lv_iload_n hx hb d_F_clear_23 rfl (lv_at hl 0 rfl) ?_
  exact mx_iret hx hb hr hlk d_F_clear_24 (Nat.le_of_ble_eq_true rfl) (Nat.le_of_ble_eq_true rfl) hS.2.2 (⟨rfl, hP⟩)

set_option maxHeartbeats 4000000 in
set_option maxRecDepth 100000 in
theorem c_F_grow_B {l : Launch} {s0 : State} {D : va_G} {cI cF cJ : ClassId} (G : Gx l s0 D cI cF cJ) (xo fa ma : Nat) (fi mk : Nat → Option Nat) (h h1 h2 A B : Nat) (hd pu : Int32) (sl pt : Nat → Nat) (n0 : Nat) (f0 : Nat → Nat) (j : Nat) {H0 : Heap} {A0 : Nat → Prop} (hP : va_P D vcl [(xo, .inr (3, [.ref fa, .ref ma])), (fa, aQ cF 4 fi), (ma, aQ cF 12 mk), (h, .inr (1, [.int (nI A), .int (nI B), .int hd, .ref h1, .ref h2, .int pu])), (h1, aN cI 1024 sl), (h2, aN cI 64 pt)] H0) (hD : va_D A0 [(xo, .inr (3, [.ref fa, .ref ma])), (fa, aQ cF 4 fi), (ma, aQ cF 12 mk), (h, .inr (1, [.int (nI A), .int (nI B), .int hd, .ref h1, .ref h2, .int pu])), (h1, aN cI 1024 sl), (h2, aN cI 64 pt)]) (hok : okS (2, A, B, hd, pu, sl, n0, f0)) (hj : j < 4) (hfi : fi j = some h) (hon : onS s0 H0) (had : ∀ q ∈ [xo, fa, ma, h, h1, h2], s0.heap.size ≤ q)  : Mx l s0 y_F_grow (.code y_F_grow b_F_grow 3 none) { frames := 7, cells := 1, slots := 6, locals := 160 } [.ref xo, .int (nI j)] H0 (Aa [xo, fa, ma, h, h1, h2] H0.size) (Rq s0 (some E_A) none (fun H1 => va_P D vcl [(xo, .inr (3, [.ref fa, .ref ma])), (fa, aQ cF 4 fi), (ma, aQ cF 12 mk), (h, .inr (1, [.int (nI A), .int (nI B), .int hd, .ref h1, .ref h2, .int pu])), (h1, aN cI 1024 sl), (h2, aN cI 64 pt)] H1)) := by
  refine Mx.ofW (own := "FewBits") rfl rfl ?_
  rintro p e s m below meth c ⟨hx, hb, hml, hr, hown, hW, hlk⟩ hnm het hH
  have hK := G.k hW
  have hD := hD.aa (sz := H0.size)
  have hD : va_D (Aa [xo, fa, ma, h, h1, h2] H0.size) [(xo, .inr (3, [.ref fa, .ref ma])), (fa, aQ cF 4 fi), (ma, aQ cF 12 mk), (h, .inr (1, [.int (nI A), .int (nI B), .int hd, .ref h1, .ref h2, .int pu])), (h1, aN cI 1024 sl), (h2, aN cI 64 pt)] := hD
  have hS : va_S (Aa [xo, fa, ma, h, h1, h2] H0.size) H0 H0 [] := va_S.rf
  have hl := lv_entry ([.ref xo, .int (nI j)]) (n := 3) (Nat.le_of_ble_eq_true rfl)
  rw [lg_entry_eq]
  generalize (lg_sl ([.ref xo, .int (nI j)]) ++ List.replicate (3 - (lg_sl ([.ref xo, .int (nI j)])).length) Slot.unset).toArray = ls at hl ⊢
  have hl : lv_has ls 3 [(0, .ref xo), (1, .int (nI j))] := hl
  refine lv_aload_n hx hb d_F_grow_0 rfl (lv_at hl 0 rfl) ?_
  refine lv_iload_n hx hb d_F_grow_1 rfl (lv_at hl 1 rfl) ?_
  refine mx_callR (r := .ref h) (c_F_filterAt G xo fa ma fi mk j h (hP.sub [0, 1, 2] rfl) hj hfi) hW (iv_F_grow_2 G hx hb hown hW (va_recv hK hP (ci := 3) (q0 := 0) rfl rfl) [.int (nI j)] [] rfl) hml hl.1 (by rw [hb]; exact d_F_grow_2) (cd_F_filterAt G hW) ⟨Nat.le_of_ble_eq_true rfl, Nat.le_of_ble_eq_true rfl⟩ rfl rfl (Nat.le_of_ble_eq_true rfl) (Nat.le_of_ble_eq_true rfl) (Nat.le_of_ble_eq_true rfl) ?_
  exact mx_callT (c_F_asRuns_B G h h1 h2 A B hd pu sl pt (hP.sub [3, 4, 5] rfl) hon) hW (iv_F_grow_5 G hx hb hown hW [.ref h] [] rfl) hml hl.1 (by rw [hb]; exact d_F_grow_5) (cd_F_asRuns G hW) ⟨Nat.le_of_ble_eq_true rfl, Nat.le_of_ble_eq_true rfl⟩ (Nat.le_of_ble_eq_true rfl) (Nat.le_of_ble_eq_true rfl) (Nat.le_of_ble_eq_true rfl) het hlk (Nat.le_of_ble_eq_true rfl) (Nat.le_of_ble_eq_true rfl) (fun _ h => nomatch h) (fun _ h => h.elim) (fun H1 q hz hk hp ho => ⟨⟨q, rfl, ho⟩, hP.ext (fun z hz => hk z hz (fun h9 => h9))⟩)

set_option maxHeartbeats 4000000 in
set_option maxRecDepth 100000 in
theorem c_F_count_R_0 {l : Launch} {s0 : State} {D : va_G} {cI cF cJ : ClassId} (G : Gx l s0 D cI cF cJ) (xo fa ma : Nat) (fi mk : Nat → Option Nat) (h h1 h2 A B n : Nat) (pv : Int32) (c0 f : Nat → Nat) (g : Nat → Int32) (j : Nat) {H0 : Heap} {A0 : Nat → Prop} (hP : va_P D vcl [(xo, .inr (3, [.ref fa, .ref ma])), (fa, aQ cF 4 fi), (ma, aQ cF 12 mk), (h, .inr (2, [.int (nI A), .int (nI B), .int (nI n), .ref h1, .ref h2])), (h1, aN cI 256 f), (h2, aI cI 256 g)] H0) (hD : va_D A0 [(xo, .inr (3, [.ref fa, .ref ma])), (fa, aQ cF 4 fi), (ma, aQ cF 12 mk), (h, .inr (2, [.int (nI A), .int (nI B), .int (nI n), .ref h1, .ref h2])), (h1, aN cI 256 f), (h2, aI cI 256 g)]) (hok : okS (3, A, B, nI n, pv, c0, n, f)) (hj : j < 4) (hfi : fi j = some h) (hon : onS s0 H0) (had : ∀ q ∈ [xo, fa, ma, h, h1, h2], s0.heap.size ≤ q)  : Mx l s0 y_F_count (.code y_F_count b_F_count 4 (some .int)) { frames := 7, cells := 0, slots := 0, locals := 160 } [.ref xo, .int (nI j), .int (nI 0)] H0 (Aa [xo, fa, ma, h, h1, h2] H0.size) (Rq s0 none (some (.int (cntS (3, A, B, nI n, pv, c0, n, f) 0))) (fun H1 => va_P D vcl [(xo, .inr (3, [.ref fa, .ref ma])), (fa, aQ cF 4 fi), (ma, aQ cF 12 mk), (h, .inr (2, [.int (nI A), .int (nI B), .int (nI n), .ref h1, .ref h2])), (h1, aN cI 256 f), (h2, aI cI 256 g)] H1)) := by
  refine Mx.ofW (own := "FewBits") rfl rfl ?_
  rintro p e s m below meth c ⟨hx, hb, hml, hr, hown, hW, hlk⟩ hnm het hH
  have hK := G.k hW
  have hD := hD.aa (sz := H0.size)
  have hD : va_D (Aa [xo, fa, ma, h, h1, h2] H0.size) [(xo, .inr (3, [.ref fa, .ref ma])), (fa, aQ cF 4 fi), (ma, aQ cF 12 mk), (h, .inr (2, [.int (nI A), .int (nI B), .int (nI n), .ref h1, .ref h2])), (h1, aN cI 256 f), (h2, aI cI 256 g)] := hD
  have hS : va_S (Aa [xo, fa, ma, h, h1, h2] H0.size) H0 H0 [] := va_S.rf
  have hq := (okS_3.mp hok).1
  have hA : A ≤ 8 := hq.2.1
  have hB1 : 1 ≤ B := by have := hq.2.2.1; omega
  have hB : B ≤ 20 := hq.2.2.2.1
  have hn := hq.n
  have hf := hq.lt28
  have hsr := hq.2.2.2.2.2.1
  have hfq := hq.q
  have hl := lv_entry ([.ref xo, .int (nI j), .int (nI 0)]) (n := 4) (Nat.le_of_ble_eq_true rfl)
  rw [lg_entry_eq]
  generalize (lg_sl ([.ref xo, .int (nI j), .int (nI 0)]) ++ List.replicate (4 - (lg_sl ([.ref xo, .int (nI j), .int (nI 0)])).length) Slot.unset).toArray = ls at hl ⊢
  have hl : lv_has ls 4 [(0, .ref xo), (1, .int (nI j)), (2, .int (nI 0))] := hl
  refine lv_aload_n hx hb d_F_count_0 rfl (lv_at hl 0 rfl) ?_
  refine lv_iload_n hx hb d_F_count_1 rfl (lv_at hl 1 rfl) ?_
  refine mx_callR (r := .ref h) (c_F_filterAt G xo fa ma fi mk j h (hP.sub [0, 1, 2] rfl) hj hfi) hW (iv_F_count_2 G hx hb hown hW (va_recv hK hP (ci := 3) (q0 := 0) rfl rfl) [.int (nI j)] [] rfl) hml hl.1 (by rw [hb]; exact d_F_count_2) (cd_F_filterAt G hW) ⟨Nat.le_of_ble_eq_true rfl, Nat.le_of_ble_eq_true rfl⟩ rfl rfl (Nat.le_of_ble_eq_true rfl) (Nat.le_of_ble_eq_true rfl) (Nat.le_of_ble_eq_true rfl) ?_
  refine lv_astore_n (lv' := [(3, .ref h), (0, .ref xo), (1, .int (nI j)), (2, .int (nI 0))]) hx hb d_F_count_5 rfl hl (by decide) rfl (fun ls hl => ?_)
  refine lv_iload_n hx hb d_F_count_6 rfl (lv_at hl 3 rfl) ?_
  refine lv_tableIn (tgt := 44) hx hb d_F_count_7 (by decide) (by decide) rfl (by decide) ?_
  refine lv_aload_n hx hb d_F_count_44 rfl (lv_at hl 0 rfl) ?_
  refine mx_callR (r := .int (nI 3)) (c_R_kind G h h1 h2 A B n f g) hW (iv_F_count_45_R G hx hb hown hW (va_recv hK hP (ci := 2) (q0 := 3) rfl rfl) [] [] rfl) hml hl.1 (by rw [hb]; exact d_F_count_45) (cd_R_kind G hW) ⟨Nat.le_of_ble_eq_true rfl, Nat.le_of_ble_eq_true rfl⟩ rfl rfl (Nat.le_of_ble_eq_true rfl) (Nat.le_of_ble_eq_true rfl) (Nat.le_of_ble_eq_true rfl) ?_
  exact mx_iret hx hb hr hlk d_F_count_48 (Nat.le_of_ble_eq_true rfl) (Nat.le_of_ble_eq_true rfl) (fun _ h => nomatch h) (⟨rfl, hP⟩)

set_option maxHeartbeats 4000000 in
set_option maxRecDepth 100000 in
theorem c_F_count_R_1 {l : Launch} {s0 : State} {D : va_G} {cI cF cJ : ClassId} (G : Gx l s0 D cI cF cJ) (xo fa ma : Nat) (fi mk : Nat → Option Nat) (h h1 h2 A B n : Nat) (pv : Int32) (c0 f : Nat → Nat) (g : Nat → Int32) (j : Nat) {H0 : Heap} {A0 : Nat → Prop} (hP : va_P D vcl [(xo, .inr (3, [.ref fa, .ref ma])), (fa, aQ cF 4 fi), (ma, aQ cF 12 mk), (h, .inr (2, [.int (nI A), .int (nI B), .int (nI n), .ref h1, .ref h2])), (h1, aN cI 256 f), (h2, aI cI 256 g)] H0) (hD : va_D A0 [(xo, .inr (3, [.ref fa, .ref ma])), (fa, aQ cF 4 fi), (ma, aQ cF 12 mk), (h, .inr (2, [.int (nI A), .int (nI B), .int (nI n), .ref h1, .ref h2])), (h1, aN cI 256 f), (h2, aI cI 256 g)]) (hok : okS (3, A, B, nI n, pv, c0, n, f)) (hj : j < 4) (hfi : fi j = some h) (hon : onS s0 H0) (had : ∀ q ∈ [xo, fa, ma, h, h1, h2], s0.heap.size ≤ q)  : Mx l s0 y_F_count (.code y_F_count b_F_count 4 (some .int)) { frames := 7, cells := 0, slots := 0, locals := 160 } [.ref xo, .int (nI j), .int (nI 1)] H0 (Aa [xo, fa, ma, h, h1, h2] H0.size) (Rq s0 none (some (.int (cntS (3, A, B, nI n, pv, c0, n, f) 1))) (fun H1 => va_P D vcl [(xo, .inr (3, [.ref fa, .ref ma])), (fa, aQ cF 4 fi), (ma, aQ cF 12 mk), (h, .inr (2, [.int (nI A), .int (nI B), .int (nI n), .ref h1, .ref h2])), (h1, aN cI 256 f), (h2, aI cI 256 g)] H1)) := by
  refine Mx.ofW (own := "FewBits") rfl rfl ?_
  rintro p e s m below meth c ⟨hx, hb, hml, hr, hown, hW, hlk⟩ hnm het hH
  have hK := G.k hW
  have hD := hD.aa (sz := H0.size)
  have hD : va_D (Aa [xo, fa, ma, h, h1, h2] H0.size) [(xo, .inr (3, [.ref fa, .ref ma])), (fa, aQ cF 4 fi), (ma, aQ cF 12 mk), (h, .inr (2, [.int (nI A), .int (nI B), .int (nI n), .ref h1, .ref h2])), (h1, aN cI 256 f), (h2, aI cI 256 g)] := hD
  have hS : va_S (Aa [xo, fa, ma, h, h1, h2] H0.size) H0 H0 [] := va_S.rf
  have hq := (okS_3.mp hok).1
  have hA : A ≤ 8 := hq.2.1
  have hB1 : 1 ≤ B := by have := hq.2.2.1; omega
  have hB : B ≤ 20 := hq.2.2.2.1
  have hn := hq.n
  have hf := hq.lt28
  have hsr := hq.2.2.2.2.2.1
  have hfq := hq.q
  have hl := lv_entry ([.ref xo, .int (nI j), .int (nI 1)]) (n := 4) (Nat.le_of_ble_eq_true rfl)
  rw [lg_entry_eq]
  generalize (lg_sl ([.ref xo, .int (nI j), .int (nI 1)]) ++ List.replicate (4 - (lg_sl ([.ref xo, .int (nI j), .int (nI 1)])).length) Slot.unset).toArray = ls at hl ⊢
  have hl : lv_has ls 4 [(0, .ref xo), (1, .int (nI j)), (2, .int (nI 1))] := hl
  refine lv_aload_n hx hb d_F_count_0 rfl (lv_at hl 0 rfl) ?_
  refine lv_iload_n hx hb d_F_count_1 rfl (lv_at hl 1 rfl) ?_
  refine mx_callR (r := .ref h) (c_F_filterAt G xo fa ma fi mk j h (hP.sub [0, 1, 2] rfl) hj hfi) hW (iv_F_count_2 G hx hb hown hW (va_recv hK hP (ci := 3) (q0 := 0) rfl rfl) [.int (nI j)] [] rfl) hml hl.1 (by rw [hb]; exact d_F_count_2) (cd_F_filterAt G hW) ⟨Nat.le_of_ble_eq_true rfl, Nat.le_of_ble_eq_true rfl⟩ rfl rfl (Nat.le_of_ble_eq_true rfl) (Nat.le_of_ble_eq_true rfl) (Nat.le_of_ble_eq_true rfl) ?_
  refine lv_astore_n (lv' := [(3, .ref h), (0, .ref xo), (1, .int (nI j)), (2, .int (nI 1))]) hx hb d_F_count_5 rfl hl (by decide) rfl (fun ls hl => ?_)
  refine lv_iload_n hx hb d_F_count_6 rfl (lv_at hl 3 rfl) ?_
  refine lv_tableIn (tgt := 49) hx hb d_F_count_7 (by decide) (by decide) rfl (by decide) ?_
  refine lv_aload_n hx hb d_F_count_49 rfl (lv_at hl 0 rfl) ?_
  refine va_get (D := D) (ci := 2) (v := .int (nI A)) (C := R_R) (T := T_R) (N := 5) hx hb (us_R G hW) (fun _ h => h) hown hK hP 3 rfl rfl 0 (by decide) (fl_F_84 G hW) (fun _ h9 => h9) rfl d_F_count_50 ?_
  exact mx_iret hx hb hr hlk d_F_count_53 (Nat.le_of_ble_eq_true rfl) (Nat.le_of_ble_eq_true rfl) (fun _ h => nomatch h) (⟨rfl, hP⟩)

set_option maxHeartbeats 4000000 in
set_option maxRecDepth 100000 in
theorem c_F_count_R_2 {l : Launch} {s0 : State} {D : va_G} {cI cF cJ : ClassId} (G : Gx l s0 D cI cF cJ) (xo fa ma : Nat) (fi mk : Nat → Option Nat) (h h1 h2 A B n : Nat) (pv : Int32) (c0 f : Nat → Nat) (g : Nat → Int32) (j : Nat) {H0 : Heap} {A0 : Nat → Prop} (hP : va_P D vcl [(xo, .inr (3, [.ref fa, .ref ma])), (fa, aQ cF 4 fi), (ma, aQ cF 12 mk), (h, .inr (2, [.int (nI A), .int (nI B), .int (nI n), .ref h1, .ref h2])), (h1, aN cI 256 f), (h2, aI cI 256 g)] H0) (hD : va_D A0 [(xo, .inr (3, [.ref fa, .ref ma])), (fa, aQ cF 4 fi), (ma, aQ cF 12 mk), (h, .inr (2, [.int (nI A), .int (nI B), .int (nI n), .ref h1, .ref h2])), (h1, aN cI 256 f), (h2, aI cI 256 g)]) (hok : okS (3, A, B, nI n, pv, c0, n, f)) (hj : j < 4) (hfi : fi j = some h) (hon : onS s0 H0) (had : ∀ q ∈ [xo, fa, ma, h, h1, h2], s0.heap.size ≤ q)  : Mx l s0 y_F_count (.code y_F_count b_F_count 4 (some .int)) { frames := 7, cells := 0, slots := 0, locals := 160 } [.ref xo, .int (nI j), .int (nI 2)] H0 (Aa [xo, fa, ma, h, h1, h2] H0.size) (Rq s0 none (some (.int (cntS (3, A, B, nI n, pv, c0, n, f) 2))) (fun H1 => va_P D vcl [(xo, .inr (3, [.ref fa, .ref ma])), (fa, aQ cF 4 fi), (ma, aQ cF 12 mk), (h, .inr (2, [.int (nI A), .int (nI B), .int (nI n), .ref h1, .ref h2])), (h1, aN cI 256 f), (h2, aI cI 256 g)] H1)) := by
  refine Mx.ofW (own := "FewBits") rfl rfl ?_
  rintro p e s m below meth c ⟨hx, hb, hml, hr, hown, hW, hlk⟩ hnm het hH
  have hK := G.k hW
  have hD := hD.aa (sz := H0.size)
  have hD : va_D (Aa [xo, fa, ma, h, h1, h2] H0.size) [(xo, .inr (3, [.ref fa, .ref ma])), (fa, aQ cF 4 fi), (ma, aQ cF 12 mk), (h, .inr (2, [.int (nI A), .int (nI B), .int (nI n), .ref h1, .ref h2])), (h1, aN cI 256 f), (h2, aI cI 256 g)] := hD
  have hS : va_S (Aa [xo, fa, ma, h, h1, h2] H0.size) H0 H0 [] := va_S.rf
  have hq := (okS_3.mp hok).1
  have hA : A ≤ 8 := hq.2.1
  have hB1 : 1 ≤ B := by have := hq.2.2.1; omega
  have hB : B ≤ 20 := hq.2.2.2.1
  have hn := hq.n
  have hf := hq.lt28
  have hsr := hq.2.2.2.2.2.1
  have hfq := hq.q
  have hl := lv_entry ([.ref xo, .int (nI j), .int (nI 2)]) (n := 4) (Nat.le_of_ble_eq_true rfl)
  rw [lg_entry_eq]
  generalize (lg_sl ([.ref xo, .int (nI j), .int (nI 2)]) ++ List.replicate (4 - (lg_sl ([.ref xo, .int (nI j), .int (nI 2)])).length) Slot.unset).toArray = ls at hl ⊢
  have hl : lv_has ls 4 [(0, .ref xo), (1, .int (nI j)), (2, .int (nI 2))] := hl
  refine lv_aload_n hx hb d_F_count_0 rfl (lv_at hl 0 rfl) ?_
  refine lv_iload_n hx hb d_F_count_1 rfl (lv_at hl 1 rfl) ?_
  refine mx_callR (r := .ref h) (c_F_filterAt G xo fa ma fi mk j h (hP.sub [0, 1, 2] rfl) hj hfi) hW (iv_F_count_2 G hx hb hown hW (va_recv hK hP (ci := 3) (q0 := 0) rfl rfl) [.int (nI j)] [] rfl) hml hl.1 (by rw [hb]; exact d_F_count_2) (cd_F_filterAt G hW) ⟨Nat.le_of_ble_eq_true rfl, Nat.le_of_ble_eq_true rfl⟩ rfl rfl (Nat.le_of_ble_eq_true rfl) (Nat.le_of_ble_eq_true rfl) (Nat.le_of_ble_eq_true rfl) ?_
  refine lv_astore_n (lv' := [(3, .ref h), (0, .ref xo), (1, .int (nI j)), (2, .int (nI 2))]) hx hb d_F_count_5 rfl hl (by decide) rfl (fun ls hl => ?_)
  refine lv_iload_n hx hb d_F_count_6 rfl (lv_at hl 3 rfl) ?_
  refine lv_tableIn (tgt := 54) hx hb d_F_count_7 (by decide) (by decide) rfl (by decide) ?_
  refine lv_aload_n hx hb d_F_count_54 rfl (lv_at hl 0 rfl) ?_
  refine va_get (D := D) (ci := 2) (v := .int (nI B)) (C := R_R) (T := T_R) (N := 5) hx hb (us_R G hW) (fun _ h => h) hown hK hP 3 rfl rfl 1 (by decide) (fl_F_87 G hW) (fun _ h9 => h9) rfl d_F_count_55 ?_
  exact mx_iret hx hb hr hlk d_F_count_58 (Nat.le_of_ble_eq_true rfl) (Nat.le_of_ble_eq_true rfl) (fun _ h => nomatch h) (⟨rfl, hP⟩)

set_option maxHeartbeats 4000000 in
set_option maxRecDepth 100000 in
theorem c_F_count_R_3 {l : Launch} {s0 : State} {D : va_G} {cI cF cJ : ClassId} (G : Gx l s0 D cI cF cJ) (xo fa ma : Nat) (fi mk : Nat → Option Nat) (h h1 h2 A B n : Nat) (pv : Int32) (c0 f : Nat → Nat) (g : Nat → Int32) (j : Nat) {H0 : Heap} {A0 : Nat → Prop} (hP : va_P D vcl [(xo, .inr (3, [.ref fa, .ref ma])), (fa, aQ cF 4 fi), (ma, aQ cF 12 mk), (h, .inr (2, [.int (nI A), .int (nI B), .int (nI n), .ref h1, .ref h2])), (h1, aN cI 256 f), (h2, aI cI 256 g)] H0) (hD : va_D A0 [(xo, .inr (3, [.ref fa, .ref ma])), (fa, aQ cF 4 fi), (ma, aQ cF 12 mk), (h, .inr (2, [.int (nI A), .int (nI B), .int (nI n), .ref h1, .ref h2])), (h1, aN cI 256 f), (h2, aI cI 256 g)]) (hok : okS (3, A, B, nI n, pv, c0, n, f)) (hj : j < 4) (hfi : fi j = some h) (hon : onS s0 H0) (had : ∀ q ∈ [xo, fa, ma, h, h1, h2], s0.heap.size ≤ q)  : Mx l s0 y_F_count (.code y_F_count b_F_count 4 (some .int)) { frames := 7, cells := 0, slots := 0, locals := 160 } [.ref xo, .int (nI j), .int (nI 3)] H0 (Aa [xo, fa, ma, h, h1, h2] H0.size) (Rq s0 none (some (.int (cntS (3, A, B, nI n, pv, c0, n, f) 3))) (fun H1 => va_P D vcl [(xo, .inr (3, [.ref fa, .ref ma])), (fa, aQ cF 4 fi), (ma, aQ cF 12 mk), (h, .inr (2, [.int (nI A), .int (nI B), .int (nI n), .ref h1, .ref h2])), (h1, aN cI 256 f), (h2, aI cI 256 g)] H1)) := by
  refine Mx.ofW (own := "FewBits") rfl rfl ?_
  rintro p e s m below meth c ⟨hx, hb, hml, hr, hown, hW, hlk⟩ hnm het hH
  have hK := G.k hW
  have hD := hD.aa (sz := H0.size)
  have hD : va_D (Aa [xo, fa, ma, h, h1, h2] H0.size) [(xo, .inr (3, [.ref fa, .ref ma])), (fa, aQ cF 4 fi), (ma, aQ cF 12 mk), (h, .inr (2, [.int (nI A), .int (nI B), .int (nI n), .ref h1, .ref h2])), (h1, aN cI 256 f), (h2, aI cI 256 g)] := hD
  have hS : va_S (Aa [xo, fa, ma, h, h1, h2] H0.size) H0 H0 [] := va_S.rf
  have hq := (okS_3.mp hok).1
  have hA : A ≤ 8 := hq.2.1
  have hB1 : 1 ≤ B := by have := hq.2.2.1; omega
  have hB : B ≤ 20 := hq.2.2.2.1
  have hn := hq.n
  have hf := hq.lt28
  have hsr := hq.2.2.2.2.2.1
  have hfq := hq.q
  have hl := lv_entry ([.ref xo, .int (nI j), .int (nI 3)]) (n := 4) (Nat.le_of_ble_eq_true rfl)
  rw [lg_entry_eq]
  generalize (lg_sl ([.ref xo, .int (nI j), .int (nI 3)]) ++ List.replicate (4 - (lg_sl ([.ref xo, .int (nI j), .int (nI 3)])).length) Slot.unset).toArray = ls at hl ⊢
  have hl : lv_has ls 4 [(0, .ref xo), (1, .int (nI j)), (2, .int (nI 3))] := hl
  refine lv_aload_n hx hb d_F_count_0 rfl (lv_at hl 0 rfl) ?_
  refine lv_iload_n hx hb d_F_count_1 rfl (lv_at hl 1 rfl) ?_
  refine mx_callR (r := .ref h) (c_F_filterAt G xo fa ma fi mk j h (hP.sub [0, 1, 2] rfl) hj hfi) hW (iv_F_count_2 G hx hb hown hW (va_recv hK hP (ci := 3) (q0 := 0) rfl rfl) [.int (nI j)] [] rfl) hml hl.1 (by rw [hb]; exact d_F_count_2) (cd_F_filterAt G hW) ⟨Nat.le_of_ble_eq_true rfl, Nat.le_of_ble_eq_true rfl⟩ rfl rfl (Nat.le_of_ble_eq_true rfl) (Nat.le_of_ble_eq_true rfl) (Nat.le_of_ble_eq_true rfl) ?_
  refine lv_astore_n (lv' := [(3, .ref h), (0, .ref xo), (1, .int (nI j)), (2, .int (nI 3))]) hx hb d_F_count_5 rfl hl (by decide) rfl (fun ls hl => ?_)
  refine lv_iload_n hx hb d_F_count_6 rfl (lv_at hl 3 rfl) ?_
  refine lv_tableIn (tgt := 59) hx hb d_F_count_7 (by decide) (by decide) rfl (by decide) ?_
  refine lv_aload_n hx hb d_F_count_59 rfl (lv_at hl 0 rfl) ?_
  refine va_get (D := D) (ci := 2) (v := .int (nI n)) (C := R_R) (T := T_R) (N := 5) hx hb (us_R G hW) (fun _ h => h) hown hK hP 3 rfl rfl 2 (by decide) (fl_F_58 G hW) (fun _ h9 => h9) rfl d_F_count_60 ?_
  exact mx_iret hx hb hr hlk d_F_count_63 (Nat.le_of_ble_eq_true rfl) (Nat.le_of_ble_eq_true rfl) (fun _ h => nomatch h) (⟨rfl, hP⟩)

set_option maxHeartbeats 4000000 in
set_option maxRecDepth 100000 in
theorem c_F_count_R_4 {l : Launch} {s0 : State} {D : va_G} {cI cF cJ : ClassId} (G : Gx l s0 D cI cF cJ) (xo fa ma : Nat) (fi mk : Nat → Option Nat) (h h1 h2 A B n : Nat) (pv : Int32) (c0 f : Nat → Nat) (g : Nat → Int32) (j : Nat) {H0 : Heap} {A0 : Nat → Prop} (hP : va_P D vcl [(xo, .inr (3, [.ref fa, .ref ma])), (fa, aQ cF 4 fi), (ma, aQ cF 12 mk), (h, .inr (2, [.int (nI A), .int (nI B), .int (nI n), .ref h1, .ref h2])), (h1, aN cI 256 f), (h2, aI cI 256 g)] H0) (hD : va_D A0 [(xo, .inr (3, [.ref fa, .ref ma])), (fa, aQ cF 4 fi), (ma, aQ cF 12 mk), (h, .inr (2, [.int (nI A), .int (nI B), .int (nI n), .ref h1, .ref h2])), (h1, aN cI 256 f), (h2, aI cI 256 g)]) (hok : okS (3, A, B, nI n, pv, c0, n, f)) (hj : j < 4) (hfi : fi j = some h) (hon : onS s0 H0) (had : ∀ q ∈ [xo, fa, ma, h, h1, h2], s0.heap.size ≤ q)  : Mx l s0 y_F_count (.code y_F_count b_F_count 4 (some .int)) { frames := 7, cells := 0, slots := 0, locals := 160 } [.ref xo, .int (nI j), .int (nI 4)] H0 (Aa [xo, fa, ma, h, h1, h2] H0.size) (Rq s0 none (some (.int (cntS (3, A, B, nI n, pv, c0, n, f) 4))) (fun H1 => va_P D vcl [(xo, .inr (3, [.ref fa, .ref ma])), (fa, aQ cF 4 fi), (ma, aQ cF 12 mk), (h, .inr (2, [.int (nI A), .int (nI B), .int (nI n), .ref h1, .ref h2])), (h1, aN cI 256 f), (h2, aI cI 256 g)] H1)) := by
  refine Mx.ofW (own := "FewBits") rfl rfl ?_
  rintro p e s m below meth c ⟨hx, hb, hml, hr, hown, hW, hlk⟩ hnm het hH
  have hK := G.k hW
  have hD := hD.aa (sz := H0.size)
  have hD : va_D (Aa [xo, fa, ma, h, h1, h2] H0.size) [(xo, .inr (3, [.ref fa, .ref ma])), (fa, aQ cF 4 fi), (ma, aQ cF 12 mk), (h, .inr (2, [.int (nI A), .int (nI B), .int (nI n), .ref h1, .ref h2])), (h1, aN cI 256 f), (h2, aI cI 256 g)] := hD
  have hS : va_S (Aa [xo, fa, ma, h, h1, h2] H0.size) H0 H0 [] := va_S.rf
  have hq := (okS_3.mp hok).1
  have hA : A ≤ 8 := hq.2.1
  have hB1 : 1 ≤ B := by have := hq.2.2.1; omega
  have hB : B ≤ 20 := hq.2.2.2.1
  have hn := hq.n
  have hf := hq.lt28
  have hsr := hq.2.2.2.2.2.1
  have hfq := hq.q
  have hl := lv_entry ([.ref xo, .int (nI j), .int (nI 4)]) (n := 4) (Nat.le_of_ble_eq_true rfl)
  rw [lg_entry_eq]
  generalize (lg_sl ([.ref xo, .int (nI j), .int (nI 4)]) ++ List.replicate (4 - (lg_sl ([.ref xo, .int (nI j), .int (nI 4)])).length) Slot.unset).toArray = ls at hl ⊢
  have hl : lv_has ls 4 [(0, .ref xo), (1, .int (nI j)), (2, .int (nI 4))] := hl
  refine lv_aload_n hx hb d_F_count_0 rfl (lv_at hl 0 rfl) ?_
  refine lv_iload_n hx hb d_F_count_1 rfl (lv_at hl 1 rfl) ?_
  refine mx_callR (r := .ref h) (c_F_filterAt G xo fa ma fi mk j h (hP.sub [0, 1, 2] rfl) hj hfi) hW (iv_F_count_2 G hx hb hown hW (va_recv hK hP (ci := 3) (q0 := 0) rfl rfl) [.int (nI j)] [] rfl) hml hl.1 (by rw [hb]; exact d_F_count_2) (cd_F_filterAt G hW) ⟨Nat.le_of_ble_eq_true rfl, Nat.le_of_ble_eq_true rfl⟩ rfl rfl (Nat.le_of_ble_eq_true rfl) (Nat.le_of_ble_eq_true rfl) (Nat.le_of_ble_eq_true rfl) ?_
  refine lv_astore_n (lv' := [(3, .ref h), (0, .ref xo), (1, .int (nI j)), (2, .int (nI 4))]) hx hb d_F_count_5 rfl hl (by decide) rfl (fun ls hl => ?_)
  refine lv_iload_n hx hb d_F_count_6 rfl (lv_at hl 3 rfl) ?_
  refine lv_tableIn (tgt := 64) hx hb d_F_count_7 (by decide) (by decide) rfl (by decide) ?_
  refine lv_aload_n hx hb d_F_count_64 rfl (lv_at hl 0 rfl) ?_
  refine mx_callR (r := .int (nI n)) (c_P_filledCells_R G h h1 h2 A B n f g (hP.sub [3, 4, 5] rfl)) hW (iv_F_count_65_R G hx hb hown hW (va_recv hK hP (ci := 2) (q0 := 3) rfl rfl) [] [] rfl) hml hl.1 (by rw [hb]; exact d_F_count_65) (cd_P_filledCells G hW) ⟨Nat.le_of_ble_eq_true rfl, Nat.le_of_ble_eq_true rfl⟩ rfl rfl (Nat.le_of_ble_eq_true rfl) (Nat.le_of_ble_eq_true rfl) (Nat.le_of_ble_eq_true rfl) ?_
  exact mx_iret hx hb hr hlk d_F_count_68 (Nat.le_of_ble_eq_true rfl) (Nat.le_of_ble_eq_true rfl) (fun _ h => nomatch h) (⟨rfl, hP⟩)

set_option maxHeartbeats 4000000 in
set_option maxRecDepth 100000 in
theorem c_F_count_R_5 {l : Launch} {s0 : State} {D : va_G} {cI cF cJ : ClassId} (G : Gx l s0 D cI cF cJ) (xo fa ma : Nat) (fi mk : Nat → Option Nat) (h h1 h2 A B n : Nat) (pv : Int32) (c0 f : Nat → Nat) (g : Nat → Int32) (j : Nat) {H0 : Heap} {A0 : Nat → Prop} (hP : va_P D vcl [(xo, .inr (3, [.ref fa, .ref ma])), (fa, aQ cF 4 fi), (ma, aQ cF 12 mk), (h, .inr (2, [.int (nI A), .int (nI B), .int (nI n), .ref h1, .ref h2])), (h1, aN cI 256 f), (h2, aI cI 256 g)] H0) (hD : va_D A0 [(xo, .inr (3, [.ref fa, .ref ma])), (fa, aQ cF 4 fi), (ma, aQ cF 12 mk), (h, .inr (2, [.int (nI A), .int (nI B), .int (nI n), .ref h1, .ref h2])), (h1, aN cI 256 f), (h2, aI cI 256 g)]) (hok : okS (3, A, B, nI n, pv, c0, n, f)) (hj : j < 4) (hfi : fi j = some h) (hon : onS s0 H0) (had : ∀ q ∈ [xo, fa, ma, h, h1, h2], s0.heap.size ≤ q)  : Mx l s0 y_F_count (.code y_F_count b_F_count 4 (some .int)) { frames := 7, cells := 0, slots := 0, locals := 160 } [.ref xo, .int (nI j), .int (nI 5)] H0 (Aa [xo, fa, ma, h, h1, h2] H0.size) (Rq s0 none (some (.int (cntS (3, A, B, nI n, pv, c0, n, f) 5))) (fun H1 => va_P D vcl [(xo, .inr (3, [.ref fa, .ref ma])), (fa, aQ cF 4 fi), (ma, aQ cF 12 mk), (h, .inr (2, [.int (nI A), .int (nI B), .int (nI n), .ref h1, .ref h2])), (h1, aN cI 256 f), (h2, aI cI 256 (fun z => oI (cirF f A B n z)))] H1)) := by
  refine Mx.ofW (own := "FewBits") rfl rfl ?_
  rintro p e s m below meth c ⟨hx, hb, hml, hr, hown, hW, hlk⟩ hnm het hH
  have hK := G.k hW
  have hD := hD.aa (sz := H0.size)
  have hD : va_D (Aa [xo, fa, ma, h, h1, h2] H0.size) [(xo, .inr (3, [.ref fa, .ref ma])), (fa, aQ cF 4 fi), (ma, aQ cF 12 mk), (h, .inr (2, [.int (nI A), .int (nI B), .int (nI n), .ref h1, .ref h2])), (h1, aN cI 256 f), (h2, aI cI 256 g)] := hD
  have hS : va_S (Aa [xo, fa, ma, h, h1, h2] H0.size) H0 H0 [] := va_S.rf
  have hq := (okS_3.mp hok).1
  have hA : A ≤ 8 := hq.2.1
  have hB1 : 1 ≤ B := by have := hq.2.2.1; omega
  have hB : B ≤ 20 := hq.2.2.2.1
  have hn := hq.n
  have hf := hq.lt28
  have hsr := hq.2.2.2.2.2.1
  have hfq := hq.q
  have hl := lv_entry ([.ref xo, .int (nI j), .int (nI 5)]) (n := 4) (Nat.le_of_ble_eq_true rfl)
  rw [lg_entry_eq]
  generalize (lg_sl ([.ref xo, .int (nI j), .int (nI 5)]) ++ List.replicate (4 - (lg_sl ([.ref xo, .int (nI j), .int (nI 5)])).length) Slot.unset).toArray = ls at hl ⊢
  have hl : lv_has ls 4 [(0, .ref xo), (1, .int (nI j)), (2, .int (nI 5))] := hl
  refine lv_aload_n hx hb d_F_count_0 rfl (lv_at hl 0 rfl) ?_
  refine lv_iload_n hx hb d_F_count_1 rfl (lv_at hl 1 rfl) ?_
  refine mx_callR (r := .ref h) (c_F_filterAt G xo fa ma fi mk j h (hP.sub [0, 1, 2] rfl) hj hfi) hW (iv_F_count_2 G hx hb hown hW (va_recv hK hP (ci := 3) (q0 := 0) rfl rfl) [.int (nI j)] [] rfl) hml hl.1 (by rw [hb]; exact d_F_count_2) (cd_F_filterAt G hW) ⟨Nat.le_of_ble_eq_true rfl, Nat.le_of_ble_eq_true rfl⟩ rfl rfl (Nat.le_of_ble_eq_true rfl) (Nat.le_of_ble_eq_true rfl) (Nat.le_of_ble_eq_true rfl) ?_
  refine lv_astore_n (lv' := [(3, .ref h), (0, .ref xo), (1, .int (nI j)), (2, .int (nI 5))]) hx hb d_F_count_5 rfl hl (by decide) rfl (fun ls hl => ?_)
  refine lv_iload_n hx hb d_F_count_6 rfl (lv_at hl 3 rfl) ?_
  refine lv_tableIn (tgt := 69) hx hb d_F_count_7 (by decide) (by decide) rfl (by decide) ?_
  refine lv_aload_n hx hb d_F_count_69 rfl (lv_at hl 0 rfl) ?_
  refine mx_callW (r := .int (nI (if 2 ^ A < lngN (cirF f A B n) (2 ^ A) (2 * 2 ^ A) then 2 ^ A else lngN (cirF f A B n) (2 ^ A) (2 * 2 ^ A)))) (c_R_strain G h h1 h2 A B n f g (hP.sub [3, 4, 5] rfl) (hD.sub [3, 4, 5] rfl rfl) hA hB1 hB hn hf hfq) hW (iv_F_count_70_R G hx hb hown hW (va_recv hK hP (ci := 2) (q0 := 3) rfl rfl) [] [] rfl) hml hl.1 (by rw [hb]; exact d_F_count_70) (cd_R_strain G hW) ⟨Nat.le_of_ble_eq_true rfl, Nat.le_of_ble_eq_true rfl⟩ (Nat.le_of_ble_eq_true rfl) (Nat.le_of_ble_eq_true rfl) (Nat.le_of_ble_eq_true rfl) hS (Aa.mono (fun _ h => List.mem_append_right [xo, fa, ma] h) hS.1) (fun H locs hP2 _ hkp hS => ?_)
  have hP := va_P.join (ws1 := [(xo, .inr (3, [.ref fa, .ref ma])), (fa, aQ cF 4 fi), (ma, aQ cF 12 mk)]) (ws2 := [(h, .inr (2, [.int (nI A), .int (nI B), .int (nI n), .ref h1, .ref h2])), (h1, aN cI 256 f), (h2, aI cI 256 g)]) hP hD hP2 hkp rfl
  have hP : va_P D vcl [(xo, .inr (3, [.ref fa, .ref ma])), (fa, aQ cF 4 fi), (ma, aQ cF 12 mk), (h, .inr (2, [.int (nI A), .int (nI B), .int (nI n), .ref h1, .ref h2])), (h1, aN cI 256 f), (h2, aI cI 256 (fun z => oI (cirF f A B n z)))] H := hP
  have hD : va_D (Aa [xo, fa, ma, h, h1, h2] H0.size) [(xo, .inr (3, [.ref fa, .ref ma])), (fa, aQ cF 4 fi), (ma, aQ cF 12 mk), (h, .inr (2, [.int (nI A), .int (nI B), .int (nI n), .ref h1, .ref h2])), (h1, aN cI 256 f), (h2, aI cI 256 (fun z => oI (cirF f A B n z)))] := va_D.same2 [xo, fa, ma, h, h1, h2] hD rfl rfl
  exact mx_iret hx hb hr hlk d_F_count_73 (Nat.le_of_ble_eq_true rfl) (Nat.le_of_ble_eq_true rfl) hS.2.2 (⟨rfl, hP⟩)

set_option maxHeartbeats 4000000 in
set_option maxRecDepth 100000 in
theorem c_F_count_R_out {l : Launch} {s0 : State} {D : va_G} {cI cF cJ : ClassId} (G : Gx l s0 D cI cF cJ) (xo fa ma : Nat) (fi mk : Nat → Option Nat) (h h1 h2 A B n : Nat) (pv : Int32) (c0 f : Nat → Nat) (g : Nat → Int32) (j : Nat) (wv : Int32) {H0 : Heap} {A0 : Nat → Prop} (hP : va_P D vcl [(xo, .inr (3, [.ref fa, .ref ma])), (fa, aQ cF 4 fi), (ma, aQ cF 12 mk), (h, .inr (2, [.int (nI A), .int (nI B), .int (nI n), .ref h1, .ref h2])), (h1, aN cI 256 f), (h2, aI cI 256 g)] H0) (hD : va_D A0 [(xo, .inr (3, [.ref fa, .ref ma])), (fa, aQ cF 4 fi), (ma, aQ cF 12 mk), (h, .inr (2, [.int (nI A), .int (nI B), .int (nI n), .ref h1, .ref h2])), (h1, aN cI 256 f), (h2, aI cI 256 g)]) (hok : okS (3, A, B, nI n, pv, c0, n, f)) (hj : j < 4) (hfi : fi j = some h) (hon : onS s0 H0) (had : ∀ q ∈ [xo, fa, ma, h, h1, h2], s0.heap.size ≤ q) (hw : wv.toInt < 0 ∨ 5 < wv.toInt) : Mx l s0 y_F_count (.code y_F_count b_F_count 4 (some .int)) { frames := 7, cells := 1, slots := 6, locals := 160 } [.ref xo, .int (nI j), .int wv] H0 (Aa [xo, fa, ma, h, h1, h2] H0.size) (Rq s0 (some E_A) none (fun H1 => va_P D vcl [(xo, .inr (3, [.ref fa, .ref ma])), (fa, aQ cF 4 fi), (ma, aQ cF 12 mk), (h, .inr (2, [.int (nI A), .int (nI B), .int (nI n), .ref h1, .ref h2])), (h1, aN cI 256 f), (h2, aI cI 256 g)] H1)) := by
  refine Mx.ofW (own := "FewBits") rfl rfl ?_
  rintro p e s m below meth c ⟨hx, hb, hml, hr, hown, hW, hlk⟩ hnm het hH
  have hK := G.k hW
  have hD := hD.aa (sz := H0.size)
  have hD : va_D (Aa [xo, fa, ma, h, h1, h2] H0.size) [(xo, .inr (3, [.ref fa, .ref ma])), (fa, aQ cF 4 fi), (ma, aQ cF 12 mk), (h, .inr (2, [.int (nI A), .int (nI B), .int (nI n), .ref h1, .ref h2])), (h1, aN cI 256 f), (h2, aI cI 256 g)] := hD
  have hS : va_S (Aa [xo, fa, ma, h, h1, h2] H0.size) H0 H0 [] := va_S.rf
  have hl := lv_entry ([.ref xo, .int (nI j), .int wv]) (n := 4) (Nat.le_of_ble_eq_true rfl)
  rw [lg_entry_eq]
  generalize (lg_sl ([.ref xo, .int (nI j), .int wv]) ++ List.replicate (4 - (lg_sl ([.ref xo, .int (nI j), .int wv])).length) Slot.unset).toArray = ls at hl ⊢
  have hl : lv_has ls 4 [(0, .ref xo), (1, .int (nI j)), (2, .int wv)] := hl
  refine lv_aload_n hx hb d_F_count_0 rfl (lv_at hl 0 rfl) ?_
  refine lv_iload_n hx hb d_F_count_1 rfl (lv_at hl 1 rfl) ?_
  refine mx_callR (r := .ref h) (c_F_filterAt G xo fa ma fi mk j h (hP.sub [0, 1, 2] rfl) hj hfi) hW (iv_F_count_2 G hx hb hown hW (va_recv hK hP (ci := 3) (q0 := 0) rfl rfl) [.int (nI j)] [] rfl) hml hl.1 (by rw [hb]; exact d_F_count_2) (cd_F_filterAt G hW) ⟨Nat.le_of_ble_eq_true rfl, Nat.le_of_ble_eq_true rfl⟩ rfl rfl (Nat.le_of_ble_eq_true rfl) (Nat.le_of_ble_eq_true rfl) (Nat.le_of_ble_eq_true rfl) ?_
  refine lv_astore_n (lv' := [(3, .ref h), (0, .ref xo), (1, .int (nI j)), (2, .int wv)]) hx hb d_F_count_5 rfl hl (by decide) rfl (fun ls hl => ?_)
  refine lv_iload_n hx hb d_F_count_6 rfl (lv_at hl 3 rfl) ?_
  refine lv_tableOut (tgt := 74) hx hb d_F_count_7 (hw) (by decide) ?_
  exact mx_throw (rest := []) G hx hb hW hown (th_A G) (str_at G 570 rfl hW) (hon.go had hS) (hl.1.trans hml.symm) het hlk d_F_count_74 d_F_count_77 d_F_count_78 d_F_count_80 d_F_count_83 (Nat.le_of_ble_eq_true rfl) (Nat.le_of_ble_eq_true rfl) (Nat.le_of_ble_eq_true rfl) (Nat.le_of_ble_eq_true rfl) (Nat.le_of_ble_eq_true rfl) (Nat.le_of_ble_eq_true rfl) (fun _ h => nomatch h) (fun H1 q hz hk ho => ⟨⟨q, rfl, ho⟩, va_P.ext hP hk⟩)

set_option maxHeartbeats 4000000 in
set_option maxRecDepth 100000 in
theorem c_F_cell_R {l : Launch} {s0 : State} {D : va_G} {cI cF cJ : ClassId} (G : Gx l s0 D cI cF cJ) (xo fa ma : Nat) (fi mk : Nat → Option Nat) (h h1 h2 A B n : Nat) (pv : Int32) (c0 f : Nat → Nat) (g : Nat → Int32) (j : Nat) (z : Nat) {H0 : Heap} {A0 : Nat → Prop} (hP : va_P D vcl [(xo, .inr (3, [.ref fa, .ref ma])), (fa, aQ cF 4 fi), (ma, aQ cF 12 mk), (h, .inr (2, [.int (nI A), .int (nI B), .int (nI n), .ref h1, .ref h2])), (h1, aN cI 256 f), (h2, aI cI 256 g)] H0) (hD : va_D A0 [(xo, .inr (3, [.ref fa, .ref ma])), (fa, aQ cF 4 fi), (ma, aQ cF 12 mk), (h, .inr (2, [.int (nI A), .int (nI B), .int (nI n), .ref h1, .ref h2])), (h1, aN cI 256 f), (h2, aI cI 256 g)]) (hok : okS (3, A, B, nI n, pv, c0, n, f)) (hj : j < 4) (hfi : fi j = some h) (hon : onS s0 H0) (had : ∀ q ∈ [xo, fa, ma, h, h1, h2], s0.heap.size ≤ q) (hz : z < (2 ^ A)) : Mx l s0 y_F_cell (.code y_F_cell b_F_cell 4 (some .int)) { frames := 7, cells := 0, slots := 0, locals := 160 } [.ref xo, .int (nI j), .int (nI z)] H0 (Aa [xo, fa, ma, h, h1, h2] H0.size) (Rq s0 none (some (.int (lokS (3, A, B, nI n, pv, c0, n, f) z))) (fun H1 => va_P D vcl [(xo, .inr (3, [.ref fa, .ref ma])), (fa, aQ cF 4 fi), (ma, aQ cF 12 mk), (h, .inr (2, [.int (nI A), .int (nI B), .int (nI n), .ref h1, .ref h2])), (h1, aN cI 256 f), (h2, aI cI 256 (fun z => oI (cirF f A B n z)))] H1)) := by
  refine Mx.ofW (own := "FewBits") rfl rfl ?_
  rintro p e s m below meth c ⟨hx, hb, hml, hr, hown, hW, hlk⟩ hnm het hH
  have hK := G.k hW
  have hD := hD.aa (sz := H0.size)
  have hD : va_D (Aa [xo, fa, ma, h, h1, h2] H0.size) [(xo, .inr (3, [.ref fa, .ref ma])), (fa, aQ cF 4 fi), (ma, aQ cF 12 mk), (h, .inr (2, [.int (nI A), .int (nI B), .int (nI n), .ref h1, .ref h2])), (h1, aN cI 256 f), (h2, aI cI 256 g)] := hD
  have hS : va_S (Aa [xo, fa, ma, h, h1, h2] H0.size) H0 H0 [] := va_S.rf
  have hq := (okS_3.mp hok).1
  have hA : A ≤ 8 := hq.2.1
  have hB1 : 1 ≤ B := by have := hq.2.2.1; omega
  have hB : B ≤ 20 := hq.2.2.2.1
  have hn := hq.n
  have hf := hq.lt28
  have hsr := hq.2.2.2.2.2.1
  have hfq := hq.q
  have h8 := p2_le hA
  have hl := lv_entry ([.ref xo, .int (nI j), .int (nI z)]) (n := 4) (Nat.le_of_ble_eq_true rfl)
  rw [lg_entry_eq]
  generalize (lg_sl ([.ref xo, .int (nI j), .int (nI z)]) ++ List.replicate (4 - (lg_sl ([.ref xo, .int (nI j), .int (nI z)])).length) Slot.unset).toArray = ls at hl ⊢
  have hl : lv_has ls 4 [(0, .ref xo), (1, .int (nI j)), (2, .int (nI z))] := hl
  refine lv_iload_n hx hb d_F_cell_0 rfl (lv_at hl 1 rfl) ?_
  refine mx_callR (r := .int (bI (isNum (nI j)))) (c_F_isNumber G (nI j)) hW (iv_F_cell_1 G hx hb hown hW [.int (nI j)] [] rfl) hml hl.1 (by rw [hb]; exact d_F_cell_1) (cd_F_isNumber G hW) ⟨Nat.le_of_ble_eq_true rfl, Nat.le_of_ble_eq_true rfl⟩ rfl rfl (Nat.le_of_ble_eq_true rfl) (Nat.le_of_ble_eq_true rfl) (Nat.le_of_ble_eq_true rfl) ?_
  refine lv_if_eq (tgt := 16) hx hb d_F_cell_4 (by decide) (fun c_4 => absurd c_4 (by rw [isNum_nI hj]; decide)) (fun c_4 => ?_)
  refine lv_aload_n hx hb d_F_cell_7 rfl (lv_at hl 0 rfl) ?_
  refine va_get (D := D) (ci := 3) (v := .ref fa) (C := R_F) (T := T_F) (N := 2) hx hb (us_F G hW) (fun _ h => h) hown hK hP 0 rfl rfl 0 (by decide) (fl_F_11 G hW) (fun _ h9 => h9) rfl d_F_cell_8 ?_
  refine lv_iload_n hx hb d_F_cell_11 rfl (lv_at hl 1 rfl) ?_
  refine qa_ld hx hb hK hP 1 (j := j) rfl (hj) (by decide) d_F_cell_12 ?_
  refine tp_v (y := .ref h) (by rw [hfi]; rfl) ?_
  refine lv_ifnonnull (tgt := 26) hx hb d_F_cell_13 (by decide) ?_
  refine lv_aload_n hx hb d_F_cell_26 rfl (lv_at hl 0 rfl) ?_
  refine va_get (D := D) (ci := 3) (v := .ref fa) (C := R_F) (T := T_F) (N := 2) hx hb (us_F G hW) (fun _ h => h) hown hK hP 0 rfl rfl 0 (by decide) (fl_F_11 G hW) (fun _ h9 => h9) rfl d_F_cell_27 ?_
  refine lv_iload_n hx hb d_F_cell_30 rfl (lv_at hl 1 rfl) ?_
  refine qa_ld hx hb hK hP 1 (j := j) rfl (hj) (by decide) d_F_cell_31 ?_
  refine tp_v (y := .ref h) (by rw [hfi]; rfl) ?_
  refine lv_astore_n (lv' := [(3, .ref h), (0, .ref xo), (1, .int (nI j)), (2, .int (nI z))]) hx hb d_F_cell_32 rfl hl (by decide) rfl (fun ls hl => ?_)
  refine lv_iload_n hx hb d_F_cell_33 rfl (lv_at hl 3 rfl) ?_
  refine lv_if_lt (tgt := 45) hx hb d_F_cell_34 (by decide) (fun c_34 => absurd c_34 (nI_pos (by omega))) (fun c_34 => ?_)
  refine lv_iload_n hx hb d_F_cell_37 rfl (lv_at hl 3 rfl) ?_
  refine lv_aload_n hx hb d_F_cell_38 rfl (lv_at hl 0 rfl) ?_
  refine mx_callR (r := .int (nI (2 ^ A))) (c_P_cells_R G h h1 h2 A B n f g (hP.sub [3, 4, 5] rfl) hA) hW (iv_F_cell_39_R G hx hb hown hW (va_recv hK hP (ci := 2) (q0 := 3) rfl rfl) [] [.int (nI z)] rfl) hml hl.1 (by rw [hb]; exact d_F_cell_39) (cd_P_cells G hW) ⟨Nat.le_of_ble_eq_true rfl, Nat.le_of_ble_eq_true rfl⟩ rfl rfl (Nat.le_of_ble_eq_true rfl) (Nat.le_of_ble_eq_true rfl) (Nat.le_of_ble_eq_true rfl) ?_
  refine lv_icmp_lt (tgt := 55) hx hb d_F_cell_42 (by decide) (fun c_42 => ?_) (fun c_42 => absurd (nI_lt hz (by omega)) c_42)
  refine lv_aload_n hx hb d_F_cell_55 rfl (lv_at hl 0 rfl) ?_
  refine lv_iload_n hx hb d_F_cell_56 rfl (lv_at hl 3 rfl) ?_
  refine mx_callW (r := .int (nI (match cirF f A B n z with | none => 0 | some j => lkR f B n z j))) (c_R_look G h h1 h2 A B n f g z (hP.sub [3, 4, 5] rfl) (hD.sub [3, 4, 5] rfl rfl) hA hB1 hB hn hf hfq hsr hz) hW (iv_F_cell_57_R G hx hb hown hW (va_recv hK hP (ci := 2) (q0 := 3) rfl rfl) [.int (nI z)] [] rfl) hml hl.1 (by rw [hb]; exact d_F_cell_57) (cd_R_look G hW) ⟨Nat.le_of_ble_eq_true rfl, Nat.le_of_ble_eq_true rfl⟩ (Nat.le_of_ble_eq_true rfl) (Nat.le_of_ble_eq_true rfl) (Nat.le_of_ble_eq_true rfl) hS (Aa.mono (fun _ h => List.mem_append_right [xo, fa, ma] h) hS.1) (fun H locs hP2 _ hkp hS => ?_)
  have hP := va_P.join (ws1 := [(xo, .inr (3, [.ref fa, .ref ma])), (fa, aQ cF 4 fi), (ma, aQ cF 12 mk)]) (ws2 := [(h, .inr (2, [.int (nI A), .int (nI B), .int (nI n), .ref h1, .ref h2])), (h1, aN cI 256 f), (h2, aI cI 256 g)]) hP hD hP2 hkp rfl
  have hP : va_P D vcl [(xo, .inr (3, [.ref fa, .ref ma])), (fa, aQ cF 4 fi), (ma, aQ cF 12 mk), (h, .inr (2, [.int (nI A), .int (nI B), .int (nI n), .ref h1, .ref h2])), (h1, aN cI 256 f), (h2, aI cI 256 (fun z => oI (cirF f A B n z)))] H := hP
  have hD : va_D (Aa [xo, fa, ma, h, h1, h2] H0.size) [(xo, .inr (3, [.ref fa, .ref ma])), (fa, aQ cF 4 fi), (ma, aQ cF 12 mk), (h, .inr (2, [.int (nI A), .int (nI B), .int (nI n), .ref h1, .ref h2])), (h1, aN cI 256 f), (h2, aI cI 256 (fun z => oI (cirF f A B n z)))] := va_D.same2 [xo, fa, ma, h, h1, h2] hD rfl rfl
  exact mx_iret hx hb hr hlk d_F_cell_60 (Nat.le_of_ble_eq_true rfl) (Nat.le_of_ble_eq_true rfl) hS.2.2 (⟨rfl, hP⟩)

set_option maxHeartbeats 4000000 in
set_option maxRecDepth 100000 in
theorem c_F_cell_R_out {l : Launch} {s0 : State} {D : va_G} {cI cF cJ : ClassId} (G : Gx l s0 D cI cF cJ) (xo fa ma : Nat) (fi mk : Nat → Option Nat) (h h1 h2 A B n : Nat) (pv : Int32) (c0 f : Nat → Nat) (g : Nat → Int32) (j : Nat) (iv : Int32) {H0 : Heap} {A0 : Nat → Prop} (hP : va_P D vcl [(xo, .inr (3, [.ref fa, .ref ma])), (fa, aQ cF 4 fi), (ma, aQ cF 12 mk), (h, .inr (2, [.int (nI A), .int (nI B), .int (nI n), .ref h1, .ref h2])), (h1, aN cI 256 f), (h2, aI cI 256 g)] H0) (hD : va_D A0 [(xo, .inr (3, [.ref fa, .ref ma])), (fa, aQ cF 4 fi), (ma, aQ cF 12 mk), (h, .inr (2, [.int (nI A), .int (nI B), .int (nI n), .ref h1, .ref h2])), (h1, aN cI 256 f), (h2, aI cI 256 g)]) (hok : okS (3, A, B, nI n, pv, c0, n, f)) (hj : j < 4) (hfi : fi j = some h) (hon : onS s0 H0) (had : ∀ q ∈ [xo, fa, ma, h, h1, h2], s0.heap.size ≤ q) (hbad : iv < 0 ∨ nI (2 ^ A) ≤ iv) : Mx l s0 y_F_cell (.code y_F_cell b_F_cell 4 (some .int)) { frames := 7, cells := 1, slots := 6, locals := 160 } [.ref xo, .int (nI j), .int iv] H0 (Aa [xo, fa, ma, h, h1, h2] H0.size) (Rq s0 (some E_I) none (fun H1 => va_P D vcl [(xo, .inr (3, [.ref fa, .ref ma])), (fa, aQ cF 4 fi), (ma, aQ cF 12 mk), (h, .inr (2, [.int (nI A), .int (nI B), .int (nI n), .ref h1, .ref h2])), (h1, aN cI 256 f), (h2, aI cI 256 g)] H1)) := by
  refine Mx.ofW (own := "FewBits") rfl rfl ?_
  rintro p e s m below meth c ⟨hx, hb, hml, hr, hown, hW, hlk⟩ hnm het hH
  have hK := G.k hW
  have hD := hD.aa (sz := H0.size)
  have hD : va_D (Aa [xo, fa, ma, h, h1, h2] H0.size) [(xo, .inr (3, [.ref fa, .ref ma])), (fa, aQ cF 4 fi), (ma, aQ cF 12 mk), (h, .inr (2, [.int (nI A), .int (nI B), .int (nI n), .ref h1, .ref h2])), (h1, aN cI 256 f), (h2, aI cI 256 g)] := hD
  have hS : va_S (Aa [xo, fa, ma, h, h1, h2] H0.size) H0 H0 [] := va_S.rf
  have hq := (okS_3.mp hok).1
  have hA : A ≤ 8 := hq.2.1
  have hB1 : 1 ≤ B := by have := hq.2.2.1; omega
  have hB : B ≤ 20 := hq.2.2.2.1
  have hn := hq.n
  have hf := hq.lt28
  have hsr := hq.2.2.2.2.2.1
  have hfq := hq.q
  have hl := lv_entry ([.ref xo, .int (nI j), .int iv]) (n := 4) (Nat.le_of_ble_eq_true rfl)
  rw [lg_entry_eq]
  generalize (lg_sl ([.ref xo, .int (nI j), .int iv]) ++ List.replicate (4 - (lg_sl ([.ref xo, .int (nI j), .int iv])).length) Slot.unset).toArray = ls at hl ⊢
  have hl : lv_has ls 4 [(0, .ref xo), (1, .int (nI j)), (2, .int iv)] := hl
  refine lv_iload_n hx hb d_F_cell_0 rfl (lv_at hl 1 rfl) ?_
  refine mx_callR (r := .int (bI (isNum (nI j)))) (c_F_isNumber G (nI j)) hW (iv_F_cell_1 G hx hb hown hW [.int (nI j)] [] rfl) hml hl.1 (by rw [hb]; exact d_F_cell_1) (cd_F_isNumber G hW) ⟨Nat.le_of_ble_eq_true rfl, Nat.le_of_ble_eq_true rfl⟩ rfl rfl (Nat.le_of_ble_eq_true rfl) (Nat.le_of_ble_eq_true rfl) (Nat.le_of_ble_eq_true rfl) ?_
  refine lv_if_eq (tgt := 16) hx hb d_F_cell_4 (by decide) (fun c_4 => absurd c_4 (by rw [isNum_nI hj]; decide)) (fun c_4 => ?_)
  refine lv_aload_n hx hb d_F_cell_7 rfl (lv_at hl 0 rfl) ?_
  refine va_get (D := D) (ci := 3) (v := .ref fa) (C := R_F) (T := T_F) (N := 2) hx hb (us_F G hW) (fun _ h => h) hown hK hP 0 rfl rfl 0 (by decide) (fl_F_11 G hW) (fun _ h9 => h9) rfl d_F_cell_8 ?_
  refine lv_iload_n hx hb d_F_cell_11 rfl (lv_at hl 1 rfl) ?_
  refine qa_ld hx hb hK hP 1 (j := j) rfl (hj) (by decide) d_F_cell_12 ?_
  refine tp_v (y := .ref h) (by rw [hfi]; rfl) ?_
  refine lv_ifnonnull (tgt := 26) hx hb d_F_cell_13 (by decide) ?_
  refine lv_aload_n hx hb d_F_cell_26 rfl (lv_at hl 0 rfl) ?_
  refine va_get (D := D) (ci := 3) (v := .ref fa) (C := R_F) (T := T_F) (N := 2) hx hb (us_F G hW) (fun _ h => h) hown hK hP 0 rfl rfl 0 (by decide) (fl_F_11 G hW) (fun _ h9 => h9) rfl d_F_cell_27 ?_
  refine lv_iload_n hx hb d_F_cell_30 rfl (lv_at hl 1 rfl) ?_
  refine qa_ld hx hb hK hP 1 (j := j) rfl (hj) (by decide) d_F_cell_31 ?_
  refine tp_v (y := .ref h) (by rw [hfi]; rfl) ?_
  refine lv_astore_n (lv' := [(3, .ref h), (0, .ref xo), (1, .int (nI j)), (2, .int iv)]) hx hb d_F_cell_32 rfl hl (by decide) rfl (fun ls hl => ?_)
  refine lv_iload_n hx hb d_F_cell_33 rfl (lv_at hl 3 rfl) ?_
  refine lv_if_lt (tgt := 45) hx hb d_F_cell_34 (by decide) (fun c_34 => ?_) (fun c_34 => ?_)
  · exact mx_throw (rest := []) G hx hb hW hown (th_I G) (str_at G 590 rfl hW) (hon.go had hS) (hl.1.trans hml.symm) het hlk d_F_cell_45 d_F_cell_48 d_F_cell_49 d_F_cell_51 d_F_cell_54 (Nat.le_of_ble_eq_true rfl) (Nat.le_of_ble_eq_true rfl) (Nat.le_of_ble_eq_true rfl) (Nat.le_of_ble_eq_true rfl) (Nat.le_of_ble_eq_true rfl) (Nat.le_of_ble_eq_true rfl) (fun _ h => nomatch h) (fun H1 q hz hk ho => ⟨⟨q, rfl, ho⟩, va_P.ext hP hk⟩)
  · refine lv_iload_n hx hb d_F_cell_37 rfl (lv_at hl 3 rfl) ?_
    refine lv_aload_n hx hb d_F_cell_38 rfl (lv_at hl 0 rfl) ?_
    refine mx_callR (r := .int (nI (2 ^ A))) (c_P_cells_R G h h1 h2 A B n f g (hP.sub [3, 4, 5] rfl) hA) hW (iv_F_cell_39_R G hx hb hown hW (va_recv hK hP (ci := 2) (q0 := 3) rfl rfl) [] [.int iv] rfl) hml hl.1 (by rw [hb]; exact d_F_cell_39) (cd_P_cells G hW) ⟨Nat.le_of_ble_eq_true rfl, Nat.le_of_ble_eq_true rfl⟩ rfl rfl (Nat.le_of_ble_eq_true rfl) (Nat.le_of_ble_eq_true rfl) (Nat.le_of_ble_eq_true rfl) ?_
    refine lv_icmp_lt (tgt := 55) hx hb d_F_cell_42 (by decide) (fun c_42 => absurd c_42 (Int32.not_lt.mpr (hbad.resolve_left c_34))) (fun c_42 => ?_)
    exact mx_throw (rest := []) G hx hb hW hown (th_I G) (str_at G 590 rfl hW) (hon.go had hS) (hl.1.trans hml.symm) het hlk d_F_cell_45 d_F_cell_48 d_F_cell_49 d_F_cell_51 d_F_cell_54 (Nat.le_of_ble_eq_true rfl) (Nat.le_of_ble_eq_true rfl) (Nat.le_of_ble_eq_true rfl) (Nat.le_of_ble_eq_true rfl) (Nat.le_of_ble_eq_true rfl) (Nat.le_of_ble_eq_true rfl) (fun _ h => nomatch h) (fun H1 q hz hk ho => ⟨⟨q, rfl, ho⟩, va_P.ext hP hk⟩)

set_option maxHeartbeats 4000000 in
set_option maxRecDepth 100000 in
theorem c_F_clear_R {l : Launch} {s0 : State} {D : va_G} {cI cF cJ : ClassId} (G : Gx l s0 D cI cF cJ) (xo fa ma : Nat) (fi mk : Nat → Option Nat) (h h1 h2 A B n : Nat) (pv : Int32) (c0 f : Nat → Nat) (g : Nat → Int32) (j : Nat) {H0 : Heap} {A0 : Nat → Prop} (hP : va_P D vcl [(xo, .inr (3, [.ref fa, .ref ma])), (fa, aQ cF 4 fi), (ma, aQ cF 12 mk), (h, .inr (2, [.int (nI A), .int (nI B), .int (nI n), .ref h1, .ref h2])), (h1, aN cI 256 f), (h2, aI cI 256 g)] H0) (hD : va_D A0 [(xo, .inr (3, [.ref fa, .ref ma])), (fa, aQ cF 4 fi), (ma, aQ cF 12 mk), (h, .inr (2, [.int (nI A), .int (nI B), .int (nI n), .ref h1, .ref h2])), (h1, aN cI 256 f), (h2, aI cI 256 g)]) (hok : okS (3, A, B, nI n, pv, c0, n, f)) (hj : j < 4) (hfi : fi j = some h) (hon : onS s0 H0) (had : ∀ q ∈ [xo, fa, ma, h, h1, h2], s0.heap.size ≤ q)  : Mx l s0 y_F_clear (.code y_F_clear b_F_clear 4 (some .int)) { frames := 7, cells := 0, slots := 0, locals := 160 } [.ref xo, .int (nI j)] H0 (Aa [xo, fa, ma, h, h1, h2] H0.size) (Rq s0 none (some (.int (nI n))) (fun H1 => va_P D vcl [(xo, .inr (3, [.ref fa, .ref ma])), (fa, aQ cF 4 fi), (ma, aQ cF 12 mk), (h, .inr (2, [.int (nI A), .int (nI B), .int (nI 0), .ref h1, .ref h2])), (h1, aN cI 256 f), (h2, aI cI 256 g)] H1)) := by
  refine Mx.ofW (own := "FewBits") rfl rfl ?_
  rintro p e s m below meth c ⟨hx, hb, hml, hr, hown, hW, hlk⟩ hnm het hH
  have hK := G.k hW
  have hD := hD.aa (sz := H0.size)
  have hD : va_D (Aa [xo, fa, ma, h, h1, h2] H0.size) [(xo, .inr (3, [.ref fa, .ref ma])), (fa, aQ cF 4 fi), (ma, aQ cF 12 mk), (h, .inr (2, [.int (nI A), .int (nI B), .int (nI n), .ref h1, .ref h2])), (h1, aN cI 256 f), (h2, aI cI 256 g)] := hD
  have hS : va_S (Aa [xo, fa, ma, h, h1, h2] H0.size) H0 H0 [] := va_S.rf
  have hl := lv_entry ([.ref xo, .int (nI j)]) (n := 4) (Nat.le_of_ble_eq_true rfl)
  rw [lg_entry_eq]
  generalize (lg_sl ([.ref xo, .int (nI j)]) ++ List.replicate (4 - (lg_sl ([.ref xo, .int (nI j)])).length) Slot.unset).toArray = ls at hl ⊢
  have hl : lv_has ls 4 [(0, .ref xo), (1, .int (nI j))] := hl
  refine lv_aload_n hx hb d_F_clear_0 rfl (lv_at hl 0 rfl) ?_
  refine lv_iload_n hx hb d_F_clear_1 rfl (lv_at hl 1 rfl) ?_
  refine mx_callR (r := .ref h) (c_F_filterAt G xo fa ma fi mk j h (hP.sub [0, 1, 2] rfl) hj hfi) hW (iv_F_clear_2 G hx hb hown hW (va_recv hK hP (ci := 3) (q0 := 0) rfl rfl) [.int (nI j)] [] rfl) hml hl.1 (by rw [hb]; exact d_F_clear_2) (cd_F_filterAt G hW) ⟨Nat.le_of_ble_eq_true rfl, Nat.le_of_ble_eq_true rfl⟩ rfl rfl (Nat.le_of_ble_eq_true rfl) (Nat.le_of_ble_eq_true rfl) (Nat.le_of_ble_eq_true rfl) ?_
  refine lv_astore_n (lv' := [(2, .ref h), (0, .ref xo), (1, .int (nI j))]) hx hb d_F_clear_5 rfl hl (by decide) rfl (fun ls hl => ?_)
  refine lv_aload_n hx hb d_F_clear_6 rfl (lv_at hl 0 rfl) ?_
  refine va_get (D := D) (ci := 2) (v := .int (nI n)) (C := R_R) (T := T_R) (N := 5) hx hb (us_R G hW) (fun _ h => h) hown hK hP 3 rfl rfl 2 (by decide) (fl_F_58 G hW) (fun _ h9 => h9) rfl d_F_clear_7 ?_
  refine lv_istore_n (lv' := [(3, .int (nI n)), (2, .ref h), (0, .ref xo), (1, .int (nI j))]) hx hb d_F_clear_10 rfl hl (by decide) rfl (fun ls hl => ?_)
  refine lv_aload_n hx hb d_F_clear_11 rfl (lv_at hl 1 rfl) ?_
  refine lv_aload_n hx hb d_F_clear_12 rfl (lv_at hl 1 rfl) ?_
  refine va_get (D := D) (ci := 2) (v := .int (nI A)) (C := R_R) (T := T_R) (N := 5) hx hb (us_R G hW) (fun _ h => h) hown hK hP 3 rfl rfl 0 (by decide) (fl_F_84 G hW) (fun _ h9 => h9) rfl d_F_clear_13 ?_
  refine lv_aload_n hx hb d_F_clear_16 rfl (lv_at hl 1 rfl) ?_
  refine va_get (D := D) (ci := 2) (v := .int (nI B)) (C := R_R) (T := T_R) (N := 5) hx hb (us_R G hW) (fun _ h => h) hown hK hP 3 rfl rfl 1 (by decide) (fl_F_87 G hW) (fun _ h9 => h9) rfl d_F_clear_17 ?_
  refine mx_callN (c_P_begin_R G h h1 h2 (nI A) (nI B) (nI n) A B f g (hP.sub [3, 4, 5] rfl) (hD.sub [3, 4, 5] rfl rfl)) hW (iv_F_clear_20_R G hx hb hown hW (va_recv hK hP (ci := 2) (q0 := 3) rfl rfl) [.int (nI A), .int (nI B)] [] rfl) hml hl.1 (by rw [hb]; exact d_F_clear_20) (cd_P_begin G hW) ⟨Nat.le_of_ble_eq_true rfl, Nat.le_of_ble_eq_true rfl⟩ (Nat.le_of_ble_eq_true rfl) (Nat.le_of_ble_eq_true rfl) (Nat.le_of_ble_eq_true rfl) hS (Aa.mono (fun _ h => List.mem_append_right [xo, fa, ma] h) hS.1) (fun H locs hP2 _ hkp hS => ?_)
  have hP := va_P.join (ws1 := [(xo, .inr (3, [.ref fa, .ref ma])), (fa, aQ cF 4 fi), (ma, aQ cF 12 mk)]) (ws2 := [(h, .inr (2, [.int (nI A), .int (nI B), .int (nI n), .ref h1, .ref h2])), (h1, aN cI 256 f), (h2, aI cI 256 g)]) hP hD hP2 hkp rfl
  have hP : va_P D vcl [(xo, .inr (3, [.ref fa, .ref ma])), (fa, aQ cF 4 fi), (ma, aQ cF 12 mk), (h, .inr (2, [.int (nI A), .int (nI B), .int (nI 0), .ref h1, .ref h2])), (h1, aN cI 256 f), (h2, aI cI 256 g)] H := hP
  have hD : va_D (Aa [xo, fa, ma, h, h1, h2] H0.size) [(xo, .inr (3, [.ref fa, .ref ma])), (fa, aQ cF 4 fi), (ma, aQ cF 12 mk), (h, .inr (2, [.int (nI A), .int (nI B), .int (nI 0), .ref h1, .ref h2])), (h1, aN cI 256 f), (h2, aI cI 256 g)] := va_D.same2 [xo, fa, ma, h, h1, h2] hD rfl rfl
  refine lv_iload_n hx hb d_F_clear_23 rfl (lv_at hl 0 rfl) ?_
  exact mx_iret hx hb hr hlk d_F_clear_24 (Nat.le_of_ble_eq_true rfl) (Nat.le_of_ble_eq_true rfl) hS.2.2 (⟨rfl, hP⟩)

set_option maxHeartbeats 4000000 in
set_option maxRecDepth 100000 in
theorem c_F_grow_R {l : Launch} {s0 : State} {D : va_G} {cI cF cJ : ClassId} (G : Gx l s0 D cI cF cJ) (xo fa ma : Nat) (fi mk : Nat → Option Nat) (h h1 h2 A B n : Nat) (pv : Int32) (c0 f : Nat → Nat) (g : Nat → Int32) (j : Nat) {H0 : Heap} {A0 : Nat → Prop} (hP : va_P D vcl [(xo, .inr (3, [.ref fa, .ref ma])), (fa, aQ cF 4 fi), (ma, aQ cF 12 mk), (h, .inr (2, [.int (nI A), .int (nI B), .int (nI n), .ref h1, .ref h2])), (h1, aN cI 256 f), (h2, aI cI 256 g)] H0) (hD : va_D A0 [(xo, .inr (3, [.ref fa, .ref ma])), (fa, aQ cF 4 fi), (ma, aQ cF 12 mk), (h, .inr (2, [.int (nI A), .int (nI B), .int (nI n), .ref h1, .ref h2])), (h1, aN cI 256 f), (h2, aI cI 256 g)]) (hok : okS (3, A, B, nI n, pv, c0, n, f)) (hj : j < 4) (hfi : fi j = some h) (hon : onS s0 H0) (had : ∀ q ∈ [xo, fa, ma, h, h1, h2], s0.heap.size ≤ q) (hg : mbS (nI 3) (nI (A + 1)) (nI (B - 1)) = true) : Mx l s0 y_F_grow (.code y_F_grow b_F_grow 3 none) { frames := 7, cells := 0, slots := 0, locals := 160 } [.ref xo, .int (nI j)] H0 (Aa [xo, fa, ma, h, h1, h2] H0.size) (Rq s0 none none (fun H1 => va_P D vcl [(xo, .inr (3, [.ref fa, .ref ma])), (fa, aQ cF 4 fi), (ma, aQ cF 12 mk), (h, .inr (2, [.int (nI (A + 1)), .int (nI (B - 1)), .int (nI n), .ref h1, .ref h2])), (h1, aN cI 256 f), (h2, aI cI 256 g)] H1)) := by
  refine Mx.ofW (own := "FewBits") rfl rfl ?_
  rintro p e s m below meth c ⟨hx, hb, hml, hr, hown, hW, hlk⟩ hnm het hH
  have hK := G.k hW
  have hD := hD.aa (sz := H0.size)
  have hD : va_D (Aa [xo, fa, ma, h, h1, h2] H0.size) [(xo, .inr (3, [.ref fa, .ref ma])), (fa, aQ cF 4 fi), (ma, aQ cF 12 mk), (h, .inr (2, [.int (nI A), .int (nI B), .int (nI n), .ref h1, .ref h2])), (h1, aN cI 256 f), (h2, aI cI 256 g)] := hD
  have hS : va_S (Aa [xo, fa, ma, h, h1, h2] H0.size) H0 H0 [] := va_S.rf
  have hq := (okS_3.mp hok).1
  have hA : A ≤ 8 := hq.2.1
  have hB1 : 1 ≤ B := by have := hq.2.2.1; omega
  have hB : B ≤ 20 := hq.2.2.2.1
  have hn := hq.n
  have hf := hq.lt28
  have hsr := hq.2.2.2.2.2.1
  have hfq := hq.q
  have hl := lv_entry ([.ref xo, .int (nI j)]) (n := 3) (Nat.le_of_ble_eq_true rfl)
  rw [lg_entry_eq]
  generalize (lg_sl ([.ref xo, .int (nI j)]) ++ List.replicate (3 - (lg_sl ([.ref xo, .int (nI j)])).length) Slot.unset).toArray = ls at hl ⊢
  have hl : lv_has ls 3 [(0, .ref xo), (1, .int (nI j))] := hl
  refine lv_aload_n hx hb d_F_grow_0 rfl (lv_at hl 0 rfl) ?_
  refine lv_iload_n hx hb d_F_grow_1 rfl (lv_at hl 1 rfl) ?_
  refine mx_callR (r := .ref h) (c_F_filterAt G xo fa ma fi mk j h (hP.sub [0, 1, 2] rfl) hj hfi) hW (iv_F_grow_2 G hx hb hown hW (va_recv hK hP (ci := 3) (q0 := 0) rfl rfl) [.int (nI j)] [] rfl) hml hl.1 (by rw [hb]; exact d_F_grow_2) (cd_F_filterAt G hW) ⟨Nat.le_of_ble_eq_true rfl, Nat.le_of_ble_eq_true rfl⟩ rfl rfl (Nat.le_of_ble_eq_true rfl) (Nat.le_of_ble_eq_true rfl) (Nat.le_of_ble_eq_true rfl) ?_
  refine mx_callR (r := .ref h) (c_F_asRuns_R G h h1 h2 A B n f g (hP.sub [3, 4, 5] rfl)) hW (iv_F_grow_5 G hx hb hown hW [.ref h] [] rfl) hml hl.1 (by rw [hb]; exact d_F_grow_5) (cd_F_asRuns G hW) ⟨Nat.le_of_ble_eq_true rfl, Nat.le_of_ble_eq_true rfl⟩ rfl rfl (Nat.le_of_ble_eq_true rfl) (Nat.le_of_ble_eq_true rfl) (Nat.le_of_ble_eq_true rfl) ?_
  refine lv_astore_n (lv' := [(2, .ref h), (0, .ref xo), (1, .int (nI j))]) hx hb d_F_grow_8 rfl hl (by decide) rfl (fun ls hl => ?_)
  refine lv_iconst (v := (nI 3)) hx hb d_F_grow_9 (by decide) ?_
  refine lv_aload_n hx hb d_F_grow_10 rfl (lv_at hl 0 rfl) ?_
  refine va_get (D := D) (ci := 2) (v := .int (nI A)) (C := R_R) (T := T_R) (N := 5) hx hb (us_R G hW) (fun _ h => h) hown hK hP 3 rfl rfl 0 (by decide) (fl_F_123 G hW) (u_same (args := ([.ref xo, .int (nI j)] : List Value).toArray) (G.1.at 174 rfl rfl _ hW)) rfl d_F_grow_11 ?_
  refine lv_iconst (v := (nI 1)) hx hb d_F_grow_14 (by decide) ?_
  refine lv_iadd hx hb d_F_grow_15 ?_
  refine tp_i (y := (nI (A + 1))) (nI_add _ _) ?_
  refine lv_aload_n hx hb d_F_grow_16 rfl (lv_at hl 0 rfl) ?_
  refine va_get (D := D) (ci := 2) (v := .int (nI B)) (C := R_R) (T := T_R) (N := 5) hx hb (us_R G hW) (fun _ h => h) hown hK hP 3 rfl rfl 1 (by decide) (fl_F_126 G hW) (u_same (args := ([.ref xo, .int (nI j)] : List Value).toArray) (G.1.at 183 rfl rfl _ hW)) rfl d_F_grow_17 ?_
  refine lv_iconst (v := (nI 1)) hx hb d_F_grow_20 (by decide) ?_
  refine lv_isub hx hb d_F_grow_21 ?_
  refine tp_i (y := (nI (B - 1))) (pk_sub hB1) ?_
  refine mx_callR (r := .int (bI (mbS (nI 3) (nI (A + 1)) (nI (B - 1))))) (c_F_mayBe G (nI 3) (nI (A + 1)) (nI (B - 1))) hW (iv_F_grow_22 G hx hb hown hW [.int (nI 3), .int (nI (A + 1)), .int (nI (B - 1))] [] rfl) hml hl.1 (by rw [hb]; exact d_F_grow_22) (cd_F_mayBe G hW) ⟨Nat.le_of_ble_eq_true rfl, Nat.le_of_ble_eq_true rfl⟩ rfl rfl (Nat.le_of_ble_eq_true rfl) (Nat.le_of_ble_eq_true rfl) (Nat.le_of_ble_eq_true rfl) ?_
  refine lv_if_ne (tgt := 38) hx hb d_F_grow_25 (by decide) (fun c_25 => ?_) (fun c_25 => absurd c_25 (by rw [hg]; decide))
  refine lv_aload_n hx hb d_F_grow_38 rfl (lv_at hl 0 rfl) ?_
  refine mx_callN (c_R_moveOneBit G h h1 h2 A B n f g (hP.sub [3, 4, 5] rfl) (hD.sub [3, 4, 5] rfl rfl) hB1) hW (iv_F_grow_39 G hx hb hown hW (va_recv hK hP (ci := 2) (q0 := 3) rfl rfl) [] [] rfl) hml hl.1 (by rw [hb]; exact d_F_grow_39) (cd_R_moveOneBit G hW) ⟨Nat.le_of_ble_eq_true rfl, Nat.le_of_ble_eq_true rfl⟩ (Nat.le_of_ble_eq_true rfl) (Nat.le_of_ble_eq_true rfl) (Nat.le_of_ble_eq_true rfl) hS (Aa.mono (fun _ h => List.mem_append_right [xo, fa, ma] h) hS.1) (fun H locs hP2 _ hkp hS => ?_)
  have hP := va_P.join (ws1 := [(xo, .inr (3, [.ref fa, .ref ma])), (fa, aQ cF 4 fi), (ma, aQ cF 12 mk)]) (ws2 := [(h, .inr (2, [.int (nI A), .int (nI B), .int (nI n), .ref h1, .ref h2])), (h1, aN cI 256 f), (h2, aI cI 256 g)]) hP hD hP2 hkp rfl
  have hP : va_P D vcl [(xo, .inr (3, [.ref fa, .ref ma])), (fa, aQ cF 4 fi), (ma, aQ cF 12 mk), (h, .inr (2, [.int (nI (A + 1)), .int (nI (B - 1)), .int (nI n), .ref h1, .ref h2])), (h1, aN cI 256 f), (h2, aI cI 256 g)] H := hP
  have hD : va_D (Aa [xo, fa, ma, h, h1, h2] H0.size) [(xo, .inr (3, [.ref fa, .ref ma])), (fa, aQ cF 4 fi), (ma, aQ cF 12 mk), (h, .inr (2, [.int (nI (A + 1)), .int (nI (B - 1)), .int (nI n), .ref h1, .ref h2])), (h1, aN cI 256 f), (h2, aI cI 256 g)] := va_D.same2 [xo, fa, ma, h, h1, h2] hD rfl rfl
  exact mx_vret hx hb hr hlk d_F_grow_42 (Nat.le_of_ble_eq_true rfl) (Nat.le_of_ble_eq_true rfl) hS.2.2 (⟨rfl, hP⟩)

set_option maxHeartbeats 4000000 in
set_option maxRecDepth 100000 in
theorem c_F_grow_R_no {l : Launch} {s0 : State} {D : va_G} {cI cF cJ : ClassId} (G : Gx l s0 D cI cF cJ) (xo fa ma : Nat) (fi mk : Nat → Option Nat) (h h1 h2 A B n : Nat) (pv : Int32) (c0 f : Nat → Nat) (g : Nat → Int32) (j : Nat) {H0 : Heap} {A0 : Nat → Prop} (hP : va_P D vcl [(xo, .inr (3, [.ref fa, .ref ma])), (fa, aQ cF 4 fi), (ma, aQ cF 12 mk), (h, .inr (2, [.int (nI A), .int (nI B), .int (nI n), .ref h1, .ref h2])), (h1, aN cI 256 f), (h2, aI cI 256 g)] H0) (hD : va_D A0 [(xo, .inr (3, [.ref fa, .ref ma])), (fa, aQ cF 4 fi), (ma, aQ cF 12 mk), (h, .inr (2, [.int (nI A), .int (nI B), .int (nI n), .ref h1, .ref h2])), (h1, aN cI 256 f), (h2, aI cI 256 g)]) (hok : okS (3, A, B, nI n, pv, c0, n, f)) (hj : j < 4) (hfi : fi j = some h) (hon : onS s0 H0) (had : ∀ q ∈ [xo, fa, ma, h, h1, h2], s0.heap.size ≤ q) (hg : mbS (nI 3) (nI (A + 1)) (nI (B - 1)) = false) : Mx l s0 y_F_grow (.code y_F_grow b_F_grow 3 none) { frames := 7, cells := 1, slots := 6, locals := 160 } [.ref xo, .int (nI j)] H0 (Aa [xo, fa, ma, h, h1, h2] H0.size) (Rq s0 (some E_A) none (fun H1 => va_P D vcl [(xo, .inr (3, [.ref fa, .ref ma])), (fa, aQ cF 4 fi), (ma, aQ cF 12 mk), (h, .inr (2, [.int (nI A), .int (nI B), .int (nI n), .ref h1, .ref h2])), (h1, aN cI 256 f), (h2, aI cI 256 g)] H1)) := by
  refine Mx.ofW (own := "FewBits") rfl rfl ?_
  rintro p e s m below meth c ⟨hx, hb, hml, hr, hown, hW, hlk⟩ hnm het hH
  have hK := G.k hW
  have hD := hD.aa (sz := H0.size)
  have hD : va_D (Aa [xo, fa, ma, h, h1, h2] H0.size) [(xo, .inr (3, [.ref fa, .ref ma])), (fa, aQ cF 4 fi), (ma, aQ cF 12 mk), (h, .inr (2, [.int (nI A), .int (nI B), .int (nI n), .ref h1, .ref h2])), (h1, aN cI 256 f), (h2, aI cI 256 g)] := hD
  have hS : va_S (Aa [xo, fa, ma, h, h1, h2] H0.size) H0 H0 [] := va_S.rf
  have hq := (okS_3.mp hok).1
  have hA : A ≤ 8 := hq.2.1
  have hB1 : 1 ≤ B := by have := hq.2.2.1; omega
  have hB : B ≤ 20 := hq.2.2.2.1
  have hn := hq.n
  have hf := hq.lt28
  have hsr := hq.2.2.2.2.2.1
  have hfq := hq.q
  have hl := lv_entry ([.ref xo, .int (nI j)]) (n := 3) (Nat.le_of_ble_eq_true rfl)
  rw [lg_entry_eq]
  generalize (lg_sl ([.ref xo, .int (nI j)]) ++ List.replicate (3 - (lg_sl ([.ref xo, .int (nI j)])).length) Slot.unset).toArray = ls at hl ⊢
  have hl : lv_has ls 3 [(0, .ref xo), (1, .int (nI j))] := hl
  refine lv_aload_n hx hb d_F_grow_0 rfl (lv_at hl 0 rfl) ?_
  refine lv_iload_n hx hb d_F_grow_1 rfl (lv_at hl 1 rfl) ?_
  refine mx_callR (r := .ref h) (c_F_filterAt G xo fa ma fi mk j h (hP.sub [0, 1, 2] rfl) hj hfi) hW (iv_F_grow_2 G hx hb hown hW (va_recv hK hP (ci := 3) (q0 := 0) rfl rfl) [.int (nI j)] [] rfl) hml hl.1 (by rw [hb]; exact d_F_grow_2) (cd_F_filterAt G hW) ⟨Nat.le_of_ble_eq_true rfl, Nat.le_of_ble_eq_true rfl⟩ rfl rfl (Nat.le_of_ble_eq_true rfl) (Nat.le_of_ble_eq_true rfl) (Nat.le_of_ble_eq_true rfl) ?_
  refine mx_callR (r := .ref h) (c_F_asRuns_R G h h1 h2 A B n f g (hP.sub [3, 4, 5] rfl)) hW (iv_F_grow_5 G hx hb hown hW [.ref h] [] rfl) hml hl.1 (by rw [hb]; exact d_F_grow_5) (cd_F_asRuns G hW) ⟨Nat.le_of_ble_eq_true rfl, Nat.le_of_ble_eq_true rfl⟩ rfl rfl (Nat.le_of_ble_eq_true rfl) (Nat.le_of_ble_eq_true rfl) (Nat.le_of_ble_eq_true rfl) ?_
  refine lv_astore_n (lv' := [(2, .ref h), (0, .ref xo), (1, .int (nI j))]) hx hb d_F_grow_8 rfl hl (by decide) rfl (fun ls hl => ?_)
  refine lv_iconst (v := (nI 3)) hx hb d_F_grow_9 (by decide) ?_
  refine lv_aload_n hx hb d_F_grow_10 rfl (lv_at hl 0 rfl) ?_
  refine va_get (D := D) (ci := 2) (v := .int (nI A)) (C := R_R) (T := T_R) (N := 5) hx hb (us_R G hW) (fun _ h => h) hown hK hP 3 rfl rfl 0 (by decide) (fl_F_123 G hW) (u_same (args := ([.ref xo, .int (nI j)] : List Value).toArray) (G.1.at 174 rfl rfl _ hW)) rfl d_F_grow_11 ?_
  refine lv_iconst (v := (nI 1)) hx hb d_F_grow_14 (by decide) ?_
  refine lv_iadd hx hb d_F_grow_15 ?_
  refine tp_i (y := (nI (A + 1))) (nI_add _ _) ?_
  refine lv_aload_n hx hb d_F_grow_16 rfl (lv_at hl 0 rfl) ?_
  refine va_get (D := D) (ci := 2) (v := .int (nI B)) (C := R_R) (T := T_R) (N := 5) hx hb (us_R G hW) (fun _ h => h) hown hK hP 3 rfl rfl 1 (by decide) (fl_F_126 G hW) (u_same (args := ([.ref xo, .int (nI j)] : List Value).toArray) (G.1.at 183 rfl rfl _ hW)) rfl d_F_grow_17 ?_
  refine lv_iconst (v := (nI 1)) hx hb d_F_grow_20 (by decide) ?_
  refine lv_isub hx hb d_F_grow_21 ?_
  refine tp_i (y := (nI (B - 1))) (pk_sub hB1) ?_
  refine mx_callR (r := .int (bI (mbS (nI 3) (nI (A + 1)) (nI (B - 1))))) (c_F_mayBe G (nI 3) (nI (A + 1)) (nI (B - 1))) hW (iv_F_grow_22 G hx hb hown hW [.int (nI 3), .int (nI (A + 1)), .int (nI (B - 1))] [] rfl) hml hl.1 (by rw [hb]; exact d_F_grow_22) (cd_F_mayBe G hW) ⟨Nat.le_of_ble_eq_true rfl, Nat.le_of_ble_eq_true rfl⟩ rfl rfl (Nat.le_of_ble_eq_true rfl) (Nat.le_of_ble_eq_true rfl) (Nat.le_of_ble_eq_true rfl) ?_
  refine lv_if_ne (tgt := 38) hx hb d_F_grow_25 (by decide) (fun c_25 => absurd (by rw [hg]; rfl) c_25) (fun c_25 => ?_)
  exact mx_throw (rest := []) G hx hb hW hown (th_A G) (str_at G 635 rfl hW) (hon.go had hS) (hl.1.trans hml.symm) het hlk d_F_grow_28 d_F_grow_31 d_F_grow_32 d_F_grow_34 d_F_grow_37 (Nat.le_of_ble_eq_true rfl) (Nat.le_of_ble_eq_true rfl) (Nat.le_of_ble_eq_true rfl) (Nat.le_of_ble_eq_true rfl) (Nat.le_of_ble_eq_true rfl) (Nat.le_of_ble_eq_true rfl) (fun _ h => nomatch h) (fun H1 q hz hk ho => ⟨⟨q, rfl, ho⟩, va_P.ext hP hk⟩)

set_option maxHeartbeats 4000000 in
set_option maxRecDepth 100000 in
theorem c_F_cell_no {l : Launch} {s0 : State} {D : va_G} {cI cF cJ : ClassId} (G : Gx l s0 D cI cF cJ) (xo fa ma : Nat) (fi mk : Nat → Option Nat) (v iv : Int32) {H0 : Heap} (hP : va_P D vcl [(xo, .inr (3, [.ref fa, .ref ma])), (fa, aQ cF 4 fi), (ma, aQ cF 12 mk)] H0) (hv : isNum v = false) (hon : onS s0 H0) : Mx l s0 y_F_cell (.code y_F_cell b_F_cell 4 (some .int)) { frames := 7, cells := 1, slots := 6, locals := 160 } [.ref xo, .int v, .int iv] H0 (fun _ => False) (Rq s0 (some E_S) none (fun _ => True)) := by
  refine Mx.ofW (own := "FewBits") rfl rfl ?_
  rintro p e s m below meth c ⟨hx, hb, hml, hr, hown, hW, hlk⟩ hnm het hH
  have hK := G.k hW
  have hl := lv_entry ([.ref xo, .int v, .int iv]) (n := 4) (Nat.le_of_ble_eq_true rfl)
  rw [lg_entry_eq]
  generalize (lg_sl ([.ref xo, .int v, .int iv]) ++ List.replicate (4 - (lg_sl ([.ref xo, .int v, .int iv])).length) Slot.unset).toArray = ls at hl ⊢
  have hl : lv_has ls 4 [(0, .ref xo), (1, .int v), (2, .int iv)] := hl
  refine lv_iload_n hx hb d_F_cell_0 rfl (lv_at hl 1 rfl) ?_
  refine mx_callR (r := .int (bI (isNum v))) (c_F_isNumber G v) hW (iv_F_cell_1 G hx hb hown hW [.int v] [] rfl) hml hl.1 (by rw [hb]; exact d_F_cell_1) (cd_F_isNumber G hW) ⟨Nat.le_of_ble_eq_true rfl, Nat.le_of_ble_eq_true rfl⟩ rfl rfl (Nat.le_of_ble_eq_true rfl) (Nat.le_of_ble_eq_true rfl) (Nat.le_of_ble_eq_true rfl) ?_
  refine lv_if_eq (tgt := 16) hx hb d_F_cell_4 (by decide) (fun c_4 => ?_) (fun c_4 => absurd (by rw [hv]; rfl) c_4)
  exact mx_throw (rest := []) G hx hb hW hown (th_S G) (str_at G 284 rfl hW) hon (hl.1.trans hml.symm) het hlk d_F_cell_16 d_F_cell_19 d_F_cell_20 d_F_cell_22 d_F_cell_25 (Nat.le_of_ble_eq_true rfl) (Nat.le_of_ble_eq_true rfl) (Nat.le_of_ble_eq_true rfl) (Nat.le_of_ble_eq_true rfl) (Nat.le_of_ble_eq_true rfl) (Nat.le_of_ble_eq_true rfl) (fun _ h => nomatch h) (fun H1 q hz hk ho => ⟨⟨q, rfl, ho⟩, trivial⟩)

set_option maxHeartbeats 4000000 in
set_option maxRecDepth 100000 in
theorem c_F_cell_none {l : Launch} {s0 : State} {D : va_G} {cI cF cJ : ClassId} (G : Gx l s0 D cI cF cJ) (xo fa ma : Nat) (fi mk : Nat → Option Nat) (j : Nat) (iv : Int32) {H0 : Heap} (hP : va_P D vcl [(xo, .inr (3, [.ref fa, .ref ma])), (fa, aQ cF 4 fi), (ma, aQ cF 12 mk)] H0) (hj : j < 4) (hfi : fi j = none) (hon : onS s0 H0) : Mx l s0 y_F_cell (.code y_F_cell b_F_cell 4 (some .int)) { frames := 7, cells := 1, slots := 6, locals := 160 } [.ref xo, .int (nI j), .int iv] H0 (fun _ => False) (Rq s0 (some E_S) none (fun _ => True)) := by
  refine Mx.ofW (own := "FewBits") rfl rfl ?_
  rintro p e s m below meth c ⟨hx, hb, hml, hr, hown, hW, hlk⟩ hnm het hH
  have hK := G.k hW
  have hl := lv_entry ([.ref xo, .int (nI j), .int iv]) (n := 4) (Nat.le_of_ble_eq_true rfl)
  rw [lg_entry_eq]
  generalize (lg_sl ([.ref xo, .int (nI j), .int iv]) ++ List.replicate (4 - (lg_sl ([.ref xo, .int (nI j), .int iv])).length) Slot.unset).toArray = ls at hl ⊢
  have hl : lv_has ls 4 [(0, .ref xo), (1, .int (nI j)), (2, .int iv)] := hl
  refine lv_iload_n hx hb d_F_cell_0 rfl (lv_at hl 1 rfl) ?_
  refine mx_callR (r := .int (bI (isNum (nI j)))) (c_F_isNumber G (nI j)) hW (iv_F_cell_1 G hx hb hown hW [.int (nI j)] [] rfl) hml hl.1 (by rw [hb]; exact d_F_cell_1) (cd_F_isNumber G hW) ⟨Nat.le_of_ble_eq_true rfl, Nat.le_of_ble_eq_true rfl⟩ rfl rfl (Nat.le_of_ble_eq_true rfl) (Nat.le_of_ble_eq_true rfl) (Nat.le_of_ble_eq_true rfl) ?_
  refine lv_if_eq (tgt := 16) hx hb d_F_cell_4 (by decide) (fun c_4 => absurd c_4 (by rw [isNum_nI hj]; decide)) (fun c_4 => ?_)
  refine lv_aload_n hx hb d_F_cell_7 rfl (lv_at hl 0 rfl) ?_
  refine va_get (D := D) (ci := 3) (v := .ref fa) (C := R_F) (T := T_F) (N := 2) hx hb (us_F G hW) (fun _ h => h) hown hK hP 0 rfl rfl 0 (by decide) (fl_F_11 G hW) (fun _ h9 => h9) rfl d_F_cell_8 ?_
  refine lv_iload_n hx hb d_F_cell_11 rfl (lv_at hl 1 rfl) ?_
  refine qa_ld hx hb hK hP 1 (j := j) rfl (hj) (by decide) d_F_cell_12 ?_
  refine tp_v (y := .null) (by rw [hfi]; rfl) ?_
  refine lv_ifnonnullN hx hb d_F_cell_13 ?_
  exact mx_throw (rest := []) G hx hb hW hown (th_S G) (str_at G 284 rfl hW) hon (hl.1.trans hml.symm) het hlk d_F_cell_16 d_F_cell_19 d_F_cell_20 d_F_cell_22 d_F_cell_25 (Nat.le_of_ble_eq_true rfl) (Nat.le_of_ble_eq_true rfl) (Nat.le_of_ble_eq_true rfl) (Nat.le_of_ble_eq_true rfl) (Nat.le_of_ble_eq_true rfl) (Nat.le_of_ble_eq_true rfl) (fun _ h => nomatch h) (fun H1 q hz hk ho => ⟨⟨q, rfl, ho⟩, trivial⟩)

set_option maxHeartbeats 4000000 in
set_option maxRecDepth 100000 in
theorem c_F_make_no {l : Launch} {s0 : State} {D : va_G} {cI cF cJ : ClassId} (G : Gx l s0 D cI cF cJ) (xo fa ma : Nat) (fi mk : Nat → Option Nat) (v k9 a b : Int32) {H0 : Heap} (hP : va_P D vcl [(xo, .inr (3, [.ref fa, .ref ma])), (fa, aQ cF 4 fi), (ma, aQ cF 12 mk)] H0) (hv : isNum v = false) (hon : onS s0 H0) : Mx l s0 y_F_make (.code y_F_make b_F_make 6 none) { frames := 7, cells := 1, slots := 6, locals := 160 } [.ref xo, .int v, .int k9, .int a, .int b] H0 (fun _ => False) (Rq s0 (some E_I) none (fun _ => True)) := by
  refine Mx.ofW (own := "FewBits") rfl rfl ?_
  rintro p e s m below meth c ⟨hx, hb, hml, hr, hown, hW, hlk⟩ hnm het hH
  have hK := G.k hW
  have hl := lv_entry ([.ref xo, .int v, .int k9, .int a, .int b]) (n := 6) (Nat.le_of_ble_eq_true rfl)
  rw [lg_entry_eq]
  generalize (lg_sl ([.ref xo, .int v, .int k9, .int a, .int b]) ++ List.replicate (6 - (lg_sl ([.ref xo, .int v, .int k9, .int a, .int b])).length) Slot.unset).toArray = ls at hl ⊢
  have hl : lv_has ls 6 [(0, .ref xo), (1, .int v), (2, .int k9), (3, .int a), (4, .int b)] := hl
  refine lv_iload_n hx hb d_F_make_0 rfl (lv_at hl 1 rfl) ?_
  exact mx_callT (c_F_requireNumber_no G v hv hon) hW (iv_F_make_1 G hx hb hown hW [.int v] [] rfl) hml hl.1 (by rw [hb]; exact d_F_make_1) (cd_F_requireNumber G hW) ⟨Nat.le_of_ble_eq_true rfl, Nat.le_of_ble_eq_true rfl⟩ (Nat.le_of_ble_eq_true rfl) (Nat.le_of_ble_eq_true rfl) (Nat.le_of_ble_eq_true rfl) het hlk (Nat.le_of_ble_eq_true rfl) (Nat.le_of_ble_eq_true rfl) (fun _ h => nomatch h) (fun _ h => h.elim) (fun H1 q hz hk hp ho => ⟨⟨q, rfl, ho⟩, trivial⟩)

set_option maxHeartbeats 4000000 in
set_option maxRecDepth 100000 in
theorem c_F_make_bad {l : Launch} {s0 : State} {D : va_G} {cI cF cJ : ClassId} (G : Gx l s0 D cI cF cJ) (xo fa ma : Nat) (fi mk : Nat → Option Nat) (j : Nat) (k9 a b : Int32) {H0 : Heap} (hP : va_P D vcl [(xo, .inr (3, [.ref fa, .ref ma])), (fa, aQ cF 4 fi), (ma, aQ cF 12 mk)] H0) (hj : j < 4) (hm : mbS k9 a b = false) (hon : onS s0 H0) : Mx l s0 y_F_make (.code y_F_make b_F_make 6 none) { frames := 7, cells := 1, slots := 6, locals := 160 } [.ref xo, .int (nI j), .int k9, .int a, .int b] H0 (fun _ => False) (Rq s0 (some E_A) none (fun _ => True)) := by
  refine Mx.ofW (own := "FewBits") rfl rfl ?_
  rintro p e s m below meth c ⟨hx, hb, hml, hr, hown, hW, hlk⟩ hnm het hH
  have hK := G.k hW
  have hl := lv_entry ([.ref xo, .int (nI j), .int k9, .int a, .int b]) (n := 6) (Nat.le_of_ble_eq_true rfl)
  rw [lg_entry_eq]
  generalize (lg_sl ([.ref xo, .int (nI j), .int k9, .int a, .int b]) ++ List.replicate (6 - (lg_sl ([.ref xo, .int (nI j), .int k9, .int a, .int b])).length) Slot.unset).toArray = ls at hl ⊢
  have hl : lv_has ls 6 [(0, .ref xo), (1, .int (nI j)), (2, .int k9), (3, .int a), (4, .int b)] := hl
  refine lv_iload_n hx hb d_F_make_0 rfl (lv_at hl 1 rfl) ?_
  refine mx_callV (c_F_requireNumber_ok G (nI j) (isNum_nI hj)) hW (iv_F_make_1 G hx hb hown hW [.int (nI j)] [] rfl) hml hl.1 (by rw [hb]; exact d_F_make_1) (cd_F_requireNumber G hW) ⟨Nat.le_of_ble_eq_true rfl, Nat.le_of_ble_eq_true rfl⟩ rfl rfl (Nat.le_of_ble_eq_true rfl) (Nat.le_of_ble_eq_true rfl) (Nat.le_of_ble_eq_true rfl) ?_
  refine lv_iload_n hx hb d_F_make_4 rfl (lv_at hl 2 rfl) ?_
  refine lv_iload_n hx hb d_F_make_5 rfl (lv_at hl 3 rfl) ?_
  refine lv_iload hx hb d_F_make_6 (lv_at hl 4 rfl) ?_
  refine mx_callR (r := .int (bI (mbS k9 a b))) (c_F_mayBe G k9 a b) hW (iv_F_make_8 G hx hb hown hW [.int k9, .int a, .int b] [] rfl) hml hl.1 (by rw [hb]; exact d_F_make_8) (cd_F_mayBe G hW) ⟨Nat.le_of_ble_eq_true rfl, Nat.le_of_ble_eq_true rfl⟩ rfl rfl (Nat.le_of_ble_eq_true rfl) (Nat.le_of_ble_eq_true rfl) (Nat.le_of_ble_eq_true rfl) ?_
  refine lv_if_ne (tgt := 24) hx hb d_F_make_11 (by decide) (fun c_11 => absurd (by rw [hm]; rfl) c_11) (fun c_11 => ?_)
  exact mx_throw (rest := []) G hx hb hW hown (th_A G) (str_at G 145 rfl hW) hon (hl.1.trans hml.symm) het hlk d_F_make_14 d_F_make_17 d_F_make_18 d_F_make_20 d_F_make_23 (Nat.le_of_ble_eq_true rfl) (Nat.le_of_ble_eq_true rfl) (Nat.le_of_ble_eq_true rfl) (Nat.le_of_ble_eq_true rfl) (Nat.le_of_ble_eq_true rfl) (Nat.le_of_ble_eq_true rfl) (fun _ h => nomatch h) (fun H1 q hz hk ho => ⟨⟨q, rfl, ho⟩, trivial⟩)

set_option maxHeartbeats 4000000 in
set_option maxRecDepth 100000 in
theorem c_F_make_C_old {l : Launch} {s0 : State} {D : va_G} {cI cF cJ : ClassId} (G : Gx l s0 D cI cF cJ) (xo fa ma : Nat) (fi mk : Nat → Option Nat) (h h1 h2 h3 : Nat) (av bv hd : Int32) (A B : Nat) (cs pl pb : Nat → Nat) (j : Nat) {H0 : Heap} {A0 : Nat → Prop} (hP : va_P D vcl [(xo, .inr (3, [.ref fa, .ref ma])), (fa, aQ cF 4 fi), (ma, aQ cF 12 mk), (h, .inr (0, [.int av, .int bv, .int hd, .ref h1, .ref h2, .ref h3])), (h1, aN cI 1024 cs), (h2, aN cI 6 pl), (h3, aN cI 6 pb)] H0) (hD : va_D A0 [(xo, .inr (3, [.ref fa, .ref ma])), (fa, aQ cF 4 fi), (ma, aQ cF 12 mk), (h, .inr (0, [.int av, .int bv, .int hd, .ref h1, .ref h2, .ref h3])), (h1, aN cI 1024 cs), (h2, aN cI 6 pl), (h3, aN cI 6 pb)]) (hj : j < 4) (hmk : mk (j * 3 + 1 - 1) = some h) (hm : mbS (nI 1) (nI A) (nI B) = true) : Mx l s0 y_F_make (.code y_F_make b_F_make 6 none) { frames := 7, cells := 0, slots := 0, locals := 160 } [.ref xo, .int (nI j), .int (nI 1), .int (nI A), .int (nI B)] H0 (Aa [xo, fa, ma, h, h1, h2, h3] H0.size) (Rq s0 none none (fun H1 => va_P D vcl [(xo, .inr (3, [.ref fa, .ref ma])), (fa, aQ cF 4 (va_up fi j (some h))), (ma, aQ cF 12 mk), (h, .inr (0, [.int (nI A), .int (nI B), .int (nI 0), .ref h1, .ref h2, .ref h3])), (h1, aN cI 1024 (fun _ => 0)), (h2, aN cI 6 pl), (h3, aN cI 6 pb)] H1)) := by
  refine Mx.ofW (own := "FewBits") rfl rfl ?_
  rintro p e s m below meth c ⟨hx, hb, hml, hr, hown, hW, hlk⟩ hnm het hH
  have hK := G.k hW
  have hD := hD.aa (sz := H0.size)
  have hD : va_D (Aa [xo, fa, ma, h, h1, h2, h3] H0.size) [(xo, .inr (3, [.ref fa, .ref ma])), (fa, aQ cF 4 fi), (ma, aQ cF 12 mk), (h, .inr (0, [.int av, .int bv, .int hd, .ref h1, .ref h2, .ref h3])), (h1, aN cI 1024 cs), (h2, aN cI 6 pl), (h3, aN cI 6 pb)] := hD
  have hS : va_S (Aa [xo, fa, ma, h, h1, h2, h3] H0.size) H0 H0 [] := va_S.rf
  have hl := lv_entry ([.ref xo, .int (nI j), .int (nI 1), .int (nI A), .int (nI B)]) (n := 6) (Nat.le_of_ble_eq_true rfl)
  rw [lg_entry_eq]
  generalize (lg_sl ([.ref xo, .int (nI j), .int (nI 1), .int (nI A), .int (nI B)]) ++ List.replicate (6 - (lg_sl ([.ref xo, .int (nI j), .int (nI 1), .int (nI A), .int (nI B)])).length) Slot.unset).toArray = ls at hl ⊢
  have hl : lv_has ls 6 [(0, .ref xo), (1, .int (nI j)), (2, .int (nI 1)), (3, .int (nI A)), (4, .int (nI B))] := hl
  refine lv_iload_n hx hb d_F_make_0 rfl (lv_at hl 1 rfl) ?_
  refine mx_callV (c_F_requireNumber_ok G (nI j) (isNum_nI hj)) hW (iv_F_make_1 G hx hb hown hW [.int (nI j)] [] rfl) hml hl.1 (by rw [hb]; exact d_F_make_1) (cd_F_requireNumber G hW) ⟨Nat.le_of_ble_eq_true rfl, Nat.le_of_ble_eq_true rfl⟩ rfl rfl (Nat.le_of_ble_eq_true rfl) (Nat.le_of_ble_eq_true rfl) (Nat.le_of_ble_eq_true rfl) ?_
  refine lv_iload_n hx hb d_F_make_4 rfl (lv_at hl 2 rfl) ?_
  refine lv_iload_n hx hb d_F_make_5 rfl (lv_at hl 3 rfl) ?_
  refine lv_iload hx hb d_F_make_6 (lv_at hl 4 rfl) ?_
  refine mx_callR (r := .int (bI (mbS (nI 1) (nI A) (nI B)))) (c_F_mayBe G (nI 1) (nI A) (nI B)) hW (iv_F_make_8 G hx hb hown hW [.int (nI 1), .int (nI A), .int (nI B)] [] rfl) hml hl.1 (by rw [hb]; exact d_F_make_8) (cd_F_mayBe G hW) ⟨Nat.le_of_ble_eq_true rfl, Nat.le_of_ble_eq_true rfl⟩ rfl rfl (Nat.le_of_ble_eq_true rfl) (Nat.le_of_ble_eq_true rfl) (Nat.le_of_ble_eq_true rfl) ?_
  refine lv_if_ne (tgt := 24) hx hb d_F_make_11 (by decide) (fun c_11 => ?_) (fun c_11 => absurd c_11 (by rw [hm]; decide))
  refine lv_aload_n hx hb d_F_make_24 rfl (lv_at hl 0 rfl) ?_
  refine lv_iload_n hx hb d_F_make_25 rfl (lv_at hl 1 rfl) ?_
  refine lv_iload_n hx hb d_F_make_26 rfl (lv_at hl 2 rfl) ?_
  refine mx_callR (r := .ref h) (c_F_filterFor_C_old G xo fa ma fi mk j h (hP.sub [0, 1, 2] rfl) hj hmk) hW (iv_F_make_27 G hx hb hown hW (va_recv hK hP (ci := 3) (q0 := 0) rfl rfl) [.int (nI j), .int (nI 1)] [] rfl) hml hl.1 (by rw [hb]; exact d_F_make_27) (cd_F_filterFor G hW) ⟨Nat.le_of_ble_eq_true rfl, Nat.le_of_ble_eq_true rfl⟩ rfl rfl (Nat.le_of_ble_eq_true rfl) (Nat.le_of_ble_eq_true rfl) (Nat.le_of_ble_eq_true rfl) ?_
  refine lv_astore (lv' := [(5, .ref h), (0, .ref xo), (1, .int (nI j)), (2, .int (nI 1)), (3, .int (nI A)), (4, .int (nI B))]) hx hb d_F_make_30 hl (by decide) rfl (fun ls hl => ?_)
  refine lv_aload hx hb d_F_make_32 (lv_at hl 0 rfl) ?_
  refine lv_iload_n hx hb d_F_make_34 rfl (lv_at hl 4 rfl) ?_
  refine lv_iload hx hb d_F_make_35 (lv_at hl 5 rfl) ?_
  refine mx_callN (c_P_begin_C G h h1 h2 h3 av bv hd A B cs pl pb (hP.sub [3, 4, 5, 6] rfl) (hD.sub [3, 4, 5, 6] rfl rfl)) hW (iv_F_make_37_C G hx hb hown hW (va_recv hK hP (ci := 0) (q0 := 3) rfl rfl) [.int (nI A), .int (nI B)] [] rfl) hml hl.1 (by rw [hb]; exact d_F_make_37) (cd_P_begin G hW) ⟨Nat.le_of_ble_eq_true rfl, Nat.le_of_ble_eq_true rfl⟩ (Nat.le_of_ble_eq_true rfl) (Nat.le_of_ble_eq_true rfl) (Nat.le_of_ble_eq_true rfl) hS (Aa.mono (fun _ h => List.mem_append_right [xo, fa, ma] h) hS.1) (fun H locs hP2 _ hkp hS => ?_)
  have hP := va_P.join (ws1 := [(xo, .inr (3, [.ref fa, .ref ma])), (fa, aQ cF 4 fi), (ma, aQ cF 12 mk)]) (ws2 := [(h, .inr (0, [.int av, .int bv, .int hd, .ref h1, .ref h2, .ref h3])), (h1, aN cI 1024 cs), (h2, aN cI 6 pl), (h3, aN cI 6 pb)]) hP hD hP2 hkp rfl
  have hP : va_P D vcl [(xo, .inr (3, [.ref fa, .ref ma])), (fa, aQ cF 4 fi), (ma, aQ cF 12 mk), (h, .inr (0, [.int (nI A), .int (nI B), .int (nI 0), .ref h1, .ref h2, .ref h3])), (h1, aN cI 1024 (fun _ => 0)), (h2, aN cI 6 pl), (h3, aN cI 6 pb)] H := hP
  have hD : va_D (Aa [xo, fa, ma, h, h1, h2, h3] H0.size) [(xo, .inr (3, [.ref fa, .ref ma])), (fa, aQ cF 4 fi), (ma, aQ cF 12 mk), (h, .inr (0, [.int (nI A), .int (nI B), .int (nI 0), .ref h1, .ref h2, .ref h3])), (h1, aN cI 1024 (fun _ => 0)), (h2, aN cI 6 pl), (h3, aN cI 6 pb)] := va_D.same2 [xo, fa, ma, h, h1, h2, h3] hD rfl rfl
  refine lv_aload_n hx hb d_F_make_40 rfl (lv_at hl 1 rfl) ?_
  refine va_get (D := D) (ci := 3) (v := .ref fa) (C := R_F) (T := T_F) (N := 2) hx hb (us_F G hW) (fun _ h => h) hown hK hP 0 rfl rfl 0 (by decide) (fl_F_11 G hW) (fun _ h9 => h9) rfl d_F_make_41 ?_
  refine lv_iload_n hx hb d_F_make_44 rfl (lv_at hl 2 rfl) ?_
  refine lv_aload hx hb d_F_make_45 (lv_at hl 0 rfl) ?_
  refine qa_st hx hb hK hP hD hS 1 3 0 (j := j) rfl (ca_C G hW) rfl rfl (hj) (by decide) d_F_make_47 (fun H locs hP hD hS => ?_)
  have hP : va_P D vcl [(xo, .inr (3, [.ref fa, .ref ma])), (fa, aQ cF 4 (va_up fi j (some h))), (ma, aQ cF 12 mk), (h, .inr (0, [.int (nI A), .int (nI B), .int (nI 0), .ref h1, .ref h2, .ref h3])), (h1, aN cI 1024 (fun _ => 0)), (h2, aN cI 6 pl), (h3, aN cI 6 pb)] H := hP
  have hD : va_D (Aa [xo, fa, ma, h, h1, h2, h3] H0.size) [(xo, .inr (3, [.ref fa, .ref ma])), (fa, aQ cF 4 (va_up fi j (some h))), (ma, aQ cF 12 mk), (h, .inr (0, [.int (nI A), .int (nI B), .int (nI 0), .ref h1, .ref h2, .ref h3])), (h1, aN cI 1024 (fun _ => 0)), (h2, aN cI 6 pl), (h3, aN cI 6 pb)] := hD
  exact mx_vret hx hb hr hlk d_F_make_48 (Nat.le_of_ble_eq_true rfl) (Nat.le_of_ble_eq_true rfl) hS.2.2 (⟨rfl, hP⟩)

set_option maxHeartbeats 4000000 in
set_option maxRecDepth 100000 in
theorem c_F_make_C_new {l : Launch} {s0 : State} {D : va_G} {cI cF cJ : ClassId} (G : Gx l s0 D cI cF cJ) (xo fa ma : Nat) (fi mk : Nat → Option Nat) (A B j : Nat) {H0 : Heap} {A0 : Nat → Prop} (hP : va_P D vcl [(xo, .inr (3, [.ref fa, .ref ma])), (fa, aQ cF 4 fi), (ma, aQ cF 12 mk)] H0) (hD : va_D A0 [(xo, .inr (3, [.ref fa, .ref ma])), (fa, aQ cF 4 fi), (ma, aQ cF 12 mk)]) (hj : j < 4) (hmk : mk (j * 3 + 1 - 1) = none) (hm : mbS (nI 1) (nI A) (nI B) = true) : Mx l s0 y_F_make (.code y_F_make b_F_make 6 none) { frames := 7, cells := 4, slots := 1042, locals := 160 } [.ref xo, .int (nI j), .int (nI 1), .int (nI A), .int (nI B)] H0 (Aa [xo, fa, ma] H0.size) (Rq s0 none none (fun H1 => ∃ h h1 h2 h3 : Nat, va_P D vcl [(xo, .inr (3, [.ref fa, .ref ma])), (fa, aQ cF 4 (va_up fi j (some h))), (ma, aQ cF 12 (va_up mk (j * 3 + 1 - 1) (some h))), (h, .inr (0, [.int (nI A), .int (nI B), .int (nI 0), .ref h1, .ref h2, .ref h3])), (h1, aN cI 1024 (fun _ => 0)), (h2, aN cI 6 (fun _ => 0)), (h3, aN cI 6 (fun _ => 0))] H1 ∧ va_D (fun q => H0.size ≤ q) [(h, .inr (0, [.int (nI A), .int (nI B), .int (nI 0), .ref h1, .ref h2, .ref h3])), (h1, aN cI 1024 (fun _ => 0)), (h2, aN cI 6 (fun _ => 0)), (h3, aN cI 6 (fun _ => 0))])) := by
  refine Mx.ofW (own := "FewBits") rfl rfl ?_
  rintro p e s m below meth c ⟨hx, hb, hml, hr, hown, hW, hlk⟩ hnm het hH
  have hK := G.k hW
  have hD := hD.aa (sz := H0.size)
  have hD : va_D (Aa [xo, fa, ma] H0.size) [(xo, .inr (3, [.ref fa, .ref ma])), (fa, aQ cF 4 fi), (ma, aQ cF 12 mk)] := hD
  have hS : va_S (Aa [xo, fa, ma] H0.size) H0 H0 [] := va_S.rf
  have hl := lv_entry ([.ref xo, .int (nI j), .int (nI 1), .int (nI A), .int (nI B)]) (n := 6) (Nat.le_of_ble_eq_true rfl)
  rw [lg_entry_eq]
  generalize (lg_sl ([.ref xo, .int (nI j), .int (nI 1), .int (nI A), .int (nI B)]) ++ List.replicate (6 - (lg_sl ([.ref xo, .int (nI j), .int (nI 1), .int (nI A), .int (nI B)])).length) Slot.unset).toArray = ls at hl ⊢
  have hl : lv_has ls 6 [(0, .ref xo), (1, .int (nI j)), (2, .int (nI 1)), (3, .int (nI A)), (4, .int (nI B))] := hl
  refine lv_iload_n hx hb d_F_make_0 rfl (lv_at hl 1 rfl) ?_
  refine mx_callV (c_F_requireNumber_ok G (nI j) (isNum_nI hj)) hW (iv_F_make_1 G hx hb hown hW [.int (nI j)] [] rfl) hml hl.1 (by rw [hb]; exact d_F_make_1) (cd_F_requireNumber G hW) ⟨Nat.le_of_ble_eq_true rfl, Nat.le_of_ble_eq_true rfl⟩ rfl rfl (Nat.le_of_ble_eq_true rfl) (Nat.le_of_ble_eq_true rfl) (Nat.le_of_ble_eq_true rfl) ?_
  refine lv_iload_n hx hb d_F_make_4 rfl (lv_at hl 2 rfl) ?_
  refine lv_iload_n hx hb d_F_make_5 rfl (lv_at hl 3 rfl) ?_
  refine lv_iload hx hb d_F_make_6 (lv_at hl 4 rfl) ?_
  refine mx_callR (r := .int (bI (mbS (nI 1) (nI A) (nI B)))) (c_F_mayBe G (nI 1) (nI A) (nI B)) hW (iv_F_make_8 G hx hb hown hW [.int (nI 1), .int (nI A), .int (nI B)] [] rfl) hml hl.1 (by rw [hb]; exact d_F_make_8) (cd_F_mayBe G hW) ⟨Nat.le_of_ble_eq_true rfl, Nat.le_of_ble_eq_true rfl⟩ rfl rfl (Nat.le_of_ble_eq_true rfl) (Nat.le_of_ble_eq_true rfl) (Nat.le_of_ble_eq_true rfl) ?_
  refine lv_if_ne (tgt := 24) hx hb d_F_make_11 (by decide) (fun c_11 => ?_) (fun c_11 => absurd c_11 (by rw [hm]; decide))
  refine lv_aload_n hx hb d_F_make_24 rfl (lv_at hl 0 rfl) ?_
  refine lv_iload_n hx hb d_F_make_25 rfl (lv_at hl 1 rfl) ?_
  refine lv_iload_n hx hb d_F_make_26 rfl (lv_at hl 2 rfl) ?_
  refine mx_callG (c_F_filterFor_C_new G xo fa ma fi mk j hP hD hj hmk) hW (iv_F_make_27 G hx hb hown hW (va_recv hK hP (ci := 3) (q0 := 0) rfl rfl) [.int (nI j), .int (nI 1)] [] rfl) hml hl.1 (by rw [hb]; exact d_F_make_27) (cd_F_filterFor G hW) ⟨Nat.le_of_ble_eq_true rfl, Nat.le_of_ble_eq_true rfl⟩ (Nat.le_of_ble_eq_true rfl) (Nat.le_of_ble_eq_true rfl) (Nat.le_of_ble_eq_true rfl) hS (Aa.mono (fun _ h => h) hS.1) (fun q H1 h9 => by obtain ⟨_, _, _, _, h8, _⟩ := h9; cases h8) (fun v9 H1 locs hq hsz hkp hS => ?_)
  obtain ⟨h, h1, h2, h3, e9, hP, hD, hDn⟩ := hq
  cases e9
  refine W.eq (g2 := F0 m 30 ls [.ref h]) rfl ?_
  have hP : va_P D vcl [(xo, .inr (3, [.ref fa, .ref ma])), (fa, aQ cF 4 fi), (ma, aQ cF 12 (va_up mk (j * 3 + 1 - 1) (some h))), (h, .inr (0, [.int 0, .int 0, .int 0, .ref h1, .ref h2, .ref h3])), (h1, aN cI 1024 (fun _ => 0)), (h2, aN cI 6 (fun _ => 0)), (h3, aN cI 6 (fun _ => 0))] H1 := hP
  have hD : va_D (Aa [xo, fa, ma] H0.size) [(xo, .inr (3, [.ref fa, .ref ma])), (fa, aQ cF 4 fi), (ma, aQ cF 12 (va_up mk (j * 3 + 1 - 1) (some h))), (h, .inr (0, [.int 0, .int 0, .int 0, .ref h1, .ref h2, .ref h3])), (h1, aN cI 1024 (fun _ => 0)), (h2, aN cI 6 (fun _ => 0)), (h3, aN cI 6 (fun _ => 0))] := hD
  refine lv_astore (lv' := [(5, .ref h), (0, .ref xo), (1, .int (nI j)), (2, .int (nI 1)), (3, .int (nI A)), (4, .int (nI B))]) hx hb d_F_make_30 hl (by decide) rfl (fun ls hl => ?_)
  refine lv_aload hx hb d_F_make_32 (lv_at hl 0 rfl) ?_
  refine lv_iload_n hx hb d_F_make_34 rfl (lv_at hl 4 rfl) ?_
  refine lv_iload hx hb d_F_make_35 (lv_at hl 5 rfl) ?_
  refine mx_callN (c_P_begin_C G h h1 h2 h3 0 0 0 A B (fun _ => 0) (fun _ => 0) (fun _ => 0) (hP.sub [3, 4, 5, 6] rfl) (hD.sub [3, 4, 5, 6] rfl rfl)) hW (iv_F_make_37_C G hx hb hown hW (va_recv hK hP (ci := 0) (q0 := 3) rfl rfl) [.int (nI A), .int (nI B)] [] rfl) hml hl.1 (by rw [hb]; exact d_F_make_37) (cd_P_begin G hW) ⟨Nat.le_of_ble_eq_true rfl, Nat.le_of_ble_eq_true rfl⟩ (Nat.le_of_ble_eq_true rfl) (Nat.le_of_ble_eq_true rfl) (Nat.le_of_ble_eq_true rfl) hS (fun q h9 => h9.elim (fun h8 => Or.inr ((va_D.mem hDn (by exact h8)))) (fun h8 => Or.inr (Nat.le_trans hS.1 h8))) (fun H locs hP2 _ hkp hS => ?_)
  have hP := va_P.join (ws1 := [(xo, .inr (3, [.ref fa, .ref ma])), (fa, aQ cF 4 fi), (ma, aQ cF 12 (va_up mk (j * 3 + 1 - 1) (some h)))]) (ws2 := [(h, .inr (0, [.int 0, .int 0, .int 0, .ref h1, .ref h2, .ref h3])), (h1, aN cI 1024 (fun _ => 0)), (h2, aN cI 6 (fun _ => 0)), (h3, aN cI 6 (fun _ => 0))]) hP hD hP2 hkp rfl
  have hP : va_P D vcl [(xo, .inr (3, [.ref fa, .ref ma])), (fa, aQ cF 4 fi), (ma, aQ cF 12 (va_up mk (j * 3 + 1 - 1) (some h))), (h, .inr (0, [.int (nI A), .int (nI B), .int (nI 0), .ref h1, .ref h2, .ref h3])), (h1, aN cI 1024 (fun _ => 0)), (h2, aN cI 6 (fun _ => 0)), (h3, aN cI 6 (fun _ => 0))] H := hP
  have hD : va_D (Aa [xo, fa, ma] H0.size) [(xo, .inr (3, [.ref fa, .ref ma])), (fa, aQ cF 4 fi), (ma, aQ cF 12 (va_up mk (j * 3 + 1 - 1) (some h))), (h, .inr (0, [.int (nI A), .int (nI B), .int (nI 0), .ref h1, .ref h2, .ref h3])), (h1, aN cI 1024 (fun _ => 0)), (h2, aN cI 6 (fun _ => 0)), (h3, aN cI 6 (fun _ => 0))] := va_D.same2 [xo, fa, ma, h, h1, h2, h3] hD rfl rfl
  refine lv_aload_n hx hb d_F_make_40 rfl (lv_at hl 1 rfl) ?_
  refine va_get (D := D) (ci := 3) (v := .ref fa) (C := R_F) (T := T_F) (N := 2) hx hb (us_F G hW) (fun _ h => h) hown hK hP 0 rfl rfl 0 (by decide) (fl_F_11 G hW) (fun _ h9 => h9) rfl d_F_make_41 ?_
  refine lv_iload_n hx hb d_F_make_44 rfl (lv_at hl 2 rfl) ?_
  refine lv_aload hx hb d_F_make_45 (lv_at hl 0 rfl) ?_
  refine qa_st hx hb hK hP hD hS 1 3 0 (j := j) rfl (ca_C G hW) rfl rfl (hj) (by decide) d_F_make_47 (fun H locs hP hD hS => ?_)
  have hP : va_P D vcl [(xo, .inr (3, [.ref fa, .ref ma])), (fa, aQ cF 4 (va_up fi j (some h))), (ma, aQ cF 12 (va_up mk (j * 3 + 1 - 1) (some h))), (h, .inr (0, [.int (nI A), .int (nI B), .int (nI 0), .ref h1, .ref h2, .ref h3])), (h1, aN cI 1024 (fun _ => 0)), (h2, aN cI 6 (fun _ => 0)), (h3, aN cI 6 (fun _ => 0))] H := hP
  have hD : va_D (Aa [xo, fa, ma] H0.size) [(xo, .inr (3, [.ref fa, .ref ma])), (fa, aQ cF 4 (va_up fi j (some h))), (ma, aQ cF 12 (va_up mk (j * 3 + 1 - 1) (some h))), (h, .inr (0, [.int (nI A), .int (nI B), .int (nI 0), .ref h1, .ref h2, .ref h3])), (h1, aN cI 1024 (fun _ => 0)), (h2, aN cI 6 (fun _ => 0)), (h3, aN cI 6 (fun _ => 0))] := hD
  exact mx_vret hx hb hr hlk d_F_make_48 (Nat.le_of_ble_eq_true rfl) (Nat.le_of_ble_eq_true rfl) hS.2.2 (⟨rfl, h, h1, h2, h3, hP, va_D.same2 [h, h1, h2, h3] hDn rfl rfl⟩)

set_option maxHeartbeats 4000000 in
set_option maxRecDepth 100000 in
theorem c_F_make_B_old {l : Launch} {s0 : State} {D : va_G} {cI cF cJ : ClassId} (G : Gx l s0 D cI cF cJ) (xo fa ma : Nat) (fi mk : Nat → Option Nat) (h h1 h2 : Nat) (av bv hd pu : Int32) (A B : Nat) (sl pt : Nat → Nat) (j : Nat) {H0 : Heap} {A0 : Nat → Prop} (hP : va_P D vcl [(xo, .inr (3, [.ref fa, .ref ma])), (fa, aQ cF 4 fi), (ma, aQ cF 12 mk), (h, .inr (1, [.int av, .int bv, .int hd, .ref h1, .ref h2, .int pu])), (h1, aN cI 1024 sl), (h2, aN cI 64 pt)] H0) (hD : va_D A0 [(xo, .inr (3, [.ref fa, .ref ma])), (fa, aQ cF 4 fi), (ma, aQ cF 12 mk), (h, .inr (1, [.int av, .int bv, .int hd, .ref h1, .ref h2, .int pu])), (h1, aN cI 1024 sl), (h2, aN cI 64 pt)]) (hj : j < 4) (hmk : mk (j * 3 + 2 - 1) = some h) (hm : mbS (nI 2) (nI A) (nI B) = true) : Mx l s0 y_F_make (.code y_F_make b_F_make 6 none) { frames := 7, cells := 0, slots := 0, locals := 160 } [.ref xo, .int (nI j), .int (nI 2), .int (nI A), .int (nI B)] H0 (Aa [xo, fa, ma, h, h1, h2] H0.size) (Rq s0 none none (fun H1 => va_P D vcl [(xo, .inr (3, [.ref fa, .ref ma])), (fa, aQ cF 4 (va_up fi j (some h))), (ma, aQ cF 12 mk), (h, .inr (1, [.int (nI A), .int (nI B), .int (nI 0), .ref h1, .ref h2, .int (nI 0)])), (h1, aN cI 1024 (fun _ => 0)), (h2, aN cI 64 pt)] H1)) := by
  refine Mx.ofW (own := "FewBits") rfl rfl ?_
  rintro p e s m below meth c ⟨hx, hb, hml, hr, hown, hW, hlk⟩ hnm het hH
  have hK := G.k hW
  have hD := hD.aa (sz := H0.size)
  have hD : va_D (Aa [xo, fa, ma, h, h1, h2] H0.size) [(xo, .inr (3, [.ref fa, .ref ma])), (fa, aQ cF 4 fi), (ma, aQ cF 12 mk), (h, .inr (1, [.int av, .int bv, .int hd, .ref h1, .ref h2, .int pu])), (h1, aN cI 1024 sl), (h2, aN cI 64 pt)] := hD
  have hS : va_S (Aa [xo, fa, ma, h, h1, h2] H0.size) H0 H0 [] := va_S.rf
  have hl := lv_entry ([.ref xo, .int (nI j), .int (nI 2), .int (nI A), .int (nI B)]) (n := 6) (Nat.le_of_ble_eq_true rfl)
  rw [lg_entry_eq]
  generalize (lg_sl ([.ref xo, .int (nI j), .int (nI 2), .int (nI A), .int (nI B)]) ++ List.replicate (6 - (lg_sl ([.ref xo, .int (nI j), .int (nI 2), .int (nI A), .int (nI B)])).length) Slot.unset).toArray = ls at hl ⊢
  have hl : lv_has ls 6 [(0, .ref xo), (1, .int (nI j)), (2, .int (nI 2)), (3, .int (nI A)), (4, .int (nI B))] := hl
  refine lv_iload_n hx hb d_F_make_0 rfl (lv_at hl 1 rfl) ?_
  refine mx_callV (c_F_requireNumber_ok G (nI j) (isNum_nI hj)) hW (iv_F_make_1 G hx hb hown hW [.int (nI j)] [] rfl) hml hl.1 (by rw [hb]; exact d_F_make_1) (cd_F_requireNumber G hW) ⟨Nat.le_of_ble_eq_true rfl, Nat.le_of_ble_eq_true rfl⟩ rfl rfl (Nat.le_of_ble_eq_true rfl) (Nat.le_of_ble_eq_true rfl) (Nat.le_of_ble_eq_true rfl) ?_
  refine lv_iload_n hx hb d_F_make_4 rfl (lv_at hl 2 rfl) ?_
  refine lv_iload_n hx hb d_F_make_5 rfl (lv_at hl 3 rfl) ?_
  refine lv_iload hx hb d_F_make_6 (lv_at hl 4 rfl) ?_
  refine mx_callR (r := .int (bI (mbS (nI 2) (nI A) (nI B)))) (c_F_mayBe G (nI 2) (nI A) (nI B)) hW (iv_F_make_8 G hx hb hown hW [.int (nI 2), .int (nI A), .int (nI B)] [] rfl) hml hl.1 (by rw [hb]; exact d_F_make_8) (cd_F_mayBe G hW) ⟨Nat.le_of_ble_eq_true rfl, Nat.le_of_ble_eq_true rfl⟩ rfl rfl (Nat.le_of_ble_eq_true rfl) (Nat.le_of_ble_eq_true rfl) (Nat.le_of_ble_eq_true rfl) ?_
  refine lv_if_ne (tgt := 24) hx hb d_F_make_11 (by decide) (fun c_11 => ?_) (fun c_11 => absurd c_11 (by rw [hm]; decide))
  refine lv_aload_n hx hb d_F_make_24 rfl (lv_at hl 0 rfl) ?_
  refine lv_iload_n hx hb d_F_make_25 rfl (lv_at hl 1 rfl) ?_
  refine lv_iload_n hx hb d_F_make_26 rfl (lv_at hl 2 rfl) ?_
  refine mx_callR (r := .ref h) (c_F_filterFor_B_old G xo fa ma fi mk j h (hP.sub [0, 1, 2] rfl) hj hmk) hW (iv_F_make_27 G hx hb hown hW (va_recv hK hP (ci := 3) (q0 := 0) rfl rfl) [.int (nI j), .int (nI 2)] [] rfl) hml hl.1 (by rw [hb]; exact d_F_make_27) (cd_F_filterFor G hW) ⟨Nat.le_of_ble_eq_true rfl, Nat.le_of_ble_eq_true rfl⟩ rfl rfl (Nat.le_of_ble_eq_true rfl) (Nat.le_of_ble_eq_true rfl) (Nat.le_of_ble_eq_true rfl) ?_
  refine lv_astore (lv' := [(5, .ref h), (0, .ref xo), (1, .int (nI j)), (2, .int (nI 2)), (3, .int (nI A)), (4, .int (nI B))]) hx hb d_F_make_30 hl (by decide) rfl (fun ls hl => ?_)
  refine lv_aload hx hb d_F_make_32 (lv_at hl 0 rfl) ?_
  refine lv_iload_n hx hb d_F_make_34 rfl (lv_at hl 4 rfl) ?_
  refine lv_iload hx hb d_F_make_35 (lv_at hl 5 rfl) ?_
  refine mx_callN (c_P_begin_B G h h1 h2 av bv hd pu A B sl pt (hP.sub [3, 4, 5] rfl) (hD.sub [3, 4, 5] rfl rfl)) hW (iv_F_make_37_B G hx hb hown hW (va_recv hK hP (ci := 1) (q0 := 3) rfl rfl) [.int (nI A), .int (nI B)] [] rfl) hml hl.1 (by rw [hb]; exact d_F_make_37) (cd_P_begin G hW) ⟨Nat.le_of_ble_eq_true rfl, Nat.le_of_ble_eq_true rfl⟩ (Nat.le_of_ble_eq_true rfl) (Nat.le_of_ble_eq_true rfl) (Nat.le_of_ble_eq_true rfl) hS (Aa.mono (fun _ h => List.mem_append_right [xo, fa, ma] h) hS.1) (fun H locs hP2 _ hkp hS => ?_)
  have hP := va_P.join (ws1 := [(xo, .inr (3, [.ref fa, .ref ma])), (fa, aQ cF 4 fi), (ma, aQ cF 12 mk)]) (ws2 := [(h, .inr (1, [.int av, .int bv, .int hd, .ref h1, .ref h2, .int pu])), (h1, aN cI 1024 sl), (h2, aN cI 64 pt)]) hP hD hP2 hkp rfl
  have hP : va_P D vcl [(xo, .inr (3, [.ref fa, .ref ma])), (fa, aQ cF 4 fi), (ma, aQ cF 12 mk), (h, .inr (1, [.int (nI A), .int (nI B), .int (nI 0), .ref h1, .ref h2, .int (nI 0)])), (h1, aN cI 1024 (fun _ => 0)), (h2, aN cI 64 pt)] H := hP
  have hD : va_D (Aa [xo, fa, ma, h, h1, h2] H0.size) [(xo, .inr (3, [.ref fa, .ref ma])), (fa, aQ cF 4 fi), (ma, aQ cF 12 mk), (h, .inr (1, [.int (nI A), .int (nI B), .int (nI 0), .ref h1, .ref h2, .int (nI 0)])), (h1, aN cI 1024 (fun _ => 0)), (h2, aN cI 64 pt)] := va_D.same2 [xo, fa, ma, h, h1, h2] hD rfl rfl
  refine lv_aload_n hx hb d_F_make_40 rfl (lv_at hl 1 rfl) ?_
  refine va_get (D := D) (ci := 3) (v := .ref fa) (C := R_F) (T := T_F) (N := 2) hx hb (us_F G hW) (fun _ h => h) hown hK hP 0 rfl rfl 0 (by decide) (fl_F_11 G hW) (fun _ h9 => h9) rfl d_F_make_41 ?_
  refine lv_iload_n hx hb d_F_make_44 rfl (lv_at hl 2 rfl) ?_
  refine lv_aload hx hb d_F_make_45 (lv_at hl 0 rfl) ?_
  refine qa_st hx hb hK hP hD hS 1 3 1 (j := j) rfl (ca_B G hW) rfl rfl (hj) (by decide) d_F_make_47 (fun H locs hP hD hS => ?_)
  have hP : va_P D vcl [(xo, .inr (3, [.ref fa, .ref ma])), (fa, aQ cF 4 (va_up fi j (some h))), (ma, aQ cF 12 mk), (h, .inr (1, [.int (nI A), .int (nI B), .int (nI 0), .ref h1, .ref h2, .int (nI 0)])), (h1, aN cI 1024 (fun _ => 0)), (h2, aN cI 64 pt)] H := hP
  have hD : va_D (Aa [xo, fa, ma, h, h1, h2] H0.size) [(xo, .inr (3, [.ref fa, .ref ma])), (fa, aQ cF 4 (va_up fi j (some h))), (ma, aQ cF 12 mk), (h, .inr (1, [.int (nI A), .int (nI B), .int (nI 0), .ref h1, .ref h2, .int (nI 0)])), (h1, aN cI 1024 (fun _ => 0)), (h2, aN cI 64 pt)] := hD
  exact mx_vret hx hb hr hlk d_F_make_48 (Nat.le_of_ble_eq_true rfl) (Nat.le_of_ble_eq_true rfl) hS.2.2 (⟨rfl, hP⟩)

set_option maxHeartbeats 4000000 in
set_option maxRecDepth 100000 in
theorem c_F_make_B_new {l : Launch} {s0 : State} {D : va_G} {cI cF cJ : ClassId} (G : Gx l s0 D cI cF cJ) (xo fa ma : Nat) (fi mk : Nat → Option Nat) (A B j : Nat) {H0 : Heap} {A0 : Nat → Prop} (hP : va_P D vcl [(xo, .inr (3, [.ref fa, .ref ma])), (fa, aQ cF 4 fi), (ma, aQ cF 12 mk)] H0) (hD : va_D A0 [(xo, .inr (3, [.ref fa, .ref ma])), (fa, aQ cF 4 fi), (ma, aQ cF 12 mk)]) (hj : j < 4) (hmk : mk (j * 3 + 2 - 1) = none) (hm : mbS (nI 2) (nI A) (nI B) = true) : Mx l s0 y_F_make (.code y_F_make b_F_make 6 none) { frames := 7, cells := 3, slots := 1094, locals := 160 } [.ref xo, .int (nI j), .int (nI 2), .int (nI A), .int (nI B)] H0 (Aa [xo, fa, ma] H0.size) (Rq s0 none none (fun H1 => ∃ h h1 h2 : Nat, va_P D vcl [(xo, .inr (3, [.ref fa, .ref ma])), (fa, aQ cF 4 (va_up fi j (some h))), (ma, aQ cF 12 (va_up mk (j * 3 + 2 - 1) (some h))), (h, .inr (1, [.int (nI A), .int (nI B), .int (nI 0), .ref h1, .ref h2, .int (nI 0)])), (h1, aN cI 1024 (fun _ => 0)), (h2, aN cI 64 (fun _ => 0))] H1 ∧ va_D (fun q => H0.size ≤ q) [(h, .inr (1, [.int (nI A), .int (nI B), .int (nI 0), .ref h1, .ref h2, .int (nI 0)])), (h1, aN cI 1024 (fun _ => 0)), (h2, aN cI 64 (fun _ => 0))])) := by
  refine Mx.ofW (own := "FewBits") rfl rfl ?_
  rintro p e s m below meth c ⟨hx, hb, hml, hr, hown, hW, hlk⟩ hnm het hH
  have hK := G.k hW
  have hD := hD.aa (sz := H0.size)
  have hD : va_D (Aa [xo, fa, ma] H0.size) [(xo, .inr (3, [.ref fa, .ref ma])), (fa, aQ cF 4 fi), (ma, aQ cF 12 mk)] := hD
  have hS : va_S (Aa [xo, fa, ma] H0.size) H0 H0 [] := va_S.rf
  have hl := lv_entry ([.ref xo, .int (nI j), .int (nI 2), .int (nI A), .int (nI B)]) (n := 6) (Nat.le_of_ble_eq_true rfl)
  rw [lg_entry_eq]
  generalize (lg_sl ([.ref xo, .int (nI j), .int (nI 2), .int (nI A), .int (nI B)]) ++ List.replicate (6 - (lg_sl ([.ref xo, .int (nI j), .int (nI 2), .int (nI A), .int (nI B)])).length) Slot.unset).toArray = ls at hl ⊢
  have hl : lv_has ls 6 [(0, .ref xo), (1, .int (nI j)), (2, .int (nI 2)), (3, .int (nI A)), (4, .int (nI B))] := hl
  refine lv_iload_n hx hb d_F_make_0 rfl (lv_at hl 1 rfl) ?_
  refine mx_callV (c_F_requireNumber_ok G (nI j) (isNum_nI hj)) hW (iv_F_make_1 G hx hb hown hW [.int (nI j)] [] rfl) hml hl.1 (by rw [hb]; exact d_F_make_1) (cd_F_requireNumber G hW) ⟨Nat.le_of_ble_eq_true rfl, Nat.le_of_ble_eq_true rfl⟩ rfl rfl (Nat.le_of_ble_eq_true rfl) (Nat.le_of_ble_eq_true rfl) (Nat.le_of_ble_eq_true rfl) ?_
  refine lv_iload_n hx hb d_F_make_4 rfl (lv_at hl 2 rfl) ?_
  refine lv_iload_n hx hb d_F_make_5 rfl (lv_at hl 3 rfl) ?_
  refine lv_iload hx hb d_F_make_6 (lv_at hl 4 rfl) ?_
  refine mx_callR (r := .int (bI (mbS (nI 2) (nI A) (nI B)))) (c_F_mayBe G (nI 2) (nI A) (nI B)) hW (iv_F_make_8 G hx hb hown hW [.int (nI 2), .int (nI A), .int (nI B)] [] rfl) hml hl.1 (by rw [hb]; exact d_F_make_8) (cd_F_mayBe G hW) ⟨Nat.le_of_ble_eq_true rfl, Nat.le_of_ble_eq_true rfl⟩ rfl rfl (Nat.le_of_ble_eq_true rfl) (Nat.le_of_ble_eq_true rfl) (Nat.le_of_ble_eq_true rfl) ?_
  refine lv_if_ne (tgt := 24) hx hb d_F_make_11 (by decide) (fun c_11 => ?_) (fun c_11 => absurd c_11 (by rw [hm]; decide))
  refine lv_aload_n hx hb d_F_make_24 rfl (lv_at hl 0 rfl) ?_
  refine lv_iload_n hx hb d_F_make_25 rfl (lv_at hl 1 rfl) ?_
  refine lv_iload_n hx hb d_F_make_26 rfl (lv_at hl 2 rfl) ?_
  refine mx_callG (c_F_filterFor_B_new G xo fa ma fi mk j hP hD hj hmk) hW (iv_F_make_27 G hx hb hown hW (va_recv hK hP (ci := 3) (q0 := 0) rfl rfl) [.int (nI j), .int (nI 2)] [] rfl) hml hl.1 (by rw [hb]; exact d_F_make_27) (cd_F_filterFor G hW) ⟨Nat.le_of_ble_eq_true rfl, Nat.le_of_ble_eq_true rfl⟩ (Nat.le_of_ble_eq_true rfl) (Nat.le_of_ble_eq_true rfl) (Nat.le_of_ble_eq_true rfl) hS (Aa.mono (fun _ h => h) hS.1) (fun q H1 h9 => by obtain ⟨_, _, _, h8, _⟩ := h9; cases h8) (fun v9 H1 locs hq hsz hkp hS => ?_)
  obtain ⟨h, h1, h2, e9, hP, hD, hDn⟩ := hq
  cases e9
  refine W.eq (g2 := F0 m 30 ls [.ref h]) rfl ?_
  have hP : va_P D vcl [(xo, .inr (3, [.ref fa, .ref ma])), (fa, aQ cF 4 fi), (ma, aQ cF 12 (va_up mk (j * 3 + 2 - 1) (some h))), (h, .inr (1, [.int 0, .int 0, .int 0, .ref h1, .ref h2, .int 0])), (h1, aN cI 1024 (fun _ => 0)), (h2, aN cI 64 (fun _ => 0))] H1 := hP
  have hD : va_D (Aa [xo, fa, ma] H0.size) [(xo, .inr (3, [.ref fa, .ref ma])), (fa, aQ cF 4 fi), (ma, aQ cF 12 (va_up mk (j * 3 + 2 - 1) (some h))), (h, .inr (1, [.int 0, .int 0, .int 0, .ref h1, .ref h2, .int 0])), (h1, aN cI 1024 (fun _ => 0)), (h2, aN cI 64 (fun _ => 0))] := hD
  refine lv_astore (lv' := [(5, .ref h), (0, .ref xo), (1, .int (nI j)), (2, .int (nI 2)), (3, .int (nI A)), (4, .int (nI B))]) hx hb d_F_make_30 hl (by decide) rfl (fun ls hl => ?_)
  refine lv_aload hx hb d_F_make_32 (lv_at hl 0 rfl) ?_
  refine lv_iload_n hx hb d_F_make_34 rfl (lv_at hl 4 rfl) ?_
  refine lv_iload hx hb d_F_make_35 (lv_at hl 5 rfl) ?_
  refine mx_callN (c_P_begin_B G h h1 h2 0 0 0 0 A B (fun _ => 0) (fun _ => 0) (hP.sub [3, 4, 5] rfl) (hD.sub [3, 4, 5] rfl rfl)) hW (iv_F_make_37_B G hx hb hown hW (va_recv hK hP (ci := 1) (q0 := 3) rfl rfl) [.int (nI A), .int (nI B)] [] rfl) hml hl.1 (by rw [hb]; exact d_F_make_37) (cd_P_begin G hW) ⟨Nat.le_of_ble_eq_true rfl, Nat.le_of_ble_eq_true rfl⟩ (Nat.le_of_ble_eq_true rfl) (Nat.le_of_ble_eq_true rfl) (Nat.le_of_ble_eq_true rfl) hS (fun q h9 => h9.elim (fun h8 => Or.inr ((va_D.mem hDn (by exact h8)))) (fun h8 => Or.inr (Nat.le_trans hS.1 h8))) (fun H locs hP2 _ hkp hS => ?_)
  have hP := va_P.join (ws1 := [(xo, .inr (3, [.ref fa, .ref ma])), (fa, aQ cF 4 fi), (ma, aQ cF 12 (va_up mk (j * 3 + 2 - 1) (some h)))]) (ws2 := [(h, .inr (1, [.int 0, .int 0, .int 0, .ref h1, .ref h2, .int 0])), (h1, aN cI 1024 (fun _ => 0)), (h2, aN cI 64 (fun _ => 0))]) hP hD hP2 hkp rfl
  have hP : va_P D vcl [(xo, .inr (3, [.ref fa, .ref ma])), (fa, aQ cF 4 fi), (ma, aQ cF 12 (va_up mk (j * 3 + 2 - 1) (some h))), (h, .inr (1, [.int (nI A), .int (nI B), .int (nI 0), .ref h1, .ref h2, .int (nI 0)])), (h1, aN cI 1024 (fun _ => 0)), (h2, aN cI 64 (fun _ => 0))] H := hP
  have hD : va_D (Aa [xo, fa, ma] H0.size) [(xo, .inr (3, [.ref fa, .ref ma])), (fa, aQ cF 4 fi), (ma, aQ cF 12 (va_up mk (j * 3 + 2 - 1) (some h))), (h, .inr (1, [.int (nI A), .int (nI B), .int (nI 0), .ref h1, .ref h2, .int (nI 0)])), (h1, aN cI 1024 (fun _ => 0)), (h2, aN cI 64 (fun _ => 0))] := va_D.same2 [xo, fa, ma, h, h1, h2] hD rfl rfl
  refine lv_aload_n hx hb d_F_make_40 rfl (lv_at hl 1 rfl) ?_
  refine va_get (D := D) (ci := 3) (v := .ref fa) (C := R_F) (T := T_F) (N := 2) hx hb (us_F G hW) (fun _ h => h) hown hK hP 0 rfl rfl 0 (by decide) (fl_F_11 G hW) (fun _ h9 => h9) rfl d_F_make_41 ?_
  refine lv_iload_n hx hb d_F_make_44 rfl (lv_at hl 2 rfl) ?_
  refine lv_aload hx hb d_F_make_45 (lv_at hl 0 rfl) ?_
  refine qa_st hx hb hK hP hD hS 1 3 1 (j := j) rfl (ca_B G hW) rfl rfl (hj) (by decide) d_F_make_47 (fun H locs hP hD hS => ?_)
  have hP : va_P D vcl [(xo, .inr (3, [.ref fa, .ref ma])), (fa, aQ cF 4 (va_up fi j (some h))), (ma, aQ cF 12 (va_up mk (j * 3 + 2 - 1) (some h))), (h, .inr (1, [.int (nI A), .int (nI B), .int (nI 0), .ref h1, .ref h2, .int (nI 0)])), (h1, aN cI 1024 (fun _ => 0)), (h2, aN cI 64 (fun _ => 0))] H := hP
  have hD : va_D (Aa [xo, fa, ma] H0.size) [(xo, .inr (3, [.ref fa, .ref ma])), (fa, aQ cF 4 (va_up fi j (some h))), (ma, aQ cF 12 (va_up mk (j * 3 + 2 - 1) (some h))), (h, .inr (1, [.int (nI A), .int (nI B), .int (nI 0), .ref h1, .ref h2, .int (nI 0)])), (h1, aN cI 1024 (fun _ => 0)), (h2, aN cI 64 (fun _ => 0))] := hD
  exact mx_vret hx hb hr hlk d_F_make_48 (Nat.le_of_ble_eq_true rfl) (Nat.le_of_ble_eq_true rfl) hS.2.2 (⟨rfl, h, h1, h2, hP, va_D.same2 [h, h1, h2] hDn rfl rfl⟩)

set_option maxHeartbeats 4000000 in
set_option maxRecDepth 100000 in
theorem c_F_make_R_old {l : Launch} {s0 : State} {D : va_G} {cI cF cJ : ClassId} (G : Gx l s0 D cI cF cJ) (xo fa ma : Nat) (fi mk : Nat → Option Nat) (h h1 h2 : Nat) (av bv hd : Int32) (A B : Nat) (f : Nat → Nat) (g : Nat → Int32) (j : Nat) {H0 : Heap} {A0 : Nat → Prop} (hP : va_P D vcl [(xo, .inr (3, [.ref fa, .ref ma])), (fa, aQ cF 4 fi), (ma, aQ cF 12 mk), (h, .inr (2, [.int av, .int bv, .int hd, .ref h1, .ref h2])), (h1, aN cI 256 f), (h2, aI cI 256 g)] H0) (hD : va_D A0 [(xo, .inr (3, [.ref fa, .ref ma])), (fa, aQ cF 4 fi), (ma, aQ cF 12 mk), (h, .inr (2, [.int av, .int bv, .int hd, .ref h1, .ref h2])), (h1, aN cI 256 f), (h2, aI cI 256 g)]) (hj : j < 4) (hmk : mk (j * 3 + 3 - 1) = some h) (hm : mbS (nI 3) (nI A) (nI B) = true) : Mx l s0 y_F_make (.code y_F_make b_F_make 6 none) { frames := 7, cells := 0, slots := 0, locals := 160 } [.ref xo, .int (nI j), .int (nI 3), .int (nI A), .int (nI B)] H0 (Aa [xo, fa, ma, h, h1, h2] H0.size) (Rq s0 none none (fun H1 => va_P D vcl [(xo, .inr (3, [.ref fa, .ref ma])), (fa, aQ cF 4 (va_up fi j (some h))), (ma, aQ cF 12 mk), (h, .inr (2, [.int (nI A), .int (nI B), .int (nI 0), .ref h1, .ref h2])), (h1, aN cI 256 f), (h2, aI cI 256 g)] H1)) := by
  refine Mx.ofW (own := "FewBits") rfl rfl ?_
  rintro p e s m below meth c ⟨hx, hb, hml, hr, hown, hW, hlk⟩ hnm het hH
  have hK := G.k hW
  have hD := hD.aa (sz := H0.size)
  have hD : va_D (Aa [xo, fa, ma, h, h1, h2] H0.size) [(xo, .inr (3, [.ref fa, .ref ma])), (fa, aQ cF 4 fi), (ma, aQ cF 12 mk), (h, .inr (2, [.int av, .int bv, .int hd, .ref h1, .ref h2])), (h1, aN cI 256 f), (h2, aI cI 256 g)] := hD
  have hS : va_S (Aa [xo, fa, ma, h, h1, h2] H0.size) H0 H0 [] := va_S.rf
  have hl := lv_entry ([.ref xo, .int (nI j), .int (nI 3), .int (nI A), .int (nI B)]) (n := 6) (Nat.le_of_ble_eq_true rfl)
  rw [lg_entry_eq]
  generalize (lg_sl ([.ref xo, .int (nI j), .int (nI 3), .int (nI A), .int (nI B)]) ++ List.replicate (6 - (lg_sl ([.ref xo, .int (nI j), .int (nI 3), .int (nI A), .int (nI B)])).length) Slot.unset).toArray = ls at hl ⊢
  have hl : lv_has ls 6 [(0, .ref xo), (1, .int (nI j)), (2, .int (nI 3)), (3, .int (nI A)), (4, .int (nI B))] := hl
  refine lv_iload_n hx hb d_F_make_0 rfl (lv_at hl 1 rfl) ?_
  refine mx_callV (c_F_requireNumber_ok G (nI j) (isNum_nI hj)) hW (iv_F_make_1 G hx hb hown hW [.int (nI j)] [] rfl) hml hl.1 (by rw [hb]; exact d_F_make_1) (cd_F_requireNumber G hW) ⟨Nat.le_of_ble_eq_true rfl, Nat.le_of_ble_eq_true rfl⟩ rfl rfl (Nat.le_of_ble_eq_true rfl) (Nat.le_of_ble_eq_true rfl) (Nat.le_of_ble_eq_true rfl) ?_
  refine lv_iload_n hx hb d_F_make_4 rfl (lv_at hl 2 rfl) ?_
  refine lv_iload_n hx hb d_F_make_5 rfl (lv_at hl 3 rfl) ?_
  refine lv_iload hx hb d_F_make_6 (lv_at hl 4 rfl) ?_
  refine mx_callR (r := .int (bI (mbS (nI 3) (nI A) (nI B)))) (c_F_mayBe G (nI 3) (nI A) (nI B)) hW (iv_F_make_8 G hx hb hown hW [.int (nI 3), .int (nI A), .int (nI B)] [] rfl) hml hl.1 (by rw [hb]; exact d_F_make_8) (cd_F_mayBe G hW) ⟨Nat.le_of_ble_eq_true rfl, Nat.le_of_ble_eq_true rfl⟩ rfl rfl (Nat.le_of_ble_eq_true rfl) (Nat.le_of_ble_eq_true rfl) (Nat.le_of_ble_eq_true rfl) ?_
  refine lv_if_ne (tgt := 24) hx hb d_F_make_11 (by decide) (fun c_11 => ?_) (fun c_11 => absurd c_11 (by rw [hm]; decide))
  refine lv_aload_n hx hb d_F_make_24 rfl (lv_at hl 0 rfl) ?_
  refine lv_iload_n hx hb d_F_make_25 rfl (lv_at hl 1 rfl) ?_
  refine lv_iload_n hx hb d_F_make_26 rfl (lv_at hl 2 rfl) ?_
  refine mx_callR (r := .ref h) (c_F_filterFor_R_old G xo fa ma fi mk j h (hP.sub [0, 1, 2] rfl) hj hmk) hW (iv_F_make_27 G hx hb hown hW (va_recv hK hP (ci := 3) (q0 := 0) rfl rfl) [.int (nI j), .int (nI 3)] [] rfl) hml hl.1 (by rw [hb]; exact d_F_make_27) (cd_F_filterFor G hW) ⟨Nat.le_of_ble_eq_true rfl, Nat.le_of_ble_eq_true rfl⟩ rfl rfl (Nat.le_of_ble_eq_true rfl) (Nat.le_of_ble_eq_true rfl) (Nat.le_of_ble_eq_true rfl) ?_
  refine lv_astore (lv' := [(5, .ref h), (0, .ref xo), (1, .int (nI j)), (2, .int (nI 3)), (3, .int (nI A)), (4, .int (nI B))]) hx hb d_F_make_30 hl (by decide) rfl (fun ls hl => ?_)
  refine lv_aload hx hb d_F_make_32 (lv_at hl 0 rfl) ?_
  refine lv_iload_n hx hb d_F_make_34 rfl (lv_at hl 4 rfl) ?_
  refine lv_iload hx hb d_F_make_35 (lv_at hl 5 rfl) ?_
  refine mx_callN (c_P_begin_R G h h1 h2 av bv hd A B f g (hP.sub [3, 4, 5] rfl) (hD.sub [3, 4, 5] rfl rfl)) hW (iv_F_make_37_R G hx hb hown hW (va_recv hK hP (ci := 2) (q0 := 3) rfl rfl) [.int (nI A), .int (nI B)] [] rfl) hml hl.1 (by rw [hb]; exact d_F_make_37) (cd_P_begin G hW) ⟨Nat.le_of_ble_eq_true rfl, Nat.le_of_ble_eq_true rfl⟩ (Nat.le_of_ble_eq_true rfl) (Nat.le_of_ble_eq_true rfl) (Nat.le_of_ble_eq_true rfl) hS (Aa.mono (fun _ h => List.mem_append_right [xo, fa, ma] h) hS.1) (fun H locs hP2 _ hkp hS => ?_)
  have hP := va_P.join (ws1 := [(xo, .inr (3, [.ref fa, .ref ma])), (fa, aQ cF 4 fi), (ma, aQ cF 12 mk)]) (ws2 := [(h, .inr (2, [.int av, .int bv, .int hd, .ref h1, .ref h2])), (h1, aN cI 256 f), (h2, aI cI 256 g)]) hP hD hP2 hkp rfl
  have hP : va_P D vcl [(xo, .inr (3, [.ref fa, .ref ma])), (fa, aQ cF 4 fi), (ma, aQ cF 12 mk), (h, .inr (2, [.int (nI A), .int (nI B), .int (nI 0), .ref h1, .ref h2])), (h1, aN cI 256 f), (h2, aI cI 256 g)] H := hP
  have hD : va_D (Aa [xo, fa, ma, h, h1, h2] H0.size) [(xo, .inr (3, [.ref fa, .ref ma])), (fa, aQ cF 4 fi), (ma, aQ cF 12 mk), (h, .inr (2, [.int (nI A), .int (nI B), .int (nI 0), .ref h1, .ref h2])), (h1, aN cI 256 f), (h2, aI cI 256 g)] := va_D.same2 [xo, fa, ma, h, h1, h2] hD rfl rfl
  refine lv_aload_n hx hb d_F_make_40 rfl (lv_at hl 1 rfl) ?_
  refine va_get (D := D) (ci := 3) (v := .ref fa) (C := R_F) (T := T_F) (N := 2) hx hb (us_F G hW) (fun _ h => h) hown hK hP 0 rfl rfl 0 (by decide) (fl_F_11 G hW) (fun _ h9 => h9) rfl d_F_make_41 ?_
  refine lv_iload_n hx hb d_F_make_44 rfl (lv_at hl 2 rfl) ?_
  refine lv_aload hx hb d_F_make_45 (lv_at hl 0 rfl) ?_
  refine qa_st hx hb hK hP hD hS 1 3 2 (j := j) rfl (ca_R G hW) rfl rfl (hj) (by decide) d_F_make_47 (fun H locs hP hD hS => ?_)
  have hP : va_P D vcl [(xo, .inr (3, [.ref fa, .ref ma])), (fa, aQ cF 4 (va_up fi j (some h))), (ma, aQ cF 12 mk), (h, .inr (2, [.int (nI A), .int (nI B), .int (nI 0), .ref h1, .ref h2])), (h1, aN cI 256 f), (h2, aI cI 256 g)] H := hP
  have hD : va_D (Aa [xo, fa, ma, h, h1, h2] H0.size) [(xo, .inr (3, [.ref fa, .ref ma])), (fa, aQ cF 4 (va_up fi j (some h))), (ma, aQ cF 12 mk), (h, .inr (2, [.int (nI A), .int (nI B), .int (nI 0), .ref h1, .ref h2])), (h1, aN cI 256 f), (h2, aI cI 256 g)] := hD
  exact mx_vret hx hb hr hlk d_F_make_48 (Nat.le_of_ble_eq_true rfl) (Nat.le_of_ble_eq_true rfl) hS.2.2 (⟨rfl, hP⟩)

set_option maxHeartbeats 4000000 in
set_option maxRecDepth 100000 in
theorem c_F_make_R_new {l : Launch} {s0 : State} {D : va_G} {cI cF cJ : ClassId} (G : Gx l s0 D cI cF cJ) (xo fa ma : Nat) (fi mk : Nat → Option Nat) (A B j : Nat) {H0 : Heap} {A0 : Nat → Prop} (hP : va_P D vcl [(xo, .inr (3, [.ref fa, .ref ma])), (fa, aQ cF 4 fi), (ma, aQ cF 12 mk)] H0) (hD : va_D A0 [(xo, .inr (3, [.ref fa, .ref ma])), (fa, aQ cF 4 fi), (ma, aQ cF 12 mk)]) (hj : j < 4) (hmk : mk (j * 3 + 3 - 1) = none) (hm : mbS (nI 3) (nI A) (nI B) = true) : Mx l s0 y_F_make (.code y_F_make b_F_make 6 none) { frames := 7, cells := 3, slots := 517, locals := 160 } [.ref xo, .int (nI j), .int (nI 3), .int (nI A), .int (nI B)] H0 (Aa [xo, fa, ma] H0.size) (Rq s0 none none (fun H1 => ∃ h h1 h2 : Nat, va_P D vcl [(xo, .inr (3, [.ref fa, .ref ma])), (fa, aQ cF 4 (va_up fi j (some h))), (ma, aQ cF 12 (va_up mk (j * 3 + 3 - 1) (some h))), (h, .inr (2, [.int (nI A), .int (nI B), .int (nI 0), .ref h1, .ref h2])), (h1, aN cI 256 (fun _ => 0)), (h2, aI cI 256 (fun _ => nI 0))] H1 ∧ va_D (fun q => H0.size ≤ q) [(h, .inr (2, [.int (nI A), .int (nI B), .int (nI 0), .ref h1, .ref h2])), (h1, aN cI 256 (fun _ => 0)), (h2, aI cI 256 (fun _ => nI 0))])) := by
  refine Mx.ofW (own := "FewBits") rfl rfl ?_
  rintro p e s m below meth c ⟨hx, hb, hml, hr, hown, hW, hlk⟩ hnm het hH
  have hK := G.k hW
  have hD := hD.aa (sz := H0.size)
  have hD : va_D (Aa [xo, fa, ma] H0.size) [(xo, .inr (3, [.ref fa, .ref ma])), (fa, aQ cF 4 fi), (ma, aQ cF 12 mk)] := hD
  have hS : va_S (Aa [xo, fa, ma] H0.size) H0 H0 [] := va_S.rf
  have hl := lv_entry ([.ref xo, .int (nI j), .int (nI 3), .int (nI A), .int (nI B)]) (n := 6) (Nat.le_of_ble_eq_true rfl)
  rw [lg_entry_eq]
  generalize (lg_sl ([.ref xo, .int (nI j), .int (nI 3), .int (nI A), .int (nI B)]) ++ List.replicate (6 - (lg_sl ([.ref xo, .int (nI j), .int (nI 3), .int (nI A), .int (nI B)])).length) Slot.unset).toArray = ls at hl ⊢
  have hl : lv_has ls 6 [(0, .ref xo), (1, .int (nI j)), (2, .int (nI 3)), (3, .int (nI A)), (4, .int (nI B))] := hl
  refine lv_iload_n hx hb d_F_make_0 rfl (lv_at hl 1 rfl) ?_
  refine mx_callV (c_F_requireNumber_ok G (nI j) (isNum_nI hj)) hW (iv_F_make_1 G hx hb hown hW [.int (nI j)] [] rfl) hml hl.1 (by rw [hb]; exact d_F_make_1) (cd_F_requireNumber G hW) ⟨Nat.le_of_ble_eq_true rfl, Nat.le_of_ble_eq_true rfl⟩ rfl rfl (Nat.le_of_ble_eq_true rfl) (Nat.le_of_ble_eq_true rfl) (Nat.le_of_ble_eq_true rfl) ?_
  refine lv_iload_n hx hb d_F_make_4 rfl (lv_at hl 2 rfl) ?_
  refine lv_iload_n hx hb d_F_make_5 rfl (lv_at hl 3 rfl) ?_
  refine lv_iload hx hb d_F_make_6 (lv_at hl 4 rfl) ?_
  refine mx_callR (r := .int (bI (mbS (nI 3) (nI A) (nI B)))) (c_F_mayBe G (nI 3) (nI A) (nI B)) hW (iv_F_make_8 G hx hb hown hW [.int (nI 3), .int (nI A), .int (nI B)] [] rfl) hml hl.1 (by rw [hb]; exact d_F_make_8) (cd_F_mayBe G hW) ⟨Nat.le_of_ble_eq_true rfl, Nat.le_of_ble_eq_true rfl⟩ rfl rfl (Nat.le_of_ble_eq_true rfl) (Nat.le_of_ble_eq_true rfl) (Nat.le_of_ble_eq_true rfl) ?_
  refine lv_if_ne (tgt := 24) hx hb d_F_make_11 (by decide) (fun c_11 => ?_) (fun c_11 => absurd c_11 (by rw [hm]; decide))
  refine lv_aload_n hx hb d_F_make_24 rfl (lv_at hl 0 rfl) ?_
  refine lv_iload_n hx hb d_F_make_25 rfl (lv_at hl 1 rfl) ?_
  refine lv_iload_n hx hb d_F_make_26 rfl (lv_at hl 2 rfl) ?_
  refine mx_callG (c_F_filterFor_R_new G xo fa ma fi mk j hP hD hj hmk) hW (iv_F_make_27 G hx hb hown hW (va_recv hK hP (ci := 3) (q0 := 0) rfl rfl) [.int (nI j), .int (nI 3)] [] rfl) hml hl.1 (by rw [hb]; exact d_F_make_27) (cd_F_filterFor G hW) ⟨Nat.le_of_ble_eq_true rfl, Nat.le_of_ble_eq_true rfl⟩ (Nat.le_of_ble_eq_true rfl) (Nat.le_of_ble_eq_true rfl) (Nat.le_of_ble_eq_true rfl) hS (Aa.mono (fun _ h => h) hS.1) (fun q H1 h9 => by obtain ⟨_, _, _, h8, _⟩ := h9; cases h8) (fun v9 H1 locs hq hsz hkp hS => ?_)
  obtain ⟨h, h1, h2, e9, hP, hD, hDn⟩ := hq
  cases e9
  refine W.eq (g2 := F0 m 30 ls [.ref h]) rfl ?_
  have hP : va_P D vcl [(xo, .inr (3, [.ref fa, .ref ma])), (fa, aQ cF 4 fi), (ma, aQ cF 12 (va_up mk (j * 3 + 3 - 1) (some h))), (h, .inr (2, [.int 0, .int 0, .int 0, .ref h1, .ref h2])), (h1, aN cI 256 (fun _ => 0)), (h2, aN cI 256 (fun _ => 0))] H1 := hP
  have hD : va_D (Aa [xo, fa, ma] H0.size) [(xo, .inr (3, [.ref fa, .ref ma])), (fa, aQ cF 4 fi), (ma, aQ cF 12 (va_up mk (j * 3 + 3 - 1) (some h))), (h, .inr (2, [.int 0, .int 0, .int 0, .ref h1, .ref h2])), (h1, aN cI 256 (fun _ => 0)), (h2, aN cI 256 (fun _ => 0))] := hD
  refine lv_astore (lv' := [(5, .ref h), (0, .ref xo), (1, .int (nI j)), (2, .int (nI 3)), (3, .int (nI A)), (4, .int (nI B))]) hx hb d_F_make_30 hl (by decide) rfl (fun ls hl => ?_)
  refine lv_aload hx hb d_F_make_32 (lv_at hl 0 rfl) ?_
  refine lv_iload_n hx hb d_F_make_34 rfl (lv_at hl 4 rfl) ?_
  refine lv_iload hx hb d_F_make_35 (lv_at hl 5 rfl) ?_
  refine mx_callN (c_P_begin_R G h h1 h2 0 0 0 A B (fun _ => 0) (fun _ => nI 0) (hP.sub [3, 4, 5] rfl) (hD.sub [3, 4, 5] rfl rfl)) hW (iv_F_make_37_R G hx hb hown hW (va_recv hK hP (ci := 2) (q0 := 3) rfl rfl) [.int (nI A), .int (nI B)] [] rfl) hml hl.1 (by rw [hb]; exact d_F_make_37) (cd_P_begin G hW) ⟨Nat.le_of_ble_eq_true rfl, Nat.le_of_ble_eq_true rfl⟩ (Nat.le_of_ble_eq_true rfl) (Nat.le_of_ble_eq_true rfl) (Nat.le_of_ble_eq_true rfl) hS (fun q h9 => h9.elim (fun h8 => Or.inr ((va_D.mem hDn (by exact h8)))) (fun h8 => Or.inr (Nat.le_trans hS.1 h8))) (fun H locs hP2 _ hkp hS => ?_)
  have hP := va_P.join (ws1 := [(xo, .inr (3, [.ref fa, .ref ma])), (fa, aQ cF 4 fi), (ma, aQ cF 12 (va_up mk (j * 3 + 3 - 1) (some h)))]) (ws2 := [(h, .inr (2, [.int 0, .int 0, .int 0, .ref h1, .ref h2])), (h1, aN cI 256 (fun _ => 0)), (h2, aN cI 256 (fun _ => 0))]) hP hD hP2 hkp rfl
  have hP : va_P D vcl [(xo, .inr (3, [.ref fa, .ref ma])), (fa, aQ cF 4 fi), (ma, aQ cF 12 (va_up mk (j * 3 + 3 - 1) (some h))), (h, .inr (2, [.int (nI A), .int (nI B), .int (nI 0), .ref h1, .ref h2])), (h1, aN cI 256 (fun _ => 0)), (h2, aI cI 256 (fun _ => nI 0))] H := hP
  have hD : va_D (Aa [xo, fa, ma] H0.size) [(xo, .inr (3, [.ref fa, .ref ma])), (fa, aQ cF 4 fi), (ma, aQ cF 12 (va_up mk (j * 3 + 3 - 1) (some h))), (h, .inr (2, [.int (nI A), .int (nI B), .int (nI 0), .ref h1, .ref h2])), (h1, aN cI 256 (fun _ => 0)), (h2, aI cI 256 (fun _ => nI 0))] := va_D.same2 [xo, fa, ma, h, h1, h2] hD rfl rfl
  refine lv_aload_n hx hb d_F_make_40 rfl (lv_at hl 1 rfl) ?_
  refine va_get (D := D) (ci := 3) (v := .ref fa) (C := R_F) (T := T_F) (N := 2) hx hb (us_F G hW) (fun _ h => h) hown hK hP 0 rfl rfl 0 (by decide) (fl_F_11 G hW) (fun _ h9 => h9) rfl d_F_make_41 ?_
  refine lv_iload_n hx hb d_F_make_44 rfl (lv_at hl 2 rfl) ?_
  refine lv_aload hx hb d_F_make_45 (lv_at hl 0 rfl) ?_
  refine qa_st hx hb hK hP hD hS 1 3 2 (j := j) rfl (ca_R G hW) rfl rfl (hj) (by decide) d_F_make_47 (fun H locs hP hD hS => ?_)
  have hP : va_P D vcl [(xo, .inr (3, [.ref fa, .ref ma])), (fa, aQ cF 4 (va_up fi j (some h))), (ma, aQ cF 12 (va_up mk (j * 3 + 3 - 1) (some h))), (h, .inr (2, [.int (nI A), .int (nI B), .int (nI 0), .ref h1, .ref h2])), (h1, aN cI 256 (fun _ => 0)), (h2, aI cI 256 (fun _ => nI 0))] H := hP
  have hD : va_D (Aa [xo, fa, ma] H0.size) [(xo, .inr (3, [.ref fa, .ref ma])), (fa, aQ cF 4 (va_up fi j (some h))), (ma, aQ cF 12 (va_up mk (j * 3 + 3 - 1) (some h))), (h, .inr (2, [.int (nI A), .int (nI B), .int (nI 0), .ref h1, .ref h2])), (h1, aN cI 256 (fun _ => 0)), (h2, aI cI 256 (fun _ => nI 0))] := hD
  exact mx_vret hx hb hr hlk d_F_make_48 (Nat.le_of_ble_eq_true rfl) (Nat.le_of_ble_eq_true rfl) hS.2.2 (⟨rfl, h, h1, h2, hP, va_D.same2 [h, h1, h2] hDn rfl rfl⟩)
