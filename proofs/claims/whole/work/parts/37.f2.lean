theorem if_n1 {c : Prop} [Decidable c] {n : Nat} : (if c then nI n + nI 1 else nI n) = nI (if c then n + 1 else n) := by
  split
  · exact nI_add _ _
  · rfl
theorem addS_3n {A B n : Nat} {pu : Int32} {cs f : Nat → Nat} {x : Int64} : addS (3, A, B, nI n, pu, cs, n, f) x = (decide (n < 2 ^ A), (3, A, B, nI (if n < 2 ^ A then n + 1 else n), pu, cs, (if n < 2 ^ A then n + 1 else n), (if n < 2 ^ A then insF f n (prN A B x) else f))) := by
  rw [addS_3, if_n1]
theorem remS_3n {A B n : Nat} {pu : Int32} {cs f : Nat → Nat} {x : Int64} : remS (3, A, B, nI n, pu, cs, n, f) x = (inF f n (prN A B x), (3, A, B, nI (if inF f n (prN A B x) then n - 1 else n), pu, cs, (if inF f n (prN A B x) then n - 1 else n), (if inF f n (prN A B x) then delF f n (prN A B x) else f))) := by
  rw [remS_3]
  have e : (if inF f n (prN A B x) = true then nI n - nI 1 else nI n) = nI (if inF f n (prN A B x) = true then n - 1 else n) := by
    split
    · rename_i h
      refine pk_sub ?_
      unfold inF at h
      rw [Bool.and_eq_true] at h
      have h8 := of_decide_eq_true h.1
      omega
    · rfl
  rw [e]

theorem wth_le {n : Nat} (h : n ≤ 400) : wth (nI n) (nI 0) (nI 400) = true := by
  unfold wth
  rw [decide_eq_false (show ¬ nI n < nI 0 from nI_pos (by omega)), decide_eq_false (nI_nlt h (by decide))]
  rfl
theorem haS_t {S : FS} {k : Nat} {x st : Int64} (h : hasS S x = true) : haS S (k + 1) x st = 1 + haS S k (x + st) st := by
  show (if _ then _ else _) + _ = _
  rw [if_pos h]
theorem haS_f {S : FS} {k : Nat} {x st : Int64} (h : hasS S x = false) : haS S (k + 1) x st = haS S k (x + st) st := by
  show (if _ then _ else _) + _ = _
  rw [if_neg (by rw [h]; decide), Nat.zero_add]

set_option maxHeartbeats 4000000 in
set_option maxRecDepth 100000 in
theorem c_F_add_no {l : Launch} {s0 : State} {D : va_G} {cI cF cJ : ClassId} (G : Gx l s0 D cI cF cJ) (xo fa ma : Nat) (fi mk : Nat → Option Nat) (v : Int32) (x : Int64) {H0 : Heap} (hP : va_P D vcl [(xo, .inr (3, [.ref fa, .ref ma])), (fa, aQ cF 4 fi), (ma, aQ cF 12 mk)] H0) (hv : isNum v = false) (hon : onS s0 H0) : Mx l s0 y_F_add (.code y_F_add b_F_add 5 (some .int)) { frames := 8, cells := 1, slots := 6, locals := 160 } [.ref xo, .int v, .long x] H0 (fun _ => False) (Rq s0 (some E_I) none (fun _ => True)) := by
  refine Mx.ofW (own := "FewBits") rfl rfl ?_
  rintro p e s m below meth c ⟨hx, hb, hml, hr, hown, hW, hlk⟩ hnm het hH
  have hK := G.k hW
  have hl := lv_entry ([.ref xo, .int v, .long x]) (n := 5) (Nat.le_of_ble_eq_true rfl)
  rw [lg_entry_eq]
  generalize (lg_sl ([.ref xo, .int v, .long x]) ++ List.replicate (5 - (lg_sl ([.ref xo, .int v, .long x])).length) Slot.unset).toArray = ls at hl ⊢
  have hl : lv_has ls 5 [(0, .ref xo), (1, .int v), (2, .long x)] := hl
  refine lv_aload_n hx hb d_F_add_0 rfl (lv_at hl 0 rfl) ?_
  refine lv_iload_n hx hb d_F_add_1 rfl (lv_at hl 1 rfl) ?_
  exact mx_callT (c_F_filterAt_no G xo v hv hon) hW (iv_F_add_2 G hx hb hown hW (va_recv hK hP (ci := 3) (q0 := 0) rfl rfl) [.int v] [] rfl) hml hl.1 (by rw [hb]; exact d_F_add_2) (cd_F_filterAt G hW) ⟨Nat.le_of_ble_eq_true rfl, Nat.le_of_ble_eq_true rfl⟩ (Nat.le_of_ble_eq_true rfl) (Nat.le_of_ble_eq_true rfl) (Nat.le_of_ble_eq_true rfl) het hlk (Nat.le_of_ble_eq_true rfl) (Nat.le_of_ble_eq_true rfl) (fun _ h => nomatch h) (fun _ h => h.elim) (fun H1 q hz hk hp ho => ⟨⟨q, rfl, ho⟩, trivial⟩)

set_option maxHeartbeats 4000000 in
set_option maxRecDepth 100000 in
theorem c_F_add_none {l : Launch} {s0 : State} {D : va_G} {cI cF cJ : ClassId} (G : Gx l s0 D cI cF cJ) (xo fa ma : Nat) (fi mk : Nat → Option Nat) (j : Nat) (x : Int64) {H0 : Heap} (hP : va_P D vcl [(xo, .inr (3, [.ref fa, .ref ma])), (fa, aQ cF 4 fi), (ma, aQ cF 12 mk)] H0) (hj : j < 4) (hfi : fi j = none) (hon : onS s0 H0) : Mx l s0 y_F_add (.code y_F_add b_F_add 5 (some .int)) { frames := 7, cells := 1, slots := 6, locals := 160 } [.ref xo, .int (nI j), .long x] H0 (fun _ => False) (Rq s0 (some E_S) none (fun _ => True)) := by
  refine Mx.ofW (own := "FewBits") rfl rfl ?_
  rintro p e s m below meth c ⟨hx, hb, hml, hr, hown, hW, hlk⟩ hnm het hH
  have hK := G.k hW
  have hl := lv_entry ([.ref xo, .int (nI j), .long x]) (n := 5) (Nat.le_of_ble_eq_true rfl)
  rw [lg_entry_eq]
  generalize (lg_sl ([.ref xo, .int (nI j), .long x]) ++ List.replicate (5 - (lg_sl ([.ref xo, .int (nI j), .long x])).length) Slot.unset).toArray = ls at hl ⊢
  have hl : lv_has ls 5 [(0, .ref xo), (1, .int (nI j)), (2, .long x)] := hl
  refine lv_aload_n hx hb d_F_add_0 rfl (lv_at hl 0 rfl) ?_
  refine lv_iload_n hx hb d_F_add_1 rfl (lv_at hl 1 rfl) ?_
  exact mx_callT (c_F_filterAt_none G xo fa ma fi mk j hP hj hfi hon) hW (iv_F_add_2 G hx hb hown hW (va_recv hK hP (ci := 3) (q0 := 0) rfl rfl) [.int (nI j)] [] rfl) hml hl.1 (by rw [hb]; exact d_F_add_2) (cd_F_filterAt G hW) ⟨Nat.le_of_ble_eq_true rfl, Nat.le_of_ble_eq_true rfl⟩ (Nat.le_of_ble_eq_true rfl) (Nat.le_of_ble_eq_true rfl) (Nat.le_of_ble_eq_true rfl) het hlk (Nat.le_of_ble_eq_true rfl) (Nat.le_of_ble_eq_true rfl) (fun _ h => nomatch h) (fun _ h => h.elim) (fun H1 q hz hk hp ho => ⟨⟨q, rfl, ho⟩, trivial⟩)

set_option maxHeartbeats 4000000 in
set_option maxRecDepth 100000 in
theorem c_F_addAll_no {l : Launch} {s0 : State} {D : va_G} {cI cF cJ : ClassId} (G : Gx l s0 D cI cF cJ) (xo fa ma : Nat) (fi mk : Nat → Option Nat) (v : Int32) (x : Int64) (st : Int64) (nv : Int32) {H0 : Heap} (hP : va_P D vcl [(xo, .inr (3, [.ref fa, .ref ma])), (fa, aQ cF 4 fi), (ma, aQ cF 12 mk)] H0) (hv : isNum v = false) (hon : onS s0 H0) : Mx l s0 y_F_addAll (.code y_F_addAll b_F_addAll 11 (some .int)) { frames := 8, cells := 1, slots := 6, locals := 160 } [.ref xo, .int v, .long x, .long st, .int nv] H0 (fun _ => False) (Rq s0 (some E_I) none (fun _ => True)) := by
  refine Mx.ofW (own := "FewBits") rfl rfl ?_
  rintro p e s m below meth c ⟨hx, hb, hml, hr, hown, hW, hlk⟩ hnm het hH
  have hK := G.k hW
  have hl := lv_entry ([.ref xo, .int v, .long x, .long st, .int nv]) (n := 11) (Nat.le_of_ble_eq_true rfl)
  rw [lg_entry_eq]
  generalize (lg_sl ([.ref xo, .int v, .long x, .long st, .int nv]) ++ List.replicate (11 - (lg_sl ([.ref xo, .int v, .long x, .long st, .int nv])).length) Slot.unset).toArray = ls at hl ⊢
  have hl : lv_has ls 11 [(0, .ref xo), (1, .int v), (2, .long x), (4, .long st), (6, .int nv)] := hl
  refine lv_aload_n hx hb d_F_addAll_0 rfl (lv_at hl 0 rfl) ?_
  refine lv_iload_n hx hb d_F_addAll_1 rfl (lv_at hl 1 rfl) ?_
  exact mx_callT (c_F_filterAt_no G xo v hv hon) hW (iv_F_addAll_2 G hx hb hown hW (va_recv hK hP (ci := 3) (q0 := 0) rfl rfl) [.int v] [] rfl) hml hl.1 (by rw [hb]; exact d_F_addAll_2) (cd_F_filterAt G hW) ⟨Nat.le_of_ble_eq_true rfl, Nat.le_of_ble_eq_true rfl⟩ (Nat.le_of_ble_eq_true rfl) (Nat.le_of_ble_eq_true rfl) (Nat.le_of_ble_eq_true rfl) het hlk (Nat.le_of_ble_eq_true rfl) (Nat.le_of_ble_eq_true rfl) (fun _ h => nomatch h) (fun _ h => h.elim) (fun H1 q hz hk hp ho => ⟨⟨q, rfl, ho⟩, trivial⟩)

set_option maxHeartbeats 4000000 in
set_option maxRecDepth 100000 in
theorem c_F_addAll_none {l : Launch} {s0 : State} {D : va_G} {cI cF cJ : ClassId} (G : Gx l s0 D cI cF cJ) (xo fa ma : Nat) (fi mk : Nat → Option Nat) (j : Nat) (x : Int64) (st : Int64) (nv : Int32) {H0 : Heap} (hP : va_P D vcl [(xo, .inr (3, [.ref fa, .ref ma])), (fa, aQ cF 4 fi), (ma, aQ cF 12 mk)] H0) (hj : j < 4) (hfi : fi j = none) (hon : onS s0 H0) : Mx l s0 y_F_addAll (.code y_F_addAll b_F_addAll 11 (some .int)) { frames := 7, cells := 1, slots := 6, locals := 160 } [.ref xo, .int (nI j), .long x, .long st, .int nv] H0 (fun _ => False) (Rq s0 (some E_S) none (fun _ => True)) := by
  refine Mx.ofW (own := "FewBits") rfl rfl ?_
  rintro p e s m below meth c ⟨hx, hb, hml, hr, hown, hW, hlk⟩ hnm het hH
  have hK := G.k hW
  have hl := lv_entry ([.ref xo, .int (nI j), .long x, .long st, .int nv]) (n := 11) (Nat.le_of_ble_eq_true rfl)
  rw [lg_entry_eq]
  generalize (lg_sl ([.ref xo, .int (nI j), .long x, .long st, .int nv]) ++ List.replicate (11 - (lg_sl ([.ref xo, .int (nI j), .long x, .long st, .int nv])).length) Slot.unset).toArray = ls at hl ⊢
  have hl : lv_has ls 11 [(0, .ref xo), (1, .int (nI j)), (2, .long x), (4, .long st), (6, .int nv)] := hl
  refine lv_aload_n hx hb d_F_addAll_0 rfl (lv_at hl 0 rfl) ?_
  refine lv_iload_n hx hb d_F_addAll_1 rfl (lv_at hl 1 rfl) ?_
  exact mx_callT (c_F_filterAt_none G xo fa ma fi mk j hP hj hfi hon) hW (iv_F_addAll_2 G hx hb hown hW (va_recv hK hP (ci := 3) (q0 := 0) rfl rfl) [.int (nI j)] [] rfl) hml hl.1 (by rw [hb]; exact d_F_addAll_2) (cd_F_filterAt G hW) ⟨Nat.le_of_ble_eq_true rfl, Nat.le_of_ble_eq_true rfl⟩ (Nat.le_of_ble_eq_true rfl) (Nat.le_of_ble_eq_true rfl) (Nat.le_of_ble_eq_true rfl) het hlk (Nat.le_of_ble_eq_true rfl) (Nat.le_of_ble_eq_true rfl) (fun _ h => nomatch h) (fun _ h => h.elim) (fun H1 q hz hk hp ho => ⟨⟨q, rfl, ho⟩, trivial⟩)

set_option maxHeartbeats 4000000 in
set_option maxRecDepth 100000 in
theorem c_F_remove_no {l : Launch} {s0 : State} {D : va_G} {cI cF cJ : ClassId} (G : Gx l s0 D cI cF cJ) (xo fa ma : Nat) (fi mk : Nat → Option Nat) (v : Int32) (x : Int64) {H0 : Heap} (hP : va_P D vcl [(xo, .inr (3, [.ref fa, .ref ma])), (fa, aQ cF 4 fi), (ma, aQ cF 12 mk)] H0) (hv : isNum v = false) (hon : onS s0 H0) : Mx l s0 y_F_remove (.code y_F_remove b_F_remove 5 (some .int)) { frames := 8, cells := 1, slots := 6, locals := 160 } [.ref xo, .int v, .long x] H0 (fun _ => False) (Rq s0 (some E_I) none (fun _ => True)) := by
  refine Mx.ofW (own := "FewBits") rfl rfl ?_
  rintro p e s m below meth c ⟨hx, hb, hml, hr, hown, hW, hlk⟩ hnm het hH
  have hK := G.k hW
  have hl := lv_entry ([.ref xo, .int v, .long x]) (n := 5) (Nat.le_of_ble_eq_true rfl)
  rw [lg_entry_eq]
  generalize (lg_sl ([.ref xo, .int v, .long x]) ++ List.replicate (5 - (lg_sl ([.ref xo, .int v, .long x])).length) Slot.unset).toArray = ls at hl ⊢
  have hl : lv_has ls 5 [(0, .ref xo), (1, .int v), (2, .long x)] := hl
  refine lv_aload_n hx hb d_F_remove_0 rfl (lv_at hl 0 rfl) ?_
  refine lv_iload_n hx hb d_F_remove_1 rfl (lv_at hl 1 rfl) ?_
  exact mx_callT (c_F_filterAt_no G xo v hv hon) hW (iv_F_remove_2 G hx hb hown hW (va_recv hK hP (ci := 3) (q0 := 0) rfl rfl) [.int v] [] rfl) hml hl.1 (by rw [hb]; exact d_F_remove_2) (cd_F_filterAt G hW) ⟨Nat.le_of_ble_eq_true rfl, Nat.le_of_ble_eq_true rfl⟩ (Nat.le_of_ble_eq_true rfl) (Nat.le_of_ble_eq_true rfl) (Nat.le_of_ble_eq_true rfl) het hlk (Nat.le_of_ble_eq_true rfl) (Nat.le_of_ble_eq_true rfl) (fun _ h => nomatch h) (fun _ h => h.elim) (fun H1 q hz hk hp ho => ⟨⟨q, rfl, ho⟩, trivial⟩)

set_option maxHeartbeats 4000000 in
set_option maxRecDepth 100000 in
theorem c_F_remove_none {l : Launch} {s0 : State} {D : va_G} {cI cF cJ : ClassId} (G : Gx l s0 D cI cF cJ) (xo fa ma : Nat) (fi mk : Nat → Option Nat) (j : Nat) (x : Int64) {H0 : Heap} (hP : va_P D vcl [(xo, .inr (3, [.ref fa, .ref ma])), (fa, aQ cF 4 fi), (ma, aQ cF 12 mk)] H0) (hj : j < 4) (hfi : fi j = none) (hon : onS s0 H0) : Mx l s0 y_F_remove (.code y_F_remove b_F_remove 5 (some .int)) { frames := 7, cells := 1, slots := 6, locals := 160 } [.ref xo, .int (nI j), .long x] H0 (fun _ => False) (Rq s0 (some E_S) none (fun _ => True)) := by
  refine Mx.ofW (own := "FewBits") rfl rfl ?_
  rintro p e s m below meth c ⟨hx, hb, hml, hr, hown, hW, hlk⟩ hnm het hH
  have hK := G.k hW
  have hl := lv_entry ([.ref xo, .int (nI j), .long x]) (n := 5) (Nat.le_of_ble_eq_true rfl)
  rw [lg_entry_eq]
  generalize (lg_sl ([.ref xo, .int (nI j), .long x]) ++ List.replicate (5 - (lg_sl ([.ref xo, .int (nI j), .long x])).length) Slot.unset).toArray = ls at hl ⊢
  have hl : lv_has ls 5 [(0, .ref xo), (1, .int (nI j)), (2, .long x)] := hl
  refine lv_aload_n hx hb d_F_remove_0 rfl (lv_at hl 0 rfl) ?_
  refine lv_iload_n hx hb d_F_remove_1 rfl (lv_at hl 1 rfl) ?_
  exact mx_callT (c_F_filterAt_none G xo fa ma fi mk j hP hj hfi hon) hW (iv_F_remove_2 G hx hb hown hW (va_recv hK hP (ci := 3) (q0 := 0) rfl rfl) [.int (nI j)] [] rfl) hml hl.1 (by rw [hb]; exact d_F_remove_2) (cd_F_filterAt G hW) ⟨Nat.le_of_ble_eq_true rfl, Nat.le_of_ble_eq_true rfl⟩ (Nat.le_of_ble_eq_true rfl) (Nat.le_of_ble_eq_true rfl) (Nat.le_of_ble_eq_true rfl) het hlk (Nat.le_of_ble_eq_true rfl) (Nat.le_of_ble_eq_true rfl) (fun _ h => nomatch h) (fun _ h => h.elim) (fun H1 q hz hk hp ho => ⟨⟨q, rfl, ho⟩, trivial⟩)

set_option maxHeartbeats 4000000 in
set_option maxRecDepth 100000 in
theorem c_F_has_no {l : Launch} {s0 : State} {D : va_G} {cI cF cJ : ClassId} (G : Gx l s0 D cI cF cJ) (xo fa ma : Nat) (fi mk : Nat → Option Nat) (v : Int32) (x : Int64) {H0 : Heap} (hP : va_P D vcl [(xo, .inr (3, [.ref fa, .ref ma])), (fa, aQ cF 4 fi), (ma, aQ cF 12 mk)] H0) (hv : isNum v = false) (hon : onS s0 H0) : Mx l s0 y_F_has (.code y_F_has b_F_has 4 (some .boolean)) { frames := 8, cells := 1, slots := 6, locals := 160 } [.ref xo, .int v, .long x] H0 (fun _ => False) (Rq s0 (some E_I) none (fun _ => True)) := by
  refine Mx.ofW (own := "FewBits") rfl rfl ?_
  rintro p e s m below meth c ⟨hx, hb, hml, hr, hown, hW, hlk⟩ hnm het hH
  have hK := G.k hW
  have hl := lv_entry ([.ref xo, .int v, .long x]) (n := 4) (Nat.le_of_ble_eq_true rfl)
  rw [lg_entry_eq]
  generalize (lg_sl ([.ref xo, .int v, .long x]) ++ List.replicate (4 - (lg_sl ([.ref xo, .int v, .long x])).length) Slot.unset).toArray = ls at hl ⊢
  have hl : lv_has ls 4 [(0, .ref xo), (1, .int v), (2, .long x)] := hl
  refine lv_aload_n hx hb d_F_has_0 rfl (lv_at hl 0 rfl) ?_
  refine lv_iload_n hx hb d_F_has_1 rfl (lv_at hl 1 rfl) ?_
  exact mx_callT (c_F_filterAt_no G xo v hv hon) hW (iv_F_has_2 G hx hb hown hW (va_recv hK hP (ci := 3) (q0 := 0) rfl rfl) [.int v] [] rfl) hml hl.1 (by rw [hb]; exact d_F_has_2) (cd_F_filterAt G hW) ⟨Nat.le_of_ble_eq_true rfl, Nat.le_of_ble_eq_true rfl⟩ (Nat.le_of_ble_eq_true rfl) (Nat.le_of_ble_eq_true rfl) (Nat.le_of_ble_eq_true rfl) het hlk (Nat.le_of_ble_eq_true rfl) (Nat.le_of_ble_eq_true rfl) (fun _ h => nomatch h) (fun _ h => h.elim) (fun H1 q hz hk hp ho => ⟨⟨q, rfl, ho⟩, trivial⟩)

set_option maxHeartbeats 4000000 in
set_option maxRecDepth 100000 in
theorem c_F_has_none {l : Launch} {s0 : State} {D : va_G} {cI cF cJ : ClassId} (G : Gx l s0 D cI cF cJ) (xo fa ma : Nat) (fi mk : Nat → Option Nat) (j : Nat) (x : Int64) {H0 : Heap} (hP : va_P D vcl [(xo, .inr (3, [.ref fa, .ref ma])), (fa, aQ cF 4 fi), (ma, aQ cF 12 mk)] H0) (hj : j < 4) (hfi : fi j = none) (hon : onS s0 H0) : Mx l s0 y_F_has (.code y_F_has b_F_has 4 (some .boolean)) { frames := 7, cells := 1, slots := 6, locals := 160 } [.ref xo, .int (nI j), .long x] H0 (fun _ => False) (Rq s0 (some E_S) none (fun _ => True)) := by
  refine Mx.ofW (own := "FewBits") rfl rfl ?_
  rintro p e s m below meth c ⟨hx, hb, hml, hr, hown, hW, hlk⟩ hnm het hH
  have hK := G.k hW
  have hl := lv_entry ([.ref xo, .int (nI j), .long x]) (n := 4) (Nat.le_of_ble_eq_true rfl)
  rw [lg_entry_eq]
  generalize (lg_sl ([.ref xo, .int (nI j), .long x]) ++ List.replicate (4 - (lg_sl ([.ref xo, .int (nI j), .long x])).length) Slot.unset).toArray = ls at hl ⊢
  have hl : lv_has ls 4 [(0, .ref xo), (1, .int (nI j)), (2, .long x)] := hl
  refine lv_aload_n hx hb d_F_has_0 rfl (lv_at hl 0 rfl) ?_
  refine lv_iload_n hx hb d_F_has_1 rfl (lv_at hl 1 rfl) ?_
  exact mx_callT (c_F_filterAt_none G xo fa ma fi mk j hP hj hfi hon) hW (iv_F_has_2 G hx hb hown hW (va_recv hK hP (ci := 3) (q0 := 0) rfl rfl) [.int (nI j)] [] rfl) hml hl.1 (by rw [hb]; exact d_F_has_2) (cd_F_filterAt G hW) ⟨Nat.le_of_ble_eq_true rfl, Nat.le_of_ble_eq_true rfl⟩ (Nat.le_of_ble_eq_true rfl) (Nat.le_of_ble_eq_true rfl) (Nat.le_of_ble_eq_true rfl) het hlk (Nat.le_of_ble_eq_true rfl) (Nat.le_of_ble_eq_true rfl) (fun _ h => nomatch h) (fun _ h => h.elim) (fun H1 q hz hk hp ho => ⟨⟨q, rfl, ho⟩, trivial⟩)

set_option maxHeartbeats 4000000 in
set_option maxRecDepth 100000 in
theorem c_F_hasAll_no {l : Launch} {s0 : State} {D : va_G} {cI cF cJ : ClassId} (G : Gx l s0 D cI cF cJ) (xo fa ma : Nat) (fi mk : Nat → Option Nat) (v : Int32) (x : Int64) (st : Int64) (nv : Int32) {H0 : Heap} (hP : va_P D vcl [(xo, .inr (3, [.ref fa, .ref ma])), (fa, aQ cF 4 fi), (ma, aQ cF 12 mk)] H0) (hv : isNum v = false) (hon : onS s0 H0) : Mx l s0 y_F_hasAll (.code y_F_hasAll b_F_hasAll 12 (some .int)) { frames := 8, cells := 1, slots := 6, locals := 160 } [.ref xo, .int v, .long x, .long st, .int nv] H0 (fun _ => False) (Rq s0 (some E_I) none (fun _ => True)) := by
  refine Mx.ofW (own := "FewBits") rfl rfl ?_
  rintro p e s m below meth c ⟨hx, hb, hml, hr, hown, hW, hlk⟩ hnm het hH
  have hK := G.k hW
  have hl := lv_entry ([.ref xo, .int v, .long x, .long st, .int nv]) (n := 12) (Nat.le_of_ble_eq_true rfl)
  rw [lg_entry_eq]
  generalize (lg_sl ([.ref xo, .int v, .long x, .long st, .int nv]) ++ List.replicate (12 - (lg_sl ([.ref xo, .int v, .long x, .long st, .int nv])).length) Slot.unset).toArray = ls at hl ⊢
  have hl : lv_has ls 12 [(0, .ref xo), (1, .int v), (2, .long x), (4, .long st), (6, .int nv)] := hl
  refine lv_aload_n hx hb d_F_hasAll_0 rfl (lv_at hl 0 rfl) ?_
  refine lv_iload_n hx hb d_F_hasAll_1 rfl (lv_at hl 1 rfl) ?_
  exact mx_callT (c_F_filterAt_no G xo v hv hon) hW (iv_F_hasAll_2 G hx hb hown hW (va_recv hK hP (ci := 3) (q0 := 0) rfl rfl) [.int v] [] rfl) hml hl.1 (by rw [hb]; exact d_F_hasAll_2) (cd_F_filterAt G hW) ⟨Nat.le_of_ble_eq_true rfl, Nat.le_of_ble_eq_true rfl⟩ (Nat.le_of_ble_eq_true rfl) (Nat.le_of_ble_eq_true rfl) (Nat.le_of_ble_eq_true rfl) het hlk (Nat.le_of_ble_eq_true rfl) (Nat.le_of_ble_eq_true rfl) (fun _ h => nomatch h) (fun _ h => h.elim) (fun H1 q hz hk hp ho => ⟨⟨q, rfl, ho⟩, trivial⟩)

set_option maxHeartbeats 4000000 in
set_option maxRecDepth 100000 in
theorem c_F_hasAll_none {l : Launch} {s0 : State} {D : va_G} {cI cF cJ : ClassId} (G : Gx l s0 D cI cF cJ) (xo fa ma : Nat) (fi mk : Nat → Option Nat) (j : Nat) (x : Int64) (st : Int64) (nv : Int32) {H0 : Heap} (hP : va_P D vcl [(xo, .inr (3, [.ref fa, .ref ma])), (fa, aQ cF 4 fi), (ma, aQ cF 12 mk)] H0) (hj : j < 4) (hfi : fi j = none) (hon : onS s0 H0) : Mx l s0 y_F_hasAll (.code y_F_hasAll b_F_hasAll 12 (some .int)) { frames := 7, cells := 1, slots := 6, locals := 160 } [.ref xo, .int (nI j), .long x, .long st, .int nv] H0 (fun _ => False) (Rq s0 (some E_S) none (fun _ => True)) := by
  refine Mx.ofW (own := "FewBits") rfl rfl ?_
  rintro p e s m below meth c ⟨hx, hb, hml, hr, hown, hW, hlk⟩ hnm het hH
  have hK := G.k hW
  have hl := lv_entry ([.ref xo, .int (nI j), .long x, .long st, .int nv]) (n := 12) (Nat.le_of_ble_eq_true rfl)
  rw [lg_entry_eq]
  generalize (lg_sl ([.ref xo, .int (nI j), .long x, .long st, .int nv]) ++ List.replicate (12 - (lg_sl ([.ref xo, .int (nI j), .long x, .long st, .int nv])).length) Slot.unset).toArray = ls at hl ⊢
  have hl : lv_has ls 12 [(0, .ref xo), (1, .int (nI j)), (2, .long x), (4, .long st), (6, .int nv)] := hl
  refine lv_aload_n hx hb d_F_hasAll_0 rfl (lv_at hl 0 rfl) ?_
  refine lv_iload_n hx hb d_F_hasAll_1 rfl (lv_at hl 1 rfl) ?_
  exact mx_callT (c_F_filterAt_none G xo fa ma fi mk j hP hj hfi hon) hW (iv_F_hasAll_2 G hx hb hown hW (va_recv hK hP (ci := 3) (q0 := 0) rfl rfl) [.int (nI j)] [] rfl) hml hl.1 (by rw [hb]; exact d_F_hasAll_2) (cd_F_filterAt G hW) ⟨Nat.le_of_ble_eq_true rfl, Nat.le_of_ble_eq_true rfl⟩ (Nat.le_of_ble_eq_true rfl) (Nat.le_of_ble_eq_true rfl) (Nat.le_of_ble_eq_true rfl) het hlk (Nat.le_of_ble_eq_true rfl) (Nat.le_of_ble_eq_true rfl) (fun _ h => nomatch h) (fun _ h => h.elim) (fun H1 q hz hk hp ho => ⟨⟨q, rfl, ho⟩, trivial⟩)

set_option maxHeartbeats 4000000 in
set_option maxRecDepth 100000 in
theorem c_F_same_no {l : Launch} {s0 : State} {D : va_G} {cI cF cJ : ClassId} (G : Gx l s0 D cI cF cJ) (xo fa ma : Nat) (fi mk : Nat → Option Nat) (v : Int32) (x : Int64) (y : Int64) {H0 : Heap} (hP : va_P D vcl [(xo, .inr (3, [.ref fa, .ref ma])), (fa, aQ cF 4 fi), (ma, aQ cF 12 mk)] H0) (hv : isNum v = false) (hon : onS s0 H0) : Mx l s0 y_F_same (.code y_F_same b_F_same 6 (some .boolean)) { frames := 8, cells := 1, slots := 6, locals := 160 } [.ref xo, .int v, .long x, .long y] H0 (fun _ => False) (Rq s0 (some E_I) none (fun _ => True)) := by
  refine Mx.ofW (own := "FewBits") rfl rfl ?_
  rintro p e s m below meth c ⟨hx, hb, hml, hr, hown, hW, hlk⟩ hnm het hH
  have hK := G.k hW
  have hl := lv_entry ([.ref xo, .int v, .long x, .long y]) (n := 6) (Nat.le_of_ble_eq_true rfl)
  rw [lg_entry_eq]
  generalize (lg_sl ([.ref xo, .int v, .long x, .long y]) ++ List.replicate (6 - (lg_sl ([.ref xo, .int v, .long x, .long y])).length) Slot.unset).toArray = ls at hl ⊢
  have hl : lv_has ls 6 [(0, .ref xo), (1, .int v), (2, .long x), (4, .long y)] := hl
  refine lv_aload_n hx hb d_F_same_0 rfl (lv_at hl 0 rfl) ?_
  refine lv_iload_n hx hb d_F_same_1 rfl (lv_at hl 1 rfl) ?_
  exact mx_callT (c_F_filterAt_no G xo v hv hon) hW (iv_F_same_2 G hx hb hown hW (va_recv hK hP (ci := 3) (q0 := 0) rfl rfl) [.int v] [] rfl) hml hl.1 (by rw [hb]; exact d_F_same_2) (cd_F_filterAt G hW) ⟨Nat.le_of_ble_eq_true rfl, Nat.le_of_ble_eq_true rfl⟩ (Nat.le_of_ble_eq_true rfl) (Nat.le_of_ble_eq_true rfl) (Nat.le_of_ble_eq_true rfl) het hlk (Nat.le_of_ble_eq_true rfl) (Nat.le_of_ble_eq_true rfl) (fun _ h => nomatch h) (fun _ h => h.elim) (fun H1 q hz hk hp ho => ⟨⟨q, rfl, ho⟩, trivial⟩)

set_option maxHeartbeats 4000000 in
set_option maxRecDepth 100000 in
theorem c_F_same_none {l : Launch} {s0 : State} {D : va_G} {cI cF cJ : ClassId} (G : Gx l s0 D cI cF cJ) (xo fa ma : Nat) (fi mk : Nat → Option Nat) (j : Nat) (x : Int64) (y : Int64) {H0 : Heap} (hP : va_P D vcl [(xo, .inr (3, [.ref fa, .ref ma])), (fa, aQ cF 4 fi), (ma, aQ cF 12 mk)] H0) (hj : j < 4) (hfi : fi j = none) (hon : onS s0 H0) : Mx l s0 y_F_same (.code y_F_same b_F_same 6 (some .boolean)) { frames := 7, cells := 1, slots := 6, locals := 160 } [.ref xo, .int (nI j), .long x, .long y] H0 (fun _ => False) (Rq s0 (some E_S) none (fun _ => True)) := by
  refine Mx.ofW (own := "FewBits") rfl rfl ?_
  rintro p e s m below meth c ⟨hx, hb, hml, hr, hown, hW, hlk⟩ hnm het hH
  have hK := G.k hW
  have hl := lv_entry ([.ref xo, .int (nI j), .long x, .long y]) (n := 6) (Nat.le_of_ble_eq_true rfl)
  rw [lg_entry_eq]
  generalize (lg_sl ([.ref xo, .int (nI j), .long x, .long y]) ++ List.replicate (6 - (lg_sl ([.ref xo, .int (nI j), .long x, .long y])).length) Slot.unset).toArray = ls at hl ⊢
  have hl : lv_has ls 6 [(0, .ref xo), (1, .int (nI j)), (2, .long x), (4, .long y)] := hl
  refine lv_aload_n hx hb d_F_same_0 rfl (lv_at hl 0 rfl) ?_
  refine lv_iload_n hx hb d_F_same_1 rfl (lv_at hl 1 rfl) ?_
  exact mx_callT (c_F_filterAt_none G xo fa ma fi mk j hP hj hfi hon) hW (iv_F_same_2 G hx hb hown hW (va_recv hK hP (ci := 3) (q0 := 0) rfl rfl) [.int (nI j)] [] rfl) hml hl.1 (by rw [hb]; exact d_F_same_2) (cd_F_filterAt G hW) ⟨Nat.le_of_ble_eq_true rfl, Nat.le_of_ble_eq_true rfl⟩ (Nat.le_of_ble_eq_true rfl) (Nat.le_of_ble_eq_true rfl) (Nat.le_of_ble_eq_true rfl) het hlk (Nat.le_of_ble_eq_true rfl) (Nat.le_of_ble_eq_true rfl) (fun _ h => nomatch h) (fun _ h => h.elim) (fun H1 q hz hk hp ho => ⟨⟨q, rfl, ho⟩, trivial⟩)

set_option maxHeartbeats 4000000 in
set_option maxRecDepth 100000 in
theorem c_F_count_no {l : Launch} {s0 : State} {D : va_G} {cI cF cJ : ClassId} (G : Gx l s0 D cI cF cJ) (xo fa ma : Nat) (fi mk : Nat → Option Nat) (v : Int32) (wv : Int32) {H0 : Heap} (hP : va_P D vcl [(xo, .inr (3, [.ref fa, .ref ma])), (fa, aQ cF 4 fi), (ma, aQ cF 12 mk)] H0) (hv : isNum v = false) (hon : onS s0 H0) : Mx l s0 y_F_count (.code y_F_count b_F_count 4 (some .int)) { frames := 8, cells := 1, slots := 6, locals := 160 } [.ref xo, .int v, .int wv] H0 (fun _ => False) (Rq s0 (some E_I) none (fun _ => True)) := by
  refine Mx.ofW (own := "FewBits") rfl rfl ?_
  rintro p e s m below meth c ⟨hx, hb, hml, hr, hown, hW, hlk⟩ hnm het hH
  have hK := G.k hW
  have hl := lv_entry ([.ref xo, .int v, .int wv]) (n := 4) (Nat.le_of_ble_eq_true rfl)
  rw [lg_entry_eq]
  generalize (lg_sl ([.ref xo, .int v, .int wv]) ++ List.replicate (4 - (lg_sl ([.ref xo, .int v, .int wv])).length) Slot.unset).toArray = ls at hl ⊢
  have hl : lv_has ls 4 [(0, .ref xo), (1, .int v), (2, .int wv)] := hl
  refine lv_aload_n hx hb d_F_count_0 rfl (lv_at hl 0 rfl) ?_
  refine lv_iload_n hx hb d_F_count_1 rfl (lv_at hl 1 rfl) ?_
  exact mx_callT (c_F_filterAt_no G xo v hv hon) hW (iv_F_count_2 G hx hb hown hW (va_recv hK hP (ci := 3) (q0 := 0) rfl rfl) [.int v] [] rfl) hml hl.1 (by rw [hb]; exact d_F_count_2) (cd_F_filterAt G hW) ⟨Nat.le_of_ble_eq_true rfl, Nat.le_of_ble_eq_true rfl⟩ (Nat.le_of_ble_eq_true rfl) (Nat.le_of_ble_eq_true rfl) (Nat.le_of_ble_eq_true rfl) het hlk (Nat.le_of_ble_eq_true rfl) (Nat.le_of_ble_eq_true rfl) (fun _ h => nomatch h) (fun _ h => h.elim) (fun H1 q hz hk hp ho => ⟨⟨q, rfl, ho⟩, trivial⟩)

set_option maxHeartbeats 4000000 in
set_option maxRecDepth 100000 in
theorem c_F_count_none {l : Launch} {s0 : State} {D : va_G} {cI cF cJ : ClassId} (G : Gx l s0 D cI cF cJ) (xo fa ma : Nat) (fi mk : Nat → Option Nat) (j : Nat) (wv : Int32) {H0 : Heap} (hP : va_P D vcl [(xo, .inr (3, [.ref fa, .ref ma])), (fa, aQ cF 4 fi), (ma, aQ cF 12 mk)] H0) (hj : j < 4) (hfi : fi j = none) (hon : onS s0 H0) : Mx l s0 y_F_count (.code y_F_count b_F_count 4 (some .int)) { frames := 7, cells := 1, slots := 6, locals := 160 } [.ref xo, .int (nI j), .int wv] H0 (fun _ => False) (Rq s0 (some E_S) none (fun _ => True)) := by
  refine Mx.ofW (own := "FewBits") rfl rfl ?_
  rintro p e s m below meth c ⟨hx, hb, hml, hr, hown, hW, hlk⟩ hnm het hH
  have hK := G.k hW
  have hl := lv_entry ([.ref xo, .int (nI j), .int wv]) (n := 4) (Nat.le_of_ble_eq_true rfl)
  rw [lg_entry_eq]
  generalize (lg_sl ([.ref xo, .int (nI j), .int wv]) ++ List.replicate (4 - (lg_sl ([.ref xo, .int (nI j), .int wv])).length) Slot.unset).toArray = ls at hl ⊢
  have hl : lv_has ls 4 [(0, .ref xo), (1, .int (nI j)), (2, .int wv)] := hl
  refine lv_aload_n hx hb d_F_count_0 rfl (lv_at hl 0 rfl) ?_
  refine lv_iload_n hx hb d_F_count_1 rfl (lv_at hl 1 rfl) ?_
  exact mx_callT (c_F_filterAt_none G xo fa ma fi mk j hP hj hfi hon) hW (iv_F_count_2 G hx hb hown hW (va_recv hK hP (ci := 3) (q0 := 0) rfl rfl) [.int (nI j)] [] rfl) hml hl.1 (by rw [hb]; exact d_F_count_2) (cd_F_filterAt G hW) ⟨Nat.le_of_ble_eq_true rfl, Nat.le_of_ble_eq_true rfl⟩ (Nat.le_of_ble_eq_true rfl) (Nat.le_of_ble_eq_true rfl) (Nat.le_of_ble_eq_true rfl) het hlk (Nat.le_of_ble_eq_true rfl) (Nat.le_of_ble_eq_true rfl) (fun _ h => nomatch h) (fun _ h => h.elim) (fun H1 q hz hk hp ho => ⟨⟨q, rfl, ho⟩, trivial⟩)

set_option maxHeartbeats 4000000 in
set_option maxRecDepth 100000 in
theorem c_F_grow_no {l : Launch} {s0 : State} {D : va_G} {cI cF cJ : ClassId} (G : Gx l s0 D cI cF cJ) (xo fa ma : Nat) (fi mk : Nat → Option Nat) (v : Int32)  {H0 : Heap} (hP : va_P D vcl [(xo, .inr (3, [.ref fa, .ref ma])), (fa, aQ cF 4 fi), (ma, aQ cF 12 mk)] H0) (hv : isNum v = false) (hon : onS s0 H0) : Mx l s0 y_F_grow (.code y_F_grow b_F_grow 3 none) { frames := 8, cells := 1, slots := 6, locals := 160 } [.ref xo, .int v] H0 (fun _ => False) (Rq s0 (some E_I) none (fun _ => True)) := by
  refine Mx.ofW (own := "FewBits") rfl rfl ?_
  rintro p e s m below meth c ⟨hx, hb, hml, hr, hown, hW, hlk⟩ hnm het hH
  have hK := G.k hW
  have hl := lv_entry ([.ref xo, .int v]) (n := 3) (Nat.le_of_ble_eq_true rfl)
  rw [lg_entry_eq]
  generalize (lg_sl ([.ref xo, .int v]) ++ List.replicate (3 - (lg_sl ([.ref xo, .int v])).length) Slot.unset).toArray = ls at hl ⊢
  have hl : lv_has ls 3 [(0, .ref xo), (1, .int v)] := hl
  refine lv_aload_n hx hb d_F_grow_0 rfl (lv_at hl 0 rfl) ?_
  refine lv_iload_n hx hb d_F_grow_1 rfl (lv_at hl 1 rfl) ?_
  exact mx_callT (c_F_filterAt_no G xo v hv hon) hW (iv_F_grow_2 G hx hb hown hW (va_recv hK hP (ci := 3) (q0 := 0) rfl rfl) [.int v] [] rfl) hml hl.1 (by rw [hb]; exact d_F_grow_2) (cd_F_filterAt G hW) ⟨Nat.le_of_ble_eq_true rfl, Nat.le_of_ble_eq_true rfl⟩ (Nat.le_of_ble_eq_true rfl) (Nat.le_of_ble_eq_true rfl) (Nat.le_of_ble_eq_true rfl) het hlk (Nat.le_of_ble_eq_true rfl) (Nat.le_of_ble_eq_true rfl) (fun _ h => nomatch h) (fun _ h => h.elim) (fun H1 q hz hk hp ho => ⟨⟨q, rfl, ho⟩, trivial⟩)

set_option maxHeartbeats 4000000 in
set_option maxRecDepth 100000 in
theorem c_F_grow_none {l : Launch} {s0 : State} {D : va_G} {cI cF cJ : ClassId} (G : Gx l s0 D cI cF cJ) (xo fa ma : Nat) (fi mk : Nat → Option Nat) (j : Nat)  {H0 : Heap} (hP : va_P D vcl [(xo, .inr (3, [.ref fa, .ref ma])), (fa, aQ cF 4 fi), (ma, aQ cF 12 mk)] H0) (hj : j < 4) (hfi : fi j = none) (hon : onS s0 H0) : Mx l s0 y_F_grow (.code y_F_grow b_F_grow 3 none) { frames := 7, cells := 1, slots := 6, locals := 160 } [.ref xo, .int (nI j)] H0 (fun _ => False) (Rq s0 (some E_S) none (fun _ => True)) := by
  refine Mx.ofW (own := "FewBits") rfl rfl ?_
  rintro p e s m below meth c ⟨hx, hb, hml, hr, hown, hW, hlk⟩ hnm het hH
  have hK := G.k hW
  have hl := lv_entry ([.ref xo, .int (nI j)]) (n := 3) (Nat.le_of_ble_eq_true rfl)
  rw [lg_entry_eq]
  generalize (lg_sl ([.ref xo, .int (nI j)]) ++ List.replicate (3 - (lg_sl ([.ref xo, .int (nI j)])).length) Slot.unset).toArray = ls at hl ⊢
  have hl : lv_has ls 3 [(0, .ref xo), (1, .int (nI j))] := hl
  refine lv_aload_n hx hb d_F_grow_0 rfl (lv_at hl 0 rfl) ?_
  refine lv_iload_n hx hb d_F_grow_1 rfl (lv_at hl 1 rfl) ?_
  exact mx_callT (c_F_filterAt_none G xo fa ma fi mk j hP hj hfi hon) hW (iv_F_grow_2 G hx hb hown hW (va_recv hK hP (ci := 3) (q0 := 0) rfl rfl) [.int (nI j)] [] rfl) hml hl.1 (by rw [hb]; exact d_F_grow_2) (cd_F_filterAt G hW) ⟨Nat.le_of_ble_eq_true rfl, Nat.le_of_ble_eq_true rfl⟩ (Nat.le_of_ble_eq_true rfl) (Nat.le_of_ble_eq_true rfl) (Nat.le_of_ble_eq_true rfl) het hlk (Nat.le_of_ble_eq_true rfl) (Nat.le_of_ble_eq_true rfl) (fun _ h => nomatch h) (fun _ h => h.elim) (fun H1 q hz hk hp ho => ⟨⟨q, rfl, ho⟩, trivial⟩)

set_option maxHeartbeats 4000000 in
set_option maxRecDepth 100000 in
theorem c_F_clear_no {l : Launch} {s0 : State} {D : va_G} {cI cF cJ : ClassId} (G : Gx l s0 D cI cF cJ) (xo fa ma : Nat) (fi mk : Nat → Option Nat) (v : Int32)  {H0 : Heap} (hP : va_P D vcl [(xo, .inr (3, [.ref fa, .ref ma])), (fa, aQ cF 4 fi), (ma, aQ cF 12 mk)] H0) (hv : isNum v = false) (hon : onS s0 H0) : Mx l s0 y_F_clear (.code y_F_clear b_F_clear 4 (some .int)) { frames := 8, cells := 1, slots := 6, locals := 160 } [.ref xo, .int v] H0 (fun _ => False) (Rq s0 (some E_I) none (fun _ => True)) := by
  refine Mx.ofW (own := "FewBits") rfl rfl ?_
  rintro p e s m below meth c ⟨hx, hb, hml, hr, hown, hW, hlk⟩ hnm het hH
  have hK := G.k hW
  have hl := lv_entry ([.ref xo, .int v]) (n := 4) (Nat.le_of_ble_eq_true rfl)
  rw [lg_entry_eq]
  generalize (lg_sl ([.ref xo, .int v]) ++ List.replicate (4 - (lg_sl ([.ref xo, .int v])).length) Slot.unset).toArray = ls at hl ⊢
  have hl : lv_has ls 4 [(0, .ref xo), (1, .int v)] := hl
  refine lv_aload_n hx hb d_F_clear_0 rfl (lv_at hl 0 rfl) ?_
  refine lv_iload_n hx hb d_F_clear_1 rfl (lv_at hl 1 rfl) ?_
  exact mx_callT (c_F_filterAt_no G xo v hv hon) hW (iv_F_clear_2 G hx hb hown hW (va_recv hK hP (ci := 3) (q0 := 0) rfl rfl) [.int v] [] rfl) hml hl.1 (by rw [hb]; exact d_F_clear_2) (cd_F_filterAt G hW) ⟨Nat.le_of_ble_eq_true rfl, Nat.le_of_ble_eq_true rfl⟩ (Nat.le_of_ble_eq_true rfl) (Nat.le_of_ble_eq_true rfl) (Nat.le_of_ble_eq_true rfl) het hlk (Nat.le_of_ble_eq_true rfl) (Nat.le_of_ble_eq_true rfl) (fun _ h => nomatch h) (fun _ h => h.elim) (fun H1 q hz hk hp ho => ⟨⟨q, rfl, ho⟩, trivial⟩)

set_option maxHeartbeats 4000000 in
set_option maxRecDepth 100000 in
theorem c_F_clear_none {l : Launch} {s0 : State} {D : va_G} {cI cF cJ : ClassId} (G : Gx l s0 D cI cF cJ) (xo fa ma : Nat) (fi mk : Nat → Option Nat) (j : Nat)  {H0 : Heap} (hP : va_P D vcl [(xo, .inr (3, [.ref fa, .ref ma])), (fa, aQ cF 4 fi), (ma, aQ cF 12 mk)] H0) (hj : j < 4) (hfi : fi j = none) (hon : onS s0 H0) : Mx l s0 y_F_clear (.code y_F_clear b_F_clear 4 (some .int)) { frames := 7, cells := 1, slots := 6, locals := 160 } [.ref xo, .int (nI j)] H0 (fun _ => False) (Rq s0 (some E_S) none (fun _ => True)) := by
  refine Mx.ofW (own := "FewBits") rfl rfl ?_
  rintro p e s m below meth c ⟨hx, hb, hml, hr, hown, hW, hlk⟩ hnm het hH
  have hK := G.k hW
  have hl := lv_entry ([.ref xo, .int (nI j)]) (n := 4) (Nat.le_of_ble_eq_true rfl)
  rw [lg_entry_eq]
  generalize (lg_sl ([.ref xo, .int (nI j)]) ++ List.replicate (4 - (lg_sl ([.ref xo, .int (nI j)])).length) Slot.unset).toArray = ls at hl ⊢
  have hl : lv_has ls 4 [(0, .ref xo), (1, .int (nI j))] := hl
  refine lv_aload_n hx hb d_F_clear_0 rfl (lv_at hl 0 rfl) ?_
  refine lv_iload_n hx hb d_F_clear_1 rfl (lv_at hl 1 rfl) ?_
  exact mx_callT (c_F_filterAt_none G xo fa ma fi mk j hP hj hfi hon) hW (iv_F_clear_2 G hx hb hown hW (va_recv hK hP (ci := 3) (q0 := 0) rfl rfl) [.int (nI j)] [] rfl) hml hl.1 (by rw [hb]; exact d_F_clear_2) (cd_F_filterAt G hW) ⟨Nat.le_of_ble_eq_true rfl, Nat.le_of_ble_eq_true rfl⟩ (Nat.le_of_ble_eq_true rfl) (Nat.le_of_ble_eq_true rfl) (Nat.le_of_ble_eq_true rfl) het hlk (Nat.le_of_ble_eq_true rfl) (Nat.le_of_ble_eq_true rfl) (fun _ h => nomatch h) (fun _ h => h.elim) (fun H1 q hz hk hp ho => ⟨⟨q, rfl, ho⟩, trivial⟩)

set_option maxHeartbeats 4000000 in
set_option maxRecDepth 100000 in
theorem c_F_add_C {l : Launch} {s0 : State} {D : va_G} {cI cF cJ : ClassId} (G : Gx l s0 D cI cF cJ) (xo fa ma : Nat) (fi mk : Nat → Option Nat) (h h1 h2 h3 A B : Nat) (hd pv : Int32) (cs pl pb : Nat → Nat) (n0 : Nat) (f0 : Nat → Nat) (j : Nat) (x : Int64) {H0 : Heap} {A0 : Nat → Prop} (hP : va_P D vcl [(xo, .inr (3, [.ref fa, .ref ma])), (fa, aQ cF 4 fi), (ma, aQ cF 12 mk), (h, .inr (0, [.int (nI A), .int (nI B), .int hd, .ref h1, .ref h2, .ref h3])), (h1, aN cI 1024 cs), (h2, aN cI 6 pl), (h3, aN cI 6 pb)] H0) (hD : va_D A0 [(xo, .inr (3, [.ref fa, .ref ma])), (fa, aQ cF 4 fi), (ma, aQ cF 12 mk), (h, .inr (0, [.int (nI A), .int (nI B), .int hd, .ref h1, .ref h2, .ref h3])), (h1, aN cI 1024 cs), (h2, aN cI 6 pl), (h3, aN cI 6 pb)]) (hok : okS (1, A, B, hd, pv, cs, n0, f0)) (hj : j < 4) (hfi : fi j = some h) (hon : onS s0 H0) (had : ∀ q ∈ [xo, fa, ma, h, h1, h2, h3], s0.heap.size ≤ q)  : Mx l s0 y_F_add (.code y_F_add b_F_add 5 (some .int)) { frames := 7, cells := 1, slots := 6, locals := 160 } [.ref xo, .int (nI j), .long x] H0 (Aa [xo, fa, ma, h, h1, h2, h3] H0.size) (Rq s0 (if (allN (fitA cs (plx A x) B) B) then none else some E_U) (some (.int (if (allN (fitA cs (plx A x) B) B) then hd + nI 1 else hd))) (fun H1 => va_P D vcl [(xo, .inr (3, [.ref fa, .ref ma])), (fa, aQ cF 4 fi), (ma, aQ cF 12 mk), (h, .inr (0, [.int (nI A), .int (nI B), .int (if (allN (fitA cs (plx A x) B) B) then hd + nI 1 else hd), .ref h1, .ref h2, .ref h3])), (h1, aN cI 1024 (if (allN (fitA cs (plx A x) B) B) then addC cs (plx A x) B else cs)), (h2, aN cI 6 (fpr A x pl B)), (h3, aN cI 6 pb)] H1)) := by
  refine Mx.ofW (own := "FewBits") rfl rfl ?_
  rintro p e s m below meth c ⟨hx, hb, hml, hr, hown, hW, hlk⟩ hnm het hH
  have hK := G.k hW
  have hD := hD.aa (sz := H0.size)
  have hD : va_D (Aa [xo, fa, ma, h, h1, h2, h3] H0.size) [(xo, .inr (3, [.ref fa, .ref ma])), (fa, aQ cF 4 fi), (ma, aQ cF 12 mk), (h, .inr (0, [.int (nI A), .int (nI B), .int hd, .ref h1, .ref h2, .ref h3])), (h1, aN cI 1024 cs), (h2, aN cI 6 pl), (h3, aN cI 6 pb)] := hD
  have hS : va_S (Aa [xo, fa, ma, h, h1, h2, h3] H0.size) H0 H0 [] := va_S.rf
  have hq := okS_1.mp hok
  have hA : A ≤ 10 := hq.2.1
  have hB : B ≤ 6 := hq.2.2.2.1
  have hc1 := hq.2.2.2.2.1
  have hl := lv_entry ([.ref xo, .int (nI j), .long x]) (n := 5) (Nat.le_of_ble_eq_true rfl)
  rw [lg_entry_eq]
  generalize (lg_sl ([.ref xo, .int (nI j), .long x]) ++ List.replicate (5 - (lg_sl ([.ref xo, .int (nI j), .long x])).length) Slot.unset).toArray = ls at hl ⊢
  have hl : lv_has ls 5 [(0, .ref xo), (1, .int (nI j)), (2, .long x)] := hl
  refine lv_aload_n hx hb d_F_add_0 rfl (lv_at hl 0 rfl) ?_
  refine lv_iload_n hx hb d_F_add_1 rfl (lv_at hl 1 rfl) ?_
  refine mx_callR (r := .ref h) (c_F_filterAt G xo fa ma fi mk j h (hP.sub [0, 1, 2] rfl) hj hfi) hW (iv_F_add_2 G hx hb hown hW (va_recv hK hP (ci := 3) (q0 := 0) rfl rfl) [.int (nI j)] [] rfl) hml hl.1 (by rw [hb]; exact d_F_add_2) (cd_F_filterAt G hW) ⟨Nat.le_of_ble_eq_true rfl, Nat.le_of_ble_eq_true rfl⟩ rfl rfl (Nat.le_of_ble_eq_true rfl) (Nat.le_of_ble_eq_true rfl) (Nat.le_of_ble_eq_true rfl) ?_
  refine lv_astore (lv' := [(4, .ref h), (0, .ref xo), (1, .int (nI j)), (2, .long x)]) hx hb d_F_add_5 hl (by decide) rfl (fun ls hl => ?_)
  refine lv_aload hx hb d_F_add_7 (lv_at hl 0 rfl) ?_
  refine lv_lload_n hx hb d_F_add_9 rfl (lv_at hl 3 rfl) ?_
  refine mx_callW (r := .int (bI (allN (fitA cs (plx A x) B) B))) (c_P_accept_C G h h1 h2 h3 A B hd cs pl pb x (hP.sub [3, 4, 5, 6] rfl) (hD.sub [3, 4, 5, 6] rfl rfl) hA hB hc1) hW (iv_F_add_10_C G hx hb hown hW (va_recv hK hP (ci := 0) (q0 := 3) rfl rfl) [.long x] [] rfl) hml hl.1 (by rw [hb]; exact d_F_add_10) (cd_P_accept G hW) ⟨Nat.le_of_ble_eq_true rfl, Nat.le_of_ble_eq_true rfl⟩ (Nat.le_of_ble_eq_true rfl) (Nat.le_of_ble_eq_true rfl) (Nat.le_of_ble_eq_true rfl) hS (Aa.mono (fun _ h => List.mem_append_right [xo, fa, ma] h) hS.1) (fun H locs hP2 _ hkp hS => ?_)
  have hP := va_P.join (ws1 := [(xo, .inr (3, [.ref fa, .ref ma])), (fa, aQ cF 4 fi), (ma, aQ cF 12 mk)]) (ws2 := [(h, .inr (0, [.int (nI A), .int (nI B), .int hd, .ref h1, .ref h2, .ref h3])), (h1, aN cI 1024 cs), (h2, aN cI 6 pl), (h3, aN cI 6 pb)]) hP hD hP2 hkp rfl
  have hP : va_P D vcl [(xo, .inr (3, [.ref fa, .ref ma])), (fa, aQ cF 4 fi), (ma, aQ cF 12 mk), (h, .inr (0, [.int (nI A), .int (nI B), .int (if (allN (fitA cs (plx A x) B) B) then hd + nI 1 else hd), .ref h1, .ref h2, .ref h3])), (h1, aN cI 1024 (if (allN (fitA cs (plx A x) B) B) then addC cs (plx A x) B else cs)), (h2, aN cI 6 (fpr A x pl B)), (h3, aN cI 6 pb)] H := hP
  have hD : va_D (Aa [xo, fa, ma, h, h1, h2, h3] H0.size) [(xo, .inr (3, [.ref fa, .ref ma])), (fa, aQ cF 4 fi), (ma, aQ cF 12 mk), (h, .inr (0, [.int (nI A), .int (nI B), .int (if (allN (fitA cs (plx A x) B) B) then hd + nI 1 else hd), .ref h1, .ref h2, .ref h3])), (h1, aN cI 1024 (if (allN (fitA cs (plx A x) B) B) then addC cs (plx A x) B else cs)), (h2, aN cI 6 (fpr A x pl B)), (h3, aN cI 6 pb)] := va_D.same2 [xo, fa, ma, h, h1, h2, h3] hD rfl rfl
  refine lv_if_ne (tgt := 26) hx hb d_F_add_13 (by decide) (fun c_13 => ?_) (fun c_13 => ?_)
  · refine lv_aload hx hb d_F_add_26 (lv_at hl 0 rfl) ?_
    refine va_get (D := D) (ci := 0) (v := .int (if (allN (fitA cs (plx A x) B) B) then hd + nI 1 else hd)) (C := R_C) (T := T_C) (N := 6) hx hb (us_C G hW) (fun _ h => h) hown hK hP 3 rfl rfl 2 (by decide) (fl_F_58 G hW) (fun _ h9 => h9) rfl d_F_add_28 ?_
    exact mx_iret hx hb hr hlk d_F_add_31 (Nat.le_of_ble_eq_true rfl) (Nat.le_of_ble_eq_true rfl) hS.2.2 (⟨by rw [bI_t c_13]; rfl, hP⟩)
  · exact mx_throw (rest := []) G hx hb hW hown (th_U G) (str_at G 397 rfl hW) (hon.go had hS) (hl.1.trans hml.symm) het hlk d_F_add_16 d_F_add_19 d_F_add_20 d_F_add_22 d_F_add_25 (Nat.le_of_ble_eq_true rfl) (Nat.le_of_ble_eq_true rfl) (Nat.le_of_ble_eq_true rfl) (Nat.le_of_ble_eq_true rfl) (Nat.le_of_ble_eq_true rfl) (Nat.le_of_ble_eq_true rfl) hS.2.2 (fun H1 q hz hk ho => ⟨by rw [bI_f c_13]; exact ⟨q, rfl, ho⟩, va_P.ext hP hk⟩)

set_option maxHeartbeats 4000000 in
set_option maxRecDepth 100000 in
theorem c_F_remove_C {l : Launch} {s0 : State} {D : va_G} {cI cF cJ : ClassId} (G : Gx l s0 D cI cF cJ) (xo fa ma : Nat) (fi mk : Nat → Option Nat) (h h1 h2 h3 A B : Nat) (hd pv : Int32) (cs pl pb : Nat → Nat) (n0 : Nat) (f0 : Nat → Nat) (j : Nat) (x : Int64) {H0 : Heap} {A0 : Nat → Prop} (hP : va_P D vcl [(xo, .inr (3, [.ref fa, .ref ma])), (fa, aQ cF 4 fi), (ma, aQ cF 12 mk), (h, .inr (0, [.int (nI A), .int (nI B), .int hd, .ref h1, .ref h2, .ref h3])), (h1, aN cI 1024 cs), (h2, aN cI 6 pl), (h3, aN cI 6 pb)] H0) (hD : va_D A0 [(xo, .inr (3, [.ref fa, .ref ma])), (fa, aQ cF 4 fi), (ma, aQ cF 12 mk), (h, .inr (0, [.int (nI A), .int (nI B), .int hd, .ref h1, .ref h2, .ref h3])), (h1, aN cI 1024 cs), (h2, aN cI 6 pl), (h3, aN cI 6 pb)]) (hok : okS (1, A, B, hd, pv, cs, n0, f0)) (hj : j < 4) (hfi : fi j = some h) (hon : onS s0 H0) (had : ∀ q ∈ [xo, fa, ma, h, h1, h2, h3], s0.heap.size ≤ q)  : Mx l s0 y_F_remove (.code y_F_remove b_F_remove 5 (some .int)) { frames := 7, cells := 1, slots := 6, locals := 160 } [.ref xo, .int (nI j), .long x] H0 (Aa [xo, fa, ma, h, h1, h2, h3] H0.size) (Rq s0 (if (allN (fitS cs (plx A x) B) B) then none else some E_N) (some (.int (if (allN (fitS cs (plx A x) B) B) then hd - nI 1 else hd))) (fun H1 => va_P D vcl [(xo, .inr (3, [.ref fa, .ref ma])), (fa, aQ cF 4 fi), (ma, aQ cF 12 mk), (h, .inr (0, [.int (nI A), .int (nI B), .int (if (allN (fitS cs (plx A x) B) B) then hd - nI 1 else hd), .ref h1, .ref h2, .ref h3])), (h1, aN cI 1024 (if (allN (fitS cs (plx A x) B) B) then subC cs (plx A x) B else cs)), (h2, aN cI 6 (fpr A x pl B)), (h3, aN cI 6 pb)] H1)) := by
  refine Mx.ofW (own := "FewBits") rfl rfl ?_
  rintro p e s m below meth c ⟨hx, hb, hml, hr, hown, hW, hlk⟩ hnm het hH
  have hK := G.k hW
  have hD := hD.aa (sz := H0.size)
  have hD : va_D (Aa [xo, fa, ma, h, h1, h2, h3] H0.size) [(xo, .inr (3, [.ref fa, .ref ma])), (fa, aQ cF 4 fi), (ma, aQ cF 12 mk), (h, .inr (0, [.int (nI A), .int (nI B), .int hd, .ref h1, .ref h2, .ref h3])), (h1, aN cI 1024 cs), (h2, aN cI 6 pl), (h3, aN cI 6 pb)] := hD
  have hS : va_S (Aa [xo, fa, ma, h, h1, h2, h3] H0.size) H0 H0 [] := va_S.rf
  have hq := okS_1.mp hok
  have hA : A ≤ 10 := hq.2.1
  have hB : B ≤ 6 := hq.2.2.2.1
  have hc1 := hq.2.2.2.2.1
  have hl := lv_entry ([.ref xo, .int (nI j), .long x]) (n := 5) (Nat.le_of_ble_eq_true rfl)
  rw [lg_entry_eq]
  generalize (lg_sl ([.ref xo, .int (nI j), .long x]) ++ List.replicate (5 - (lg_sl ([.ref xo, .int (nI j), .long x])).length) Slot.unset).toArray = ls at hl ⊢
  have hl : lv_has ls 5 [(0, .ref xo), (1, .int (nI j)), (2, .long x)] := hl
  refine lv_aload_n hx hb d_F_remove_0 rfl (lv_at hl 0 rfl) ?_
  refine lv_iload_n hx hb d_F_remove_1 rfl (lv_at hl 1 rfl) ?_
  refine mx_callR (r := .ref h) (c_F_filterAt G xo fa ma fi mk j h (hP.sub [0, 1, 2] rfl) hj hfi) hW (iv_F_remove_2 G hx hb hown hW (va_recv hK hP (ci := 3) (q0 := 0) rfl rfl) [.int (nI j)] [] rfl) hml hl.1 (by rw [hb]; exact d_F_remove_2) (cd_F_filterAt G hW) ⟨Nat.le_of_ble_eq_true rfl, Nat.le_of_ble_eq_true rfl⟩ rfl rfl (Nat.le_of_ble_eq_true rfl) (Nat.le_of_ble_eq_true rfl) (Nat.le_of_ble_eq_true rfl) ?_
  refine lv_astore (lv' := [(4, .ref h), (0, .ref xo), (1, .int (nI j)), (2, .long x)]) hx hb d_F_remove_5 hl (by decide) rfl (fun ls hl => ?_)
  refine lv_aload hx hb d_F_remove_7 (lv_at hl 0 rfl) ?_
  refine lv_lload_n hx hb d_F_remove_9 rfl (lv_at hl 3 rfl) ?_
  refine mx_callW (r := .int (bI (allN (fitS cs (plx A x) B) B))) (c_P_release_C G h h1 h2 h3 A B hd cs pl pb x (hP.sub [3, 4, 5, 6] rfl) (hD.sub [3, 4, 5, 6] rfl rfl) hA hB hc1) hW (iv_F_remove_10_C G hx hb hown hW (va_recv hK hP (ci := 0) (q0 := 3) rfl rfl) [.long x] [] rfl) hml hl.1 (by rw [hb]; exact d_F_remove_10) (cd_P_release G hW) ⟨Nat.le_of_ble_eq_true rfl, Nat.le_of_ble_eq_true rfl⟩ (Nat.le_of_ble_eq_true rfl) (Nat.le_of_ble_eq_true rfl) (Nat.le_of_ble_eq_true rfl) hS (Aa.mono (fun _ h => List.mem_append_right [xo, fa, ma] h) hS.1) (fun H locs hP2 _ hkp hS => ?_)
  have hP := va_P.join (ws1 := [(xo, .inr (3, [.ref fa, .ref ma])), (fa, aQ cF 4 fi), (ma, aQ cF 12 mk)]) (ws2 := [(h, .inr (0, [.int (nI A), .int (nI B), .int hd, .ref h1, .ref h2, .ref h3])), (h1, aN cI 1024 cs), (h2, aN cI 6 pl), (h3, aN cI 6 pb)]) hP hD hP2 hkp rfl
  have hP : va_P D vcl [(xo, .inr (3, [.ref fa, .ref ma])), (fa, aQ cF 4 fi), (ma, aQ cF 12 mk), (h, .inr (0, [.int (nI A), .int (nI B), .int (if (allN (fitS cs (plx A x) B) B) then hd - nI 1 else hd), .ref h1, .ref h2, .ref h3])), (h1, aN cI 1024 (if (allN (fitS cs (plx A x) B) B) then subC cs (plx A x) B else cs)), (h2, aN cI 6 (fpr A x pl B)), (h3, aN cI 6 pb)] H := hP
  have hD : va_D (Aa [xo, fa, ma, h, h1, h2, h3] H0.size) [(xo, .inr (3, [.ref fa, .ref ma])), (fa, aQ cF 4 fi), (ma, aQ cF 12 mk), (h, .inr (0, [.int (nI A), .int (nI B), .int (if (allN (fitS cs (plx A x) B) B) then hd - nI 1 else hd), .ref h1, .ref h2, .ref h3])), (h1, aN cI 1024 (if (allN (fitS cs (plx A x) B) B) then subC cs (plx A x) B else cs)), (h2, aN cI 6 (fpr A x pl B)), (h3, aN cI 6 pb)] := va_D.same2 [xo, fa, ma, h, h1, h2, h3] hD rfl rfl
  refine lv_if_ne (tgt := 26) hx hb d_F_remove_13 (by decide) (fun c_13 => ?_) (fun c_13 => ?_)
  · refine lv_aload hx hb d_F_remove_26 (lv_at hl 0 rfl) ?_
    refine va_get (D := D) (ci := 0) (v := .int (if (allN (fitS cs (plx A x) B) B) then hd - nI 1 else hd)) (C := R_C) (T := T_C) (N := 6) hx hb (us_C G hW) (fun _ h => h) hown hK hP 3 rfl rfl 2 (by decide) (fl_F_58 G hW) (fun _ h9 => h9) rfl d_F_remove_28 ?_
    exact mx_iret hx hb hr hlk d_F_remove_31 (Nat.le_of_ble_eq_true rfl) (Nat.le_of_ble_eq_true rfl) hS.2.2 (⟨by rw [bI_t c_13]; rfl, hP⟩)
  · exact mx_throw (rest := []) G hx hb hW hown (th_N G) (str_at G 455 rfl hW) (hon.go had hS) (hl.1.trans hml.symm) het hlk d_F_remove_16 d_F_remove_19 d_F_remove_20 d_F_remove_22 d_F_remove_25 (Nat.le_of_ble_eq_true rfl) (Nat.le_of_ble_eq_true rfl) (Nat.le_of_ble_eq_true rfl) (Nat.le_of_ble_eq_true rfl) (Nat.le_of_ble_eq_true rfl) (Nat.le_of_ble_eq_true rfl) hS.2.2 (fun H1 q hz hk ho => ⟨by rw [bI_f c_13]; exact ⟨q, rfl, ho⟩, va_P.ext hP hk⟩)

set_option maxHeartbeats 4000000 in
set_option maxRecDepth 100000 in
theorem c_F_has_C {l : Launch} {s0 : State} {D : va_G} {cI cF cJ : ClassId} (G : Gx l s0 D cI cF cJ) (xo fa ma : Nat) (fi mk : Nat → Option Nat) (h h1 h2 h3 A B : Nat) (hd pv : Int32) (cs pl pb : Nat → Nat) (n0 : Nat) (f0 : Nat → Nat) (j : Nat) (x : Int64) {H0 : Heap} {A0 : Nat → Prop} (hP : va_P D vcl [(xo, .inr (3, [.ref fa, .ref ma])), (fa, aQ cF 4 fi), (ma, aQ cF 12 mk), (h, .inr (0, [.int (nI A), .int (nI B), .int hd, .ref h1, .ref h2, .ref h3])), (h1, aN cI 1024 cs), (h2, aN cI 6 pl), (h3, aN cI 6 pb)] H0) (hD : va_D A0 [(xo, .inr (3, [.ref fa, .ref ma])), (fa, aQ cF 4 fi), (ma, aQ cF 12 mk), (h, .inr (0, [.int (nI A), .int (nI B), .int hd, .ref h1, .ref h2, .ref h3])), (h1, aN cI 1024 cs), (h2, aN cI 6 pl), (h3, aN cI 6 pb)]) (hok : okS (1, A, B, hd, pv, cs, n0, f0)) (hj : j < 4) (hfi : fi j = some h) (hon : onS s0 H0) (had : ∀ q ∈ [xo, fa, ma, h, h1, h2, h3], s0.heap.size ≤ q)  : Mx l s0 y_F_has (.code y_F_has b_F_has 4 (some .boolean)) { frames := 7, cells := 0, slots := 0, locals := 160 } [.ref xo, .int (nI j), .long x] H0 (Aa [xo, fa, ma, h, h1, h2, h3] H0.size) (Rq s0 none (some (.int (bI (allN (isC cs (plx A x)) B)))) (fun H1 => va_P D vcl [(xo, .inr (3, [.ref fa, .ref ma])), (fa, aQ cF 4 fi), (ma, aQ cF 12 mk), (h, .inr (0, [.int (nI A), .int (nI B), .int hd, .ref h1, .ref h2, .ref h3])), (h1, aN cI 1024 cs), (h2, aN cI 6 (fpr A x pl B)), (h3, aN cI 6 pb)] H1)) := by
  refine Mx.ofW (own := "FewBits") rfl rfl ?_
  rintro p e s m below meth c ⟨hx, hb, hml, hr, hown, hW, hlk⟩ hnm het hH
  have hK := G.k hW
  have hD := hD.aa (sz := H0.size)
  have hD : va_D (Aa [xo, fa, ma, h, h1, h2, h3] H0.size) [(xo, .inr (3, [.ref fa, .ref ma])), (fa, aQ cF 4 fi), (ma, aQ cF 12 mk), (h, .inr (0, [.int (nI A), .int (nI B), .int hd, .ref h1, .ref h2, .ref h3])), (h1, aN cI 1024 cs), (h2, aN cI 6 pl), (h3, aN cI 6 pb)] := hD
  have hS : va_S (Aa [xo, fa, ma, h, h1, h2, h3] H0.size) H0 H0 [] := va_S.rf
  have hq := okS_1.mp hok
  have hA : A ≤ 10 := hq.2.1
  have hB : B ≤ 6 := hq.2.2.2.1
  have hc1 := hq.2.2.2.2.1
  have hl := lv_entry ([.ref xo, .int (nI j), .long x]) (n := 4) (Nat.le_of_ble_eq_true rfl)
  rw [lg_entry_eq]
  generalize (lg_sl ([.ref xo, .int (nI j), .long x]) ++ List.replicate (4 - (lg_sl ([.ref xo, .int (nI j), .long x])).length) Slot.unset).toArray = ls at hl ⊢
  have hl : lv_has ls 4 [(0, .ref xo), (1, .int (nI j)), (2, .long x)] := hl
  refine lv_aload_n hx hb d_F_has_0 rfl (lv_at hl 0 rfl) ?_
  refine lv_iload_n hx hb d_F_has_1 rfl (lv_at hl 1 rfl) ?_
  refine mx_callR (r := .ref h) (c_F_filterAt G xo fa ma fi mk j h (hP.sub [0, 1, 2] rfl) hj hfi) hW (iv_F_has_2 G hx hb hown hW (va_recv hK hP (ci := 3) (q0 := 0) rfl rfl) [.int (nI j)] [] rfl) hml hl.1 (by rw [hb]; exact d_F_has_2) (cd_F_filterAt G hW) ⟨Nat.le_of_ble_eq_true rfl, Nat.le_of_ble_eq_true rfl⟩ rfl rfl (Nat.le_of_ble_eq_true rfl) (Nat.le_of_ble_eq_true rfl) (Nat.le_of_ble_eq_true rfl) ?_
  refine lv_lload_n hx hb d_F_has_5 rfl (lv_at hl 2 rfl) ?_
  refine mx_callW (r := .int (bI (allN (isC cs (plx A x)) B))) (c_C_holds2 G h h1 h2 h3 A B hd cs pl pb x (hP.sub [3, 4, 5, 6] rfl) (hD.sub [3, 4, 5, 6] rfl rfl) hA hB hc1) hW (iv_F_has_6_C G hx hb hown hW (va_recv hK hP (ci := 0) (q0 := 3) rfl rfl) [.long x] [] rfl) hml hl.1 (by rw [hb]; exact d_F_has_6) (cd_C_holds G hW) ⟨Nat.le_of_ble_eq_true rfl, Nat.le_of_ble_eq_true rfl⟩ (Nat.le_of_ble_eq_true rfl) (Nat.le_of_ble_eq_true rfl) (Nat.le_of_ble_eq_true rfl) hS (Aa.mono (fun _ h => List.mem_append_right [xo, fa, ma] h) hS.1) (fun H locs hP2 _ hkp hS => ?_)
  have hP := va_P.join (ws1 := [(xo, .inr (3, [.ref fa, .ref ma])), (fa, aQ cF 4 fi), (ma, aQ cF 12 mk)]) (ws2 := [(h, .inr (0, [.int (nI A), .int (nI B), .int hd, .ref h1, .ref h2, .ref h3])), (h1, aN cI 1024 cs), (h2, aN cI 6 pl), (h3, aN cI 6 pb)]) hP hD hP2 hkp rfl
  have hP : va_P D vcl [(xo, .inr (3, [.ref fa, .ref ma])), (fa, aQ cF 4 fi), (ma, aQ cF 12 mk), (h, .inr (0, [.int (nI A), .int (nI B), .int hd, .ref h1, .ref h2, .ref h3])), (h1, aN cI 1024 cs), (h2, aN cI 6 (fpr A x pl B)), (h3, aN cI 6 pb)] H := hP
  have hD : va_D (Aa [xo, fa, ma, h, h1, h2, h3] H0.size) [(xo, .inr (3, [.ref fa, .ref ma])), (fa, aQ cF 4 fi), (ma, aQ cF 12 mk), (h, .inr (0, [.int (nI A), .int (nI B), .int hd, .ref h1, .ref h2, .ref h3])), (h1, aN cI 1024 cs), (h2, aN cI 6 (fpr A x pl B)), (h3, aN cI 6 pb)] := va_D.same2 [xo, fa, ma, h, h1, h2, h3] hD rfl rfl
  exact mx_zret hx hb hr hlk d_F_has_9 (Nat.le_of_ble_eq_true rfl) (Nat.le_of_ble_eq_true rfl) hS.2.2 (bI_nar _) (⟨rfl, hP⟩)

set_option maxHeartbeats 4000000 in
set_option maxRecDepth 100000 in
theorem c_F_same_C {l : Launch} {s0 : State} {D : va_G} {cI cF cJ : ClassId} (G : Gx l s0 D cI cF cJ) (xo fa ma : Nat) (fi mk : Nat → Option Nat) (h h1 h2 h3 A B : Nat) (hd pv : Int32) (cs pl pb : Nat → Nat) (n0 : Nat) (f0 : Nat → Nat) (j : Nat) (x y : Int64) {H0 : Heap} {A0 : Nat → Prop} (hP : va_P D vcl [(xo, .inr (3, [.ref fa, .ref ma])), (fa, aQ cF 4 fi), (ma, aQ cF 12 mk), (h, .inr (0, [.int (nI A), .int (nI B), .int hd, .ref h1, .ref h2, .ref h3])), (h1, aN cI 1024 cs), (h2, aN cI 6 pl), (h3, aN cI 6 pb)] H0) (hD : va_D A0 [(xo, .inr (3, [.ref fa, .ref ma])), (fa, aQ cF 4 fi), (ma, aQ cF 12 mk), (h, .inr (0, [.int (nI A), .int (nI B), .int hd, .ref h1, .ref h2, .ref h3])), (h1, aN cI 1024 cs), (h2, aN cI 6 pl), (h3, aN cI 6 pb)]) (hok : okS (1, A, B, hd, pv, cs, n0, f0)) (hj : j < 4) (hfi : fi j = some h) (hon : onS s0 H0) (had : ∀ q ∈ [xo, fa, ma, h, h1, h2, h3], s0.heap.size ≤ q)  : Mx l s0 y_F_same (.code y_F_same b_F_same 6 (some .boolean)) { frames := 7, cells := 0, slots := 0, locals := 160 } [.ref xo, .int (nI j), .long x, .long y] H0 (Aa [xo, fa, ma, h, h1, h2, h3] H0.size) (Rq s0 none (some (.int (bI (allN (sameC (plx A x) (plx A y) B) B)))) (fun H1 => va_P D vcl [(xo, .inr (3, [.ref fa, .ref ma])), (fa, aQ cF 4 fi), (ma, aQ cF 12 mk), (h, .inr (0, [.int (nI A), .int (nI B), .int hd, .ref h1, .ref h2, .ref h3])), (h1, aN cI 1024 cs), (h2, aN cI 6 (fpr A x pl B)), (h3, aN cI 6 (fpr A y pb B))] H1)) := by
  refine Mx.ofW (own := "FewBits") rfl rfl ?_
  rintro p e s m below meth c ⟨hx, hb, hml, hr, hown, hW, hlk⟩ hnm het hH
  have hK := G.k hW
  have hD := hD.aa (sz := H0.size)
  have hD : va_D (Aa [xo, fa, ma, h, h1, h2, h3] H0.size) [(xo, .inr (3, [.ref fa, .ref ma])), (fa, aQ cF 4 fi), (ma, aQ cF 12 mk), (h, .inr (0, [.int (nI A), .int (nI B), .int hd, .ref h1, .ref h2, .ref h3])), (h1, aN cI 1024 cs), (h2, aN cI 6 pl), (h3, aN cI 6 pb)] := hD
  have hS : va_S (Aa [xo, fa, ma, h, h1, h2, h3] H0.size) H0 H0 [] := va_S.rf
  have hq := okS_1.mp hok
  have hA : A ≤ 10 := hq.2.1
  have hB : B ≤ 6 := hq.2.2.2.1
  have hc1 := hq.2.2.2.2.1
  have hl := lv_entry ([.ref xo, .int (nI j), .long x, .long y]) (n := 6) (Nat.le_of_ble_eq_true rfl)
  rw [lg_entry_eq]
  generalize (lg_sl ([.ref xo, .int (nI j), .long x, .long y]) ++ List.replicate (6 - (lg_sl ([.ref xo, .int (nI j), .long x, .long y])).length) Slot.unset).toArray = ls at hl ⊢
  have hl : lv_has ls 6 [(0, .ref xo), (1, .int (nI j)), (2, .long x), (4, .long y)] := hl
  refine lv_aload_n hx hb d_F_same_0 rfl (lv_at hl 0 rfl) ?_
  refine lv_iload_n hx hb d_F_same_1 rfl (lv_at hl 1 rfl) ?_
  refine mx_callR (r := .ref h) (c_F_filterAt G xo fa ma fi mk j h (hP.sub [0, 1, 2] rfl) hj hfi) hW (iv_F_same_2 G hx hb hown hW (va_recv hK hP (ci := 3) (q0 := 0) rfl rfl) [.int (nI j)] [] rfl) hml hl.1 (by rw [hb]; exact d_F_same_2) (cd_F_filterAt G hW) ⟨Nat.le_of_ble_eq_true rfl, Nat.le_of_ble_eq_true rfl⟩ rfl rfl (Nat.le_of_ble_eq_true rfl) (Nat.le_of_ble_eq_true rfl) (Nat.le_of_ble_eq_true rfl) ?_
  refine lv_lload_n hx hb d_F_same_5 rfl (lv_at hl 2 rfl) ?_
  refine lv_lload hx hb d_F_same_6 (lv_at hl 3 rfl) ?_
  refine mx_callW (r := .int (bI (allN (sameC (plx A x) (plx A y) B) B))) (c_C_looksAlike2 G h h1 h2 h3 A B hd cs pl pb x y (hP.sub [3, 4, 5, 6] rfl) (hD.sub [3, 4, 5, 6] rfl rfl) hA hB) hW (iv_F_same_8_C G hx hb hown hW (va_recv hK hP (ci := 0) (q0 := 3) rfl rfl) [.long x, .long y] [] rfl) hml hl.1 (by rw [hb]; exact d_F_same_8) (cd_C_looksAlike G hW) ⟨Nat.le_of_ble_eq_true rfl, Nat.le_of_ble_eq_true rfl⟩ (Nat.le_of_ble_eq_true rfl) (Nat.le_of_ble_eq_true rfl) (Nat.le_of_ble_eq_true rfl) hS (Aa.mono (fun _ h => List.mem_append_right [xo, fa, ma] h) hS.1) (fun H locs hP2 _ hkp hS => ?_)
  have hP := va_P.join (ws1 := [(xo, .inr (3, [.ref fa, .ref ma])), (fa, aQ cF 4 fi), (ma, aQ cF 12 mk)]) (ws2 := [(h, .inr (0, [.int (nI A), .int (nI B), .int hd, .ref h1, .ref h2, .ref h3])), (h1, aN cI 1024 cs), (h2, aN cI 6 pl), (h3, aN cI 6 pb)]) hP hD hP2 hkp rfl
  have hP : va_P D vcl [(xo, .inr (3, [.ref fa, .ref ma])), (fa, aQ cF 4 fi), (ma, aQ cF 12 mk), (h, .inr (0, [.int (nI A), .int (nI B), .int hd, .ref h1, .ref h2, .ref h3])), (h1, aN cI 1024 cs), (h2, aN cI 6 (fpr A x pl B)), (h3, aN cI 6 (fpr A y pb B))] H := hP
  have hD : va_D (Aa [xo, fa, ma, h, h1, h2, h3] H0.size) [(xo, .inr (3, [.ref fa, .ref ma])), (fa, aQ cF 4 fi), (ma, aQ cF 12 mk), (h, .inr (0, [.int (nI A), .int (nI B), .int hd, .ref h1, .ref h2, .ref h3])), (h1, aN cI 1024 cs), (h2, aN cI 6 (fpr A x pl B)), (h3, aN cI 6 (fpr A y pb B))] := va_D.same2 [xo, fa, ma, h, h1, h2, h3] hD rfl rfl
  exact mx_zret hx hb hr hlk d_F_same_11 (Nat.le_of_ble_eq_true rfl) (Nat.le_of_ble_eq_true rfl) hS.2.2 (bI_nar _) (⟨rfl, hP⟩)

set_option maxHeartbeats 4000000 in
set_option maxRecDepth 100000 in
theorem c_F_addAll_C_items {l : Launch} {s0 : State} {D : va_G} {cI cF cJ : ClassId} (G : Gx l s0 D cI cF cJ) (xo fa ma : Nat) (fi mk : Nat → Option Nat) (h h1 h2 h3 A B : Nat) (hd pv : Int32) (cs pl pb : Nat → Nat) (n0 : Nat) (f0 : Nat → Nat) (j : Nat) (x st : Int64) (v : Int32) {H0 : Heap} {A0 : Nat → Prop} (hP : va_P D vcl [(xo, .inr (3, [.ref fa, .ref ma])), (fa, aQ cF 4 fi), (ma, aQ cF 12 mk), (h, .inr (0, [.int (nI A), .int (nI B), .int hd, .ref h1, .ref h2, .ref h3])), (h1, aN cI 1024 cs), (h2, aN cI 6 pl), (h3, aN cI 6 pb)] H0) (hD : va_D A0 [(xo, .inr (3, [.ref fa, .ref ma])), (fa, aQ cF 4 fi), (ma, aQ cF 12 mk), (h, .inr (0, [.int (nI A), .int (nI B), .int hd, .ref h1, .ref h2, .ref h3])), (h1, aN cI 1024 cs), (h2, aN cI 6 pl), (h3, aN cI 6 pb)]) (hok : okS (1, A, B, hd, pv, cs, n0, f0)) (hj : j < 4) (hfi : fi j = some h) (hon : onS s0 H0) (had : ∀ q ∈ [xo, fa, ma, h, h1, h2, h3], s0.heap.size ≤ q) (hv : wth v (nI 0) (nI 400) = false) : Mx l s0 y_F_addAll (.code y_F_addAll b_F_addAll 11 (some .int)) { frames := 7, cells := 1, slots := 6, locals := 160 } [.ref xo, .int (nI j), .long x, .long st, .int v] H0 (Aa [xo, fa, ma, h, h1, h2, h3] H0.size) (Rq s0 (some E_A) none (fun H1 => va_P D vcl [(xo, .inr (3, [.ref fa, .ref ma])), (fa, aQ cF 4 fi), (ma, aQ cF 12 mk), (h, .inr (0, [.int (nI A), .int (nI B), .int hd, .ref h1, .ref h2, .ref h3])), (h1, aN cI 1024 cs), (h2, aN cI 6 pl), (h3, aN cI 6 pb)] H1)) := by
  refine Mx.ofW (own := "FewBits") rfl rfl ?_
  rintro p e s m below meth c ⟨hx, hb, hml, hr, hown, hW, hlk⟩ hnm het hH
  have hK := G.k hW
  have hD := hD.aa (sz := H0.size)
  have hD : va_D (Aa [xo, fa, ma, h, h1, h2, h3] H0.size) [(xo, .inr (3, [.ref fa, .ref ma])), (fa, aQ cF 4 fi), (ma, aQ cF 12 mk), (h, .inr (0, [.int (nI A), .int (nI B), .int hd, .ref h1, .ref h2, .ref h3])), (h1, aN cI 1024 cs), (h2, aN cI 6 pl), (h3, aN cI 6 pb)] := hD
  have hS : va_S (Aa [xo, fa, ma, h, h1, h2, h3] H0.size) H0 H0 [] := va_S.rf
  have hl := lv_entry ([.ref xo, .int (nI j), .long x, .long st, .int v]) (n := 11) (Nat.le_of_ble_eq_true rfl)
  rw [lg_entry_eq]
  generalize (lg_sl ([.ref xo, .int (nI j), .long x, .long st, .int v]) ++ List.replicate (11 - (lg_sl ([.ref xo, .int (nI j), .long x, .long st, .int v])).length) Slot.unset).toArray = ls at hl ⊢
  have hl : lv_has ls 11 [(0, .ref xo), (1, .int (nI j)), (2, .long x), (4, .long st), (6, .int v)] := hl
  refine lv_aload_n hx hb d_F_addAll_0 rfl (lv_at hl 0 rfl) ?_
  refine lv_iload_n hx hb d_F_addAll_1 rfl (lv_at hl 1 rfl) ?_
  refine mx_callR (r := .ref h) (c_F_filterAt G xo fa ma fi mk j h (hP.sub [0, 1, 2] rfl) hj hfi) hW (iv_F_addAll_2 G hx hb hown hW (va_recv hK hP (ci := 3) (q0 := 0) rfl rfl) [.int (nI j)] [] rfl) hml hl.1 (by rw [hb]; exact d_F_addAll_2) (cd_F_filterAt G hW) ⟨Nat.le_of_ble_eq_true rfl, Nat.le_of_ble_eq_true rfl⟩ rfl rfl (Nat.le_of_ble_eq_true rfl) (Nat.le_of_ble_eq_true rfl) (Nat.le_of_ble_eq_true rfl) ?_
  refine lv_astore (lv' := [(7, .ref h), (0, .ref xo), (1, .int (nI j)), (2, .long x), (4, .long st), (6, .int v)]) hx hb d_F_addAll_5 hl (by decide) rfl (fun ls hl => ?_)
  refine lv_iload hx hb d_F_addAll_7 (lv_at hl 5 rfl) ?_
  exact mx_callT (c_F_requireItems_no G v hv hon) hW (iv_F_addAll_9 G hx hb hown hW [.int v] [] rfl) hml hl.1 (by rw [hb]; exact d_F_addAll_9) (cd_F_requireItems G hW) ⟨Nat.le_of_ble_eq_true rfl, Nat.le_of_ble_eq_true rfl⟩ (Nat.le_of_ble_eq_true rfl) (Nat.le_of_ble_eq_true rfl) (Nat.le_of_ble_eq_true rfl) het hlk (Nat.le_of_ble_eq_true rfl) (Nat.le_of_ble_eq_true rfl) (fun _ h => nomatch h) (fun _ h => h.elim) (fun H1 q hz hk hp ho => ⟨⟨q, rfl, ho⟩, hP.ext (fun z hz => hk z hz (fun h9 => h9))⟩)

set_option maxHeartbeats 4000000 in
set_option maxRecDepth 100000 in
theorem c_F_hasAll_C_items {l : Launch} {s0 : State} {D : va_G} {cI cF cJ : ClassId} (G : Gx l s0 D cI cF cJ) (xo fa ma : Nat) (fi mk : Nat → Option Nat) (h h1 h2 h3 A B : Nat) (hd pv : Int32) (cs pl pb : Nat → Nat) (n0 : Nat) (f0 : Nat → Nat) (j : Nat) (x st : Int64) (v : Int32) {H0 : Heap} {A0 : Nat → Prop} (hP : va_P D vcl [(xo, .inr (3, [.ref fa, .ref ma])), (fa, aQ cF 4 fi), (ma, aQ cF 12 mk), (h, .inr (0, [.int (nI A), .int (nI B), .int hd, .ref h1, .ref h2, .ref h3])), (h1, aN cI 1024 cs), (h2, aN cI 6 pl), (h3, aN cI 6 pb)] H0) (hD : va_D A0 [(xo, .inr (3, [.ref fa, .ref ma])), (fa, aQ cF 4 fi), (ma, aQ cF 12 mk), (h, .inr (0, [.int (nI A), .int (nI B), .int hd, .ref h1, .ref h2, .ref h3])), (h1, aN cI 1024 cs), (h2, aN cI 6 pl), (h3, aN cI 6 pb)]) (hok : okS (1, A, B, hd, pv, cs, n0, f0)) (hj : j < 4) (hfi : fi j = some h) (hon : onS s0 H0) (had : ∀ q ∈ [xo, fa, ma, h, h1, h2, h3], s0.heap.size ≤ q) (hv : wth v (nI 0) (nI 400) = false) : Mx l s0 y_F_hasAll (.code y_F_hasAll b_F_hasAll 12 (some .int)) { frames := 7, cells := 1, slots := 6, locals := 160 } [.ref xo, .int (nI j), .long x, .long st, .int v] H0 (Aa [xo, fa, ma, h, h1, h2, h3] H0.size) (Rq s0 (some E_A) none (fun H1 => va_P D vcl [(xo, .inr (3, [.ref fa, .ref ma])), (fa, aQ cF 4 fi), (ma, aQ cF 12 mk), (h, .inr (0, [.int (nI A), .int (nI B), .int hd, .ref h1, .ref h2, .ref h3])), (h1, aN cI 1024 cs), (h2, aN cI 6 pl), (h3, aN cI 6 pb)] H1)) := by
  refine Mx.ofW (own := "FewBits") rfl rfl ?_
  rintro p e s m below meth c ⟨hx, hb, hml, hr, hown, hW, hlk⟩ hnm het hH
  have hK := G.k hW
  have hD := hD.aa (sz := H0.size)
  have hD : va_D (Aa [xo, fa, ma, h, h1, h2, h3] H0.size) [(xo, .inr (3, [.ref fa, .ref ma])), (fa, aQ cF 4 fi), (ma, aQ cF 12 mk), (h, .inr (0, [.int (nI A), .int (nI B), .int hd, .ref h1, .ref h2, .ref h3])), (h1, aN cI 1024 cs), (h2, aN cI 6 pl), (h3, aN cI 6 pb)] := hD
  have hS : va_S (Aa [xo, fa, ma, h, h1, h2, h3] H0.size) H0 H0 [] := va_S.rf
  have hl := lv_entry ([.ref xo, .int (nI j), .long x, .long st, .int v]) (n := 12) (Nat.le_of_ble_eq_true rfl)
  rw [lg_entry_eq]
  generalize (lg_sl ([.ref xo, .int (nI j), .long x, .long st, .int v]) ++ List.replicate (12 - (lg_sl ([.ref xo, .int (nI j), .long x, .long st, .int v])).length) Slot.unset).toArray = ls at hl ⊢
  have hl : lv_has ls 12 [(0, .ref xo), (1, .int (nI j)), (2, .long x), (4, .long st), (6, .int v)] := hl
  refine lv_aload_n hx hb d_F_hasAll_0 rfl (lv_at hl 0 rfl) ?_
  refine lv_iload_n hx hb d_F_hasAll_1 rfl (lv_at hl 1 rfl) ?_
  refine mx_callR (r := .ref h) (c_F_filterAt G xo fa ma fi mk j h (hP.sub [0, 1, 2] rfl) hj hfi) hW (iv_F_hasAll_2 G hx hb hown hW (va_recv hK hP (ci := 3) (q0 := 0) rfl rfl) [.int (nI j)] [] rfl) hml hl.1 (by rw [hb]; exact d_F_hasAll_2) (cd_F_filterAt G hW) ⟨Nat.le_of_ble_eq_true rfl, Nat.le_of_ble_eq_true rfl⟩ rfl rfl (Nat.le_of_ble_eq_true rfl) (Nat.le_of_ble_eq_true rfl) (Nat.le_of_ble_eq_true rfl) ?_
  refine lv_astore (lv' := [(7, .ref h), (0, .ref xo), (1, .int (nI j)), (2, .long x), (4, .long st), (6, .int v)]) hx hb d_F_hasAll_5 hl (by decide) rfl (fun ls hl => ?_)
  refine lv_iload hx hb d_F_hasAll_7 (lv_at hl 5 rfl) ?_
  exact mx_callT (c_F_requireItems_no G v hv hon) hW (iv_F_hasAll_9 G hx hb hown hW [.int v] [] rfl) hml hl.1 (by rw [hb]; exact d_F_hasAll_9) (cd_F_requireItems G hW) ⟨Nat.le_of_ble_eq_true rfl, Nat.le_of_ble_eq_true rfl⟩ (Nat.le_of_ble_eq_true rfl) (Nat.le_of_ble_eq_true rfl) (Nat.le_of_ble_eq_true rfl) het hlk (Nat.le_of_ble_eq_true rfl) (Nat.le_of_ble_eq_true rfl) (fun _ h => nomatch h) (fun _ h => h.elim) (fun H1 q hz hk hp ho => ⟨⟨q, rfl, ho⟩, hP.ext (fun z hz => hk z hz (fun h9 => h9))⟩)

set_option maxHeartbeats 4000000 in
set_option maxRecDepth 100000 in
theorem c_F_hasAll_C {l : Launch} {s0 : State} {D : va_G} {cI cF cJ : ClassId} (G : Gx l s0 D cI cF cJ) (xo fa ma : Nat) (fi mk : Nat → Option Nat) (h h1 h2 h3 A B : Nat) (hd pv : Int32) (cs pl pb : Nat → Nat) (n0 : Nat) (f0 : Nat → Nat) (j : Nat) (x st : Int64) (nN : Nat) {H0 : Heap} {A0 : Nat → Prop} (hP : va_P D vcl [(xo, .inr (3, [.ref fa, .ref ma])), (fa, aQ cF 4 fi), (ma, aQ cF 12 mk), (h, .inr (0, [.int (nI A), .int (nI B), .int hd, .ref h1, .ref h2, .ref h3])), (h1, aN cI 1024 cs), (h2, aN cI 6 pl), (h3, aN cI 6 pb)] H0) (hD : va_D A0 [(xo, .inr (3, [.ref fa, .ref ma])), (fa, aQ cF 4 fi), (ma, aQ cF 12 mk), (h, .inr (0, [.int (nI A), .int (nI B), .int hd, .ref h1, .ref h2, .ref h3])), (h1, aN cI 1024 cs), (h2, aN cI 6 pl), (h3, aN cI 6 pb)]) (hok : okS (1, A, B, hd, pv, cs, n0, f0)) (hj : j < 4) (hfi : fi j = some h) (hon : onS s0 H0) (had : ∀ q ∈ [xo, fa, ma, h, h1, h2, h3], s0.heap.size ≤ q) (hn4 : nN ≤ 400) : Mx l s0 y_F_hasAll (.code y_F_hasAll b_F_hasAll 12 (some .int)) { frames := 7, cells := 0, slots := 0, locals := 160 } [.ref xo, .int (nI j), .long x, .long st, .int (nI nN)] H0 (Aa [xo, fa, ma, h, h1, h2, h3] H0.size) (Rq s0 none (some (.int (nI (haS (1, A, B, hd, pv, cs, n0, f0) nN x st)))) (fun H1 => ∃ pl2, va_P D vcl [(xo, .inr (3, [.ref fa, .ref ma])), (fa, aQ cF 4 fi), (ma, aQ cF 12 mk), (h, .inr (0, [.int (nI A), .int (nI B), .int hd, .ref h1, .ref h2, .ref h3])), (h1, aN cI 1024 cs), (h2, aN cI 6 pl2), (h3, aN cI 6 pb)] H1)) := by
  refine Mx.ofW (own := "FewBits") rfl rfl ?_
  rintro p e s m below meth c ⟨hx, hb, hml, hr, hown, hW, hlk⟩ hnm het hH
  have hK := G.k hW
  have hD := hD.aa (sz := H0.size)
  have hD : va_D (Aa [xo, fa, ma, h, h1, h2, h3] H0.size) [(xo, .inr (3, [.ref fa, .ref ma])), (fa, aQ cF 4 fi), (ma, aQ cF 12 mk), (h, .inr (0, [.int (nI A), .int (nI B), .int hd, .ref h1, .ref h2, .ref h3])), (h1, aN cI 1024 cs), (h2, aN cI 6 pl), (h3, aN cI 6 pb)] := hD
  have hS : va_S (Aa [xo, fa, ma, h, h1, h2, h3] H0.size) H0 H0 [] := va_S.rf
  have hq := okS_1.mp hok
  have hA : A ≤ 10 := hq.2.1
  have hB : B ≤ 6 := hq.2.2.2.1
  have hc1 := hq.2.2.2.2.1
  have hl := lv_entry ([.ref xo, .int (nI j), .long x, .long st, .int (nI nN)]) (n := 12) (Nat.le_of_ble_eq_true rfl)
  rw [lg_entry_eq]
  generalize (lg_sl ([.ref xo, .int (nI j), .long x, .long st, .int (nI nN)]) ++ List.replicate (12 - (lg_sl ([.ref xo, .int (nI j), .long x, .long st, .int (nI nN)])).length) Slot.unset).toArray = ls at hl ⊢
  have hl : lv_has ls 12 [(0, .ref xo), (1, .int (nI j)), (2, .long x), (4, .long st), (6, .int (nI nN))] := hl
  refine lv_aload_n hx hb d_F_hasAll_0 rfl (lv_at hl 0 rfl) ?_
  refine lv_iload_n hx hb d_F_hasAll_1 rfl (lv_at hl 1 rfl) ?_
  refine mx_callR (r := .ref h) (c_F_filterAt G xo fa ma fi mk j h (hP.sub [0, 1, 2] rfl) hj hfi) hW (iv_F_hasAll_2 G hx hb hown hW (va_recv hK hP (ci := 3) (q0 := 0) rfl rfl) [.int (nI j)] [] rfl) hml hl.1 (by rw [hb]; exact d_F_hasAll_2) (cd_F_filterAt G hW) ⟨Nat.le_of_ble_eq_true rfl, Nat.le_of_ble_eq_true rfl⟩ rfl rfl (Nat.le_of_ble_eq_true rfl) (Nat.le_of_ble_eq_true rfl) (Nat.le_of_ble_eq_true rfl) ?_
  refine lv_astore (lv' := [(7, .ref h), (0, .ref xo), (1, .int (nI j)), (2, .long x), (4, .long st), (6, .int (nI nN))]) hx hb d_F_hasAll_5 hl (by decide) rfl (fun ls hl => ?_)
  refine lv_iload hx hb d_F_hasAll_7 (lv_at hl 5 rfl) ?_
  refine mx_callV (c_F_requireItems_ok G (nI nN) (wth_le hn4)) hW (iv_F_hasAll_9 G hx hb hown hW [.int (nI nN)] [] rfl) hml hl.1 (by rw [hb]; exact d_F_hasAll_9) (cd_F_requireItems G hW) ⟨Nat.le_of_ble_eq_true rfl, Nat.le_of_ble_eq_true rfl⟩ rfl rfl (Nat.le_of_ble_eq_true rfl) (Nat.le_of_ble_eq_true rfl) (Nat.le_of_ble_eq_true rfl) ?_
  refine lv_iconst (v := (nI 0)) hx hb d_F_hasAll_12 (by decide) ?_
  refine lv_istore (lv' := [(8, .int (nI 0)), (7, .ref h), (0, .ref xo), (1, .int (nI j)), (2, .long x), (4, .long st), (6, .int (nI nN))]) hx hb d_F_hasAll_13 hl (by decide) rfl (fun ls hl => ?_)
  refine lv_lload_n hx hb d_F_hasAll_15 rfl (lv_at hl 4 rfl) ?_
  refine lv_lstore (lv' := [(9, .long x), (8, .int (nI 0)), (7, .ref h), (0, .ref xo), (1, .int (nI j)), (2, .long x), (4, .long st), (6, .int (nI nN))]) hx hb d_F_hasAll_16 hl (by decide) rfl (fun ls hl => ?_)
  refine lv_iconst (v := (nI 0)) hx hb d_F_hasAll_18 (by decide) ?_
  refine lv_istore (lv' := [(11, .int (nI 0)), (9, .long x), (8, .int (nI 0)), (7, .ref h), (0, .ref xo), (1, .int (nI j)), (2, .long x), (4, .long st), (6, .int (nI nN))]) hx hb d_F_hasAll_19 hl (by decide) rfl (fun ls hl => ?_)
  have loop_21 : ∀ (k : Nat) (i : Nat) (tt : Nat) (xx : Int64) (pl2 : Nat → Nat), (i + k = nN) → (haS (1, A, B, hd, pv, cs, n0, f0) nN x st = tt + haS (1, A, B, hd, pv, cs, n0, f0) k xx st) → (tt ≤ i) → ∀ (H : Heap) (locs : List Loc), va_P D vcl [(xo, .inr (3, [.ref fa, .ref ma])), (fa, aQ cF 4 fi), (ma, aQ cF 12 mk), (h, .inr (0, [.int (nI A), .int (nI B), .int hd, .ref h1, .ref h2, .ref h3])), (h1, aN cI 1024 cs), (h2, aN cI 6 pl2), (h3, aN cI 6 pb)] H → va_D (Aa [xo, fa, ma, h, h1, h2, h3] H0.size) [(xo, .inr (3, [.ref fa, .ref ma])), (fa, aQ cF 4 fi), (ma, aQ cF 12 mk), (h, .inr (0, [.int (nI A), .int (nI B), .int hd, .ref h1, .ref h2, .ref h3])), (h1, aN cI 1024 cs), (h2, aN cI 6 pl2), (h3, aN cI 6 pb)] → va_S (Aa [xo, fa, ma, h, h1, h2, h3] H0.size) H0 H locs → ∀ (ls : Array Slot), lv_has ls 12 [(11, .int (nI i)), (9, .long xx), (8, .int (nI tt)), (7, .ref h), (0, .ref xo), (1, .int (nI j)), (2, .long x), (4, .long st), (6, .int (nI nN))] → W p l e { frames := 7, cells := 0, slots := 0, locals := 160 } s m ([.ref xo, .int (nI j), .long x, .long st, .int (nI nN)] : List Value).toArray below meth c H locs 0 0 (MQx below (Rq s0 none (some (.int (nI (haS (1, A, B, hd, pv, cs, n0, f0) nN x st)))) (fun H1 => ∃ pl2, va_P D vcl [(xo, .inr (3, [.ref fa, .ref ma])), (fa, aQ cF 4 fi), (ma, aQ cF 12 mk), (h, .inr (0, [.int (nI A), .int (nI B), .int hd, .ref h1, .ref h2, .ref h3])), (h1, aN cI 1024 cs), (h2, aN cI 6 pl2), (h3, aN cI 6 pb)] H1)) s 0 0 (Aa [xo, fa, ma, h, h1, h2, h3] H0.size)) (F0 m 21 ls []) := by
    intro k
    induction k with
    | zero =>
      intro i tt xx pl2 hk ht htl H locs hP hD hS ls hl
      refine lv_iload hx hb d_F_hasAll_21 (lv_at hl 0 rfl) ?_
      refine lv_iload hx hb d_F_hasAll_23 (lv_at hl 8 rfl) ?_
      refine lv_icmp_ge (tgt := 54) hx hb d_F_hasAll_25 (by decide) (fun c_25 => ?_) (fun c_25 => absurd (nI_le (by omega) (by omega)) c_25)
      refine lv_iload hx hb d_F_hasAll_54 (lv_at hl 2 rfl) ?_
      exact mx_iret hx hb hr hlk d_F_hasAll_56 (Nat.le_of_ble_eq_true rfl) (Nat.le_of_ble_eq_true rfl) hS.2.2 (⟨by rw [ht]; rfl, pl2, hP⟩)
    | succ k ih_21 =>
      intro i tt xx pl2 hk ht htl H locs hP hD hS ls hl
      refine lv_iload hx hb d_F_hasAll_21 (lv_at hl 0 rfl) ?_
      refine lv_iload hx hb d_F_hasAll_23 (lv_at hl 8 rfl) ?_
      refine lv_icmp_ge (tgt := 54) hx hb d_F_hasAll_25 (by decide) (fun c_25 => absurd c_25 (nI_ge (by omega) (by omega))) (fun c_25 => ?_)
      refine lv_aload hx hb d_F_hasAll_28 (lv_at hl 3 rfl) ?_
      refine lv_lload hx hb d_F_hasAll_30 (lv_at hl 1 rfl) ?_
      refine mx_callW (r := .int (bI (allN (isC cs (plx A xx)) B))) (c_C_holds2 G h h1 h2 h3 A B hd cs pl2 pb xx (hP.sub [3, 4, 5, 6] rfl) (hD.sub [3, 4, 5, 6] rfl rfl) hA hB hc1) hW (iv_F_hasAll_32_C G hx hb hown hW (va_recv hK hP (ci := 0) (q0 := 3) rfl rfl) [.long xx] [] rfl) hml hl.1 (by rw [hb]; exact d_F_hasAll_32) (cd_C_holds G hW) ⟨Nat.le_of_ble_eq_true rfl, Nat.le_of_ble_eq_true rfl⟩ (Nat.le_of_ble_eq_true rfl) (Nat.le_of_ble_eq_true rfl) (Nat.le_of_ble_eq_true rfl) hS (Aa.mono (fun _ h => List.mem_append_right [xo, fa, ma] h) hS.1) (fun H locs hP2 _ hkp hS => ?_)
      have hP := va_P.join (ws1 := [(xo, .inr (3, [.ref fa, .ref ma])), (fa, aQ cF 4 fi), (ma, aQ cF 12 mk)]) (ws2 := [(h, .inr (0, [.int (nI A), .int (nI B), .int hd, .ref h1, .ref h2, .ref h3])), (h1, aN cI 1024 cs), (h2, aN cI 6 pl2), (h3, aN cI 6 pb)]) hP hD hP2 hkp rfl
      have hP : va_P D vcl [(xo, .inr (3, [.ref fa, .ref ma])), (fa, aQ cF 4 fi), (ma, aQ cF 12 mk), (h, .inr (0, [.int (nI A), .int (nI B), .int hd, .ref h1, .ref h2, .ref h3])), (h1, aN cI 1024 cs), (h2, aN cI 6 (fpr A xx pl2 B)), (h3, aN cI 6 pb)] H := hP
      have hD : va_D (Aa [xo, fa, ma, h, h1, h2, h3] H0.size) [(xo, .inr (3, [.ref fa, .ref ma])), (fa, aQ cF 4 fi), (ma, aQ cF 12 mk), (h, .inr (0, [.int (nI A), .int (nI B), .int hd, .ref h1, .ref h2, .ref h3])), (h1, aN cI 1024 cs), (h2, aN cI 6 (fpr A xx pl2 B)), (h3, aN cI 6 pb)] := va_D.same2 [xo, fa, ma, h, h1, h2, h3] hD rfl rfl
      refine lv_if_eq (tgt := 41) hx hb d_F_hasAll_35 (by decide) (fun c_35 => ?_) (fun c_35 => ?_)
      · refine lv_lload hx hb d_F_hasAll_41 (lv_at hl 1 rfl) ?_
        refine lv_lload hx hb d_F_hasAll_43 (lv_at hl 7 rfl) ?_
        refine lv_ladd hx hb d_F_hasAll_45 ?_
        refine lv_lstore (lv' := [(9, .long (xx + st)), (11, .int (nI i)), (8, .int (nI tt)), (7, .ref h), (0, .ref xo), (1, .int (nI j)), (2, .long x), (4, .long st), (6, .int (nI nN))]) hx hb d_F_hasAll_46 hl (by decide) rfl (fun ls hl => ?_)
        refine lv_iinc (v := (nI (i + 1))) (lv' := [(11, .int (nI (i + 1))), (9, .long (xx + st)), (8, .int (nI tt)), (7, .ref h), (0, .ref xo), (1, .int (nI j)), (2, .long x), (4, .long st), (6, .int (nI nN))]) hx hb d_F_hasAll_48 hl (k := 1) rfl (nI_1 _) (by decide) rfl (fun ls hl => ?_)
        refine lv_goto (tgt := 21) hx hb d_F_hasAll_51 (by decide) ?_
        exact ih_21 (i + 1) (tt) ((xx + st)) ((fpr A xx pl2 B)) (by omega) (by rw [ht, haS_f (show hasS (1, A, B, hd, pv, cs, n0, f0) xx = false from bI_f c_35)]) (by omega) H locs hP hD hS ls (lv_sub hl [0, 1, 2, 3, 4, 5, 6, 7, 8] rfl)
      · refine lv_iinc (v := (nI (tt + 1))) (lv' := [(8, .int (nI (tt + 1))), (11, .int (nI i)), (9, .long xx), (7, .ref h), (0, .ref xo), (1, .int (nI j)), (2, .long x), (4, .long st), (6, .int (nI nN))]) hx hb d_F_hasAll_38 hl (k := 2) rfl (nI_1 _) (by decide) rfl (fun ls hl => ?_)
        refine lv_lload hx hb d_F_hasAll_41 (lv_at hl 2 rfl) ?_
        refine lv_lload hx hb d_F_hasAll_43 (lv_at hl 7 rfl) ?_
        refine lv_ladd hx hb d_F_hasAll_45 ?_
        refine lv_lstore (lv' := [(9, .long (xx + st)), (8, .int (nI (tt + 1))), (11, .int (nI i)), (7, .ref h), (0, .ref xo), (1, .int (nI j)), (2, .long x), (4, .long st), (6, .int (nI nN))]) hx hb d_F_hasAll_46 hl (by decide) rfl (fun ls hl => ?_)
        refine lv_iinc (v := (nI (i + 1))) (lv' := [(11, .int (nI (i + 1))), (9, .long (xx + st)), (8, .int (nI (tt + 1))), (7, .ref h), (0, .ref xo), (1, .int (nI j)), (2, .long x), (4, .long st), (6, .int (nI nN))]) hx hb d_F_hasAll_48 hl (k := 2) rfl (nI_1 _) (by decide) rfl (fun ls hl => ?_)
        refine lv_goto (tgt := 21) hx hb d_F_hasAll_51 (by decide) ?_
        exact ih_21 (i + 1) (tt + 1) ((xx + st)) ((fpr A xx pl2 B)) (by omega) (by rw [ht, haS_t (show hasS (1, A, B, hd, pv, cs, n0, f0) xx = true from bI_t c_35)]; omega) (by omega) H locs hP hD hS ls (lv_sub hl [0, 1, 2, 3, 4, 5, 6, 7, 8] rfl)
  exact loop_21 (nN) (0) (0) (x) (pl) (by omega) ((Nat.zero_add _).symm) (Nat.le_refl _) H0 [] hP hD hS ls (lv_sub hl [0, 1, 2, 3, 4, 5, 6, 7, 8] rfl)

set_option maxHeartbeats 4000000 in
set_option maxRecDepth 100000 in
theorem c_F_addAll_C {l : Launch} {s0 : State} {D : va_G} {cI cF cJ : ClassId} (G : Gx l s0 D cI cF cJ) (xo fa ma : Nat) (fi mk : Nat → Option Nat) (h h1 h2 h3 A B : Nat) (hd pv : Int32) (cs pl pb : Nat → Nat) (n0 : Nat) (f0 : Nat → Nat) (j : Nat) (x st : Int64) (nN : Nat) {H0 : Heap} {A0 : Nat → Prop} (hP : va_P D vcl [(xo, .inr (3, [.ref fa, .ref ma])), (fa, aQ cF 4 fi), (ma, aQ cF 12 mk), (h, .inr (0, [.int (nI A), .int (nI B), .int hd, .ref h1, .ref h2, .ref h3])), (h1, aN cI 1024 cs), (h2, aN cI 6 pl), (h3, aN cI 6 pb)] H0) (hD : va_D A0 [(xo, .inr (3, [.ref fa, .ref ma])), (fa, aQ cF 4 fi), (ma, aQ cF 12 mk), (h, .inr (0, [.int (nI A), .int (nI B), .int hd, .ref h1, .ref h2, .ref h3])), (h1, aN cI 1024 cs), (h2, aN cI 6 pl), (h3, aN cI 6 pb)]) (hok : okS (1, A, B, hd, pv, cs, n0, f0)) (hj : j < 4) (hfi : fi j = some h) (hon : onS s0 H0) (had : ∀ q ∈ [xo, fa, ma, h, h1, h2, h3], s0.heap.size ≤ q) (hn4 : nN ≤ 400) : Mx l s0 y_F_addAll (.code y_F_addAll b_F_addAll 11 (some .int)) { frames := 7, cells := 0, slots := 0, locals := 160 } [.ref xo, .int (nI j), .long x, .long st, .int (nI nN)] H0 (Aa [xo, fa, ma, h, h1, h2, h3] H0.size) (Rq s0 none (some (.int (nI (aaS nN (1, A, B, hd, pv, cs, n0, f0) x st).1))) (fun H1 => ∃ hd2 cs2 pl2, (aaS nN (1, A, B, hd, pv, cs, n0, f0) x st).2 = (1, A, B, hd2, pv, cs2, n0, f0) ∧ va_P D vcl [(xo, .inr (3, [.ref fa, .ref ma])), (fa, aQ cF 4 fi), (ma, aQ cF 12 mk), (h, .inr (0, [.int (nI A), .int (nI B), .int hd2, .ref h1, .ref h2, .ref h3])), (h1, aN cI 1024 cs2), (h2, aN cI 6 pl2), (h3, aN cI 6 pb)] H1)) := by
  refine Mx.ofW (own := "FewBits") rfl rfl ?_
  rintro p e s m below meth c ⟨hx, hb, hml, hr, hown, hW, hlk⟩ hnm het hH
  have hK := G.k hW
  have hD := hD.aa (sz := H0.size)
  have hD : va_D (Aa [xo, fa, ma, h, h1, h2, h3] H0.size) [(xo, .inr (3, [.ref fa, .ref ma])), (fa, aQ cF 4 fi), (ma, aQ cF 12 mk), (h, .inr (0, [.int (nI A), .int (nI B), .int hd, .ref h1, .ref h2, .ref h3])), (h1, aN cI 1024 cs), (h2, aN cI 6 pl), (h3, aN cI 6 pb)] := hD
  have hS : va_S (Aa [xo, fa, ma, h, h1, h2, h3] H0.size) H0 H0 [] := va_S.rf
  have hl := lv_entry ([.ref xo, .int (nI j), .long x, .long st, .int (nI nN)]) (n := 11) (Nat.le_of_ble_eq_true rfl)
  rw [lg_entry_eq]
  generalize (lg_sl ([.ref xo, .int (nI j), .long x, .long st, .int (nI nN)]) ++ List.replicate (11 - (lg_sl ([.ref xo, .int (nI j), .long x, .long st, .int (nI nN)])).length) Slot.unset).toArray = ls at hl ⊢
  have hl : lv_has ls 11 [(0, .ref xo), (1, .int (nI j)), (2, .long x), (4, .long st), (6, .int (nI nN))] := hl
  refine lv_aload_n hx hb d_F_addAll_0 rfl (lv_at hl 0 rfl) ?_
  refine lv_iload_n hx hb d_F_addAll_1 rfl (lv_at hl 1 rfl) ?_
  refine mx_callR (r := .ref h) (c_F_filterAt G xo fa ma fi mk j h (hP.sub [0, 1, 2] rfl) hj hfi) hW (iv_F_addAll_2 G hx hb hown hW (va_recv hK hP (ci := 3) (q0 := 0) rfl rfl) [.int (nI j)] [] rfl) hml hl.1 (by rw [hb]; exact d_F_addAll_2) (cd_F_filterAt G hW) ⟨Nat.le_of_ble_eq_true rfl, Nat.le_of_ble_eq_true rfl⟩ rfl rfl (Nat.le_of_ble_eq_true rfl) (Nat.le_of_ble_eq_true rfl) (Nat.le_of_ble_eq_true rfl) ?_
  refine lv_astore (lv' := [(7, .ref h), (0, .ref xo), (1, .int (nI j)), (2, .long x), (4, .long st), (6, .int (nI nN))]) hx hb d_F_addAll_5 hl (by decide) rfl (fun ls hl => ?_)
  refine lv_iload hx hb d_F_addAll_7 (lv_at hl 5 rfl) ?_
  refine mx_callV (c_F_requireItems_ok G (nI nN) (wth_le hn4)) hW (iv_F_addAll_9 G hx hb hown hW [.int (nI nN)] [] rfl) hml hl.1 (by rw [hb]; exact d_F_addAll_9) (cd_F_requireItems G hW) ⟨Nat.le_of_ble_eq_true rfl, Nat.le_of_ble_eq_true rfl⟩ rfl rfl (Nat.le_of_ble_eq_true rfl) (Nat.le_of_ble_eq_true rfl) (Nat.le_of_ble_eq_true rfl) ?_
  refine lv_lload_n hx hb d_F_addAll_12 rfl (lv_at hl 3 rfl) ?_
  refine lv_lstore (lv' := [(8, .long x), (7, .ref h), (0, .ref xo), (1, .int (nI j)), (2, .long x), (4, .long st), (6, .int (nI nN))]) hx hb d_F_addAll_13 hl (by decide) rfl (fun ls hl => ?_)
  refine lv_iconst (v := (nI 0)) hx hb d_F_addAll_15 (by decide) ?_
  refine lv_istore (lv' := [(10, .int (nI 0)), (8, .long x), (7, .ref h), (0, .ref xo), (1, .int (nI j)), (2, .long x), (4, .long st), (6, .int (nI nN))]) hx hb d_F_addAll_16 hl (by decide) rfl (fun ls hl => ?_)
  have loop_18 : ∀ (k : Nat) (i : Nat) (xx : Int64) (hd2 : Int32) (cs2 : Nat → Nat) (pl2 : Nat → Nat), (i + k = nN) → (okS (1, A, B, hd2, pv, cs2, n0, f0)) → (aaS nN (1, A, B, hd, pv, cs, n0, f0) x st = (i + (aaS k (1, A, B, hd2, pv, cs2, n0, f0) xx st).1, (aaS k (1, A, B, hd2, pv, cs2, n0, f0) xx st).2)) → ∀ (H : Heap) (locs : List Loc), va_P D vcl [(xo, .inr (3, [.ref fa, .ref ma])), (fa, aQ cF 4 fi), (ma, aQ cF 12 mk), (h, .inr (0, [.int (nI A), .int (nI B), .int hd2, .ref h1, .ref h2, .ref h3])), (h1, aN cI 1024 cs2), (h2, aN cI 6 pl2), (h3, aN cI 6 pb)] H → va_D (Aa [xo, fa, ma, h, h1, h2, h3] H0.size) [(xo, .inr (3, [.ref fa, .ref ma])), (fa, aQ cF 4 fi), (ma, aQ cF 12 mk), (h, .inr (0, [.int (nI A), .int (nI B), .int hd2, .ref h1, .ref h2, .ref h3])), (h1, aN cI 1024 cs2), (h2, aN cI 6 pl2), (h3, aN cI 6 pb)] → va_S (Aa [xo, fa, ma, h, h1, h2, h3] H0.size) H0 H locs → ∀ (ls : Array Slot), lv_has ls 11 [(10, .int (nI i)), (8, .long xx), (7, .ref h), (0, .ref xo), (1, .int (nI j)), (2, .long x), (4, .long st), (6, .int (nI nN))] → W p l e { frames := 7, cells := 0, slots := 0, locals := 160 } s m ([.ref xo, .int (nI j), .long x, .long st, .int (nI nN)] : List Value).toArray below meth c H locs 0 0 (MQx below (Rq s0 none (some (.int (nI (aaS nN (1, A, B, hd, pv, cs, n0, f0) x st).1))) (fun H1 => ∃ hd2 cs2 pl2, (aaS nN (1, A, B, hd, pv, cs, n0, f0) x st).2 = (1, A, B, hd2, pv, cs2, n0, f0) ∧ va_P D vcl [(xo, .inr (3, [.ref fa, .ref ma])), (fa, aQ cF 4 fi), (ma, aQ cF 12 mk), (h, .inr (0, [.int (nI A), .int (nI B), .int hd2, .ref h1, .ref h2, .ref h3])), (h1, aN cI 1024 cs2), (h2, aN cI 6 pl2), (h3, aN cI 6 pb)] H1)) s 0 0 (Aa [xo, fa, ma, h, h1, h2, h3] H0.size)) (F0 m 18 ls []) := by
    intro k
    induction k with
    | zero =>
      intro i xx hd2 cs2 pl2 hk hok2 haa H locs hP hD hS ls hl
      refine lv_iload hx hb d_F_addAll_18 (lv_at hl 0 rfl) ?_
      refine lv_iload hx hb d_F_addAll_20 (lv_at hl 7 rfl) ?_
      refine lv_icmp_ge (tgt := 51) hx hb d_F_addAll_22 (by decide) (fun c_22 => ?_) (fun c_22 => absurd (nI_le (by omega) (by omega)) c_22)
      refine lv_iload hx hb d_F_addAll_51 (lv_at hl 7 rfl) ?_
      exact mx_iret hx hb hr hlk d_F_addAll_53 (Nat.le_of_ble_eq_true rfl) (Nat.le_of_ble_eq_true rfl) hS.2.2 (⟨by rw [haa]; show _ = Outcome.returned (some (Value.int (nI (i + 0)))); rw [Nat.add_zero, show i = nN by omega], hd2, cs2, pl2, by rw [haa]; rfl, hP⟩)
    | succ k ih_18 =>
      intro i xx hd2 cs2 pl2 hk hok2 haa H locs hP hD hS ls hl
      refine lv_iload hx hb d_F_addAll_18 (lv_at hl 0 rfl) ?_
      refine lv_iload hx hb d_F_addAll_20 (lv_at hl 7 rfl) ?_
      refine lv_icmp_ge (tgt := 51) hx hb d_F_addAll_22 (by decide) (fun c_22 => absurd c_22 (nI_ge (by omega) (by omega))) (fun c_22 => ?_)
      have hq := okS_1.mp hok2
      have hA : A ≤ 10 := hq.2.1
      have hB : B ≤ 6 := hq.2.2.2.1
      have hc1 := hq.2.2.2.2.1
      refine lv_aload hx hb d_F_addAll_25 (lv_at hl 2 rfl) ?_
      refine lv_lload hx hb d_F_addAll_27 (lv_at hl 1 rfl) ?_
      refine mx_callW (r := .int (bI (allN (fitA cs2 (plx A xx) B) B))) (c_P_accept_C G h h1 h2 h3 A B hd2 cs2 pl2 pb xx (hP.sub [3, 4, 5, 6] rfl) (hD.sub [3, 4, 5, 6] rfl rfl) hA hB hc1) hW (iv_F_addAll_29_C G hx hb hown hW (va_recv hK hP (ci := 0) (q0 := 3) rfl rfl) [.long xx] [] rfl) hml hl.1 (by rw [hb]; exact d_F_addAll_29) (cd_P_accept G hW) ⟨Nat.le_of_ble_eq_true rfl, Nat.le_of_ble_eq_true rfl⟩ (Nat.le_of_ble_eq_true rfl) (Nat.le_of_ble_eq_true rfl) (Nat.le_of_ble_eq_true rfl) hS (Aa.mono (fun _ h => List.mem_append_right [xo, fa, ma] h) hS.1) (fun H locs hP2 _ hkp hS => ?_)
      have hP := va_P.join (ws1 := [(xo, .inr (3, [.ref fa, .ref ma])), (fa, aQ cF 4 fi), (ma, aQ cF 12 mk)]) (ws2 := [(h, .inr (0, [.int (nI A), .int (nI B), .int hd2, .ref h1, .ref h2, .ref h3])), (h1, aN cI 1024 cs2), (h2, aN cI 6 pl2), (h3, aN cI 6 pb)]) hP hD hP2 hkp rfl
      have hP : va_P D vcl [(xo, .inr (3, [.ref fa, .ref ma])), (fa, aQ cF 4 fi), (ma, aQ cF 12 mk), (h, .inr (0, [.int (nI A), .int (nI B), .int (if (allN (fitA cs2 (plx A xx) B) B) then hd2 + nI 1 else hd2), .ref h1, .ref h2, .ref h3])), (h1, aN cI 1024 (if (allN (fitA cs2 (plx A xx) B) B) then addC cs2 (plx A xx) B else cs2)), (h2, aN cI 6 (fpr A xx pl2 B)), (h3, aN cI 6 pb)] H := hP
      have hD : va_D (Aa [xo, fa, ma, h, h1, h2, h3] H0.size) [(xo, .inr (3, [.ref fa, .ref ma])), (fa, aQ cF 4 fi), (ma, aQ cF 12 mk), (h, .inr (0, [.int (nI A), .int (nI B), .int (if (allN (fitA cs2 (plx A xx) B) B) then hd2 + nI 1 else hd2), .ref h1, .ref h2, .ref h3])), (h1, aN cI 1024 (if (allN (fitA cs2 (plx A xx) B) B) then addC cs2 (plx A xx) B else cs2)), (h2, aN cI 6 (fpr A xx pl2 B)), (h3, aN cI 6 pb)] := va_D.same2 [xo, fa, ma, h, h1, h2, h3] hD rfl rfl
      refine lv_if_ne (tgt := 38) hx hb d_F_addAll_32 (by decide) (fun c_32 => ?_) (fun c_32 => ?_)
      · refine lv_lload hx hb d_F_addAll_38 (lv_at hl 1 rfl) ?_
        refine lv_lload hx hb d_F_addAll_40 (lv_at hl 6 rfl) ?_
        refine lv_ladd hx hb d_F_addAll_42 ?_
        refine lv_lstore (lv' := [(8, .long (xx + st)), (10, .int (nI i)), (7, .ref h), (0, .ref xo), (1, .int (nI j)), (2, .long x), (4, .long st), (6, .int (nI nN))]) hx hb d_F_addAll_43 hl (by decide) rfl (fun ls hl => ?_)
        refine lv_iinc (v := (nI (i + 1))) (lv' := [(10, .int (nI (i + 1))), (8, .long (xx + st)), (7, .ref h), (0, .ref xo), (1, .int (nI j)), (2, .long x), (4, .long st), (6, .int (nI nN))]) hx hb d_F_addAll_45 hl (k := 1) rfl (nI_1 _) (by decide) rfl (fun ls hl => ?_)
        refine lv_goto (tgt := 18) hx hb d_F_addAll_48 (by decide) ?_
        exact ih_18 (i + 1) ((xx + st)) ((if (allN (fitA cs2 (plx A xx) B) B) then hd2 + nI 1 else hd2)) ((if (allN (fitA cs2 (plx A xx) B) B) then addC cs2 (plx A xx) B else cs2)) ((fpr A xx pl2 B)) (by omega) (by have h9 := okS_add xx hok2 (fun h9 => by cases h9); rw [addS_1] at h9; exact h9) (by rw [haa, aaS_t (by rw [addS_1]; exact bI_t c_32), addS_1]; simp only [Prod.mk.injEq, and_true]; omega) H locs hP hD hS ls (lv_sub hl [0, 1, 2, 3, 4, 5, 6, 7] rfl)
      · refine lv_iload hx hb d_F_addAll_35 (lv_at hl 0 rfl) ?_
        exact mx_iret hx hb hr hlk d_F_addAll_37 (Nat.le_of_ble_eq_true rfl) (Nat.le_of_ble_eq_true rfl) hS.2.2 (⟨by rw [haa, aaS_f (by rw [addS_1]; exact bI_f c_32)]; rfl, (if (allN (fitA cs2 (plx A xx) B) B) then hd2 + nI 1 else hd2), (if (allN (fitA cs2 (plx A xx) B) B) then addC cs2 (plx A xx) B else cs2), (fpr A xx pl2 B), by rw [haa, aaS_f (by rw [addS_1]; exact bI_f c_32), addS_1], hP⟩)
  exact loop_18 (nN) (0) (x) (hd) (cs) (pl) (by omega) (hok) (by rw [Nat.zero_add]) H0 [] hP hD hS ls (lv_sub hl [0, 1, 2, 3, 4, 5, 6, 7] rfl)

set_option maxHeartbeats 4000000 in
set_option maxRecDepth 100000 in
theorem c_F_add_B {l : Launch} {s0 : State} {D : va_G} {cI cF cJ : ClassId} (G : Gx l s0 D cI cF cJ) (xo fa ma : Nat) (fi mk : Nat → Option Nat) (h h1 h2 A B : Nat) (hd pu : Int32) (sl pt : Nat → Nat) (n0 : Nat) (f0 : Nat → Nat) (j : Nat) (x : Int64) {H0 : Heap} {A0 : Nat → Prop} (hP : va_P D vcl [(xo, .inr (3, [.ref fa, .ref ma])), (fa, aQ cF 4 fi), (ma, aQ cF 12 mk), (h, .inr (1, [.int (nI A), .int (nI B), .int hd, .ref h1, .ref h2, .int pu])), (h1, aN cI 1024 sl), (h2, aN cI 64 pt)] H0) (hD : va_D A0 [(xo, .inr (3, [.ref fa, .ref ma])), (fa, aQ cF 4 fi), (ma, aQ cF 12 mk), (h, .inr (1, [.int (nI A), .int (nI B), .int hd, .ref h1, .ref h2, .int pu])), (h1, aN cI 1024 sl), (h2, aN cI 64 pt)]) (hok : okS (2, A, B, hd, pu, sl, n0, f0)) (hj : j < 4) (hfi : fi j = some h) (hon : onS s0 H0) (had : ∀ q ∈ [xo, fa, ma, h, h1, h2], s0.heap.size ≤ q)  : Mx l s0 y_F_add (.code y_F_add b_F_add 5 (some .int)) { frames := 7, cells := 1, slots := 6, locals := 160 } [.ref xo, .int (nI j), .long x] H0 (Aa [xo, fa, ma, h, h1, h2] H0.size) (Rq s0 (if (putB A B x sl).1.isSome then none else some E_U) (some (.int (if (putB A B x sl).1.isSome then hd + nI 1 else hd))) (fun H1 => ∃ pt1, va_P D vcl [(xo, .inr (3, [.ref fa, .ref ma])), (fa, aQ cF 4 fi), (ma, aQ cF 12 mk), (h, .inr (1, [.int (nI A), .int (nI B), .int (if (putB A B x sl).1.isSome then hd + nI 1 else hd), .ref h1, .ref h2, .int (pu + nI (putB A B x sl).2)])), (h1, aN cI 1024 ((putB A B x sl).1.getD sl)), (h2, aN cI 64 pt1)] H1)) := by
  refine Mx.ofW (own := "FewBits") rfl rfl ?_
  rintro p e s m below meth c ⟨hx, hb, hml, hr, hown, hW, hlk⟩ hnm het hH
  have hK := G.k hW
  have hD := hD.aa (sz := H0.size)
  have hD : va_D (Aa [xo, fa, ma, h, h1, h2] H0.size) [(xo, .inr (3, [.ref fa, .ref ma])), (fa, aQ cF 4 fi), (ma, aQ cF 12 mk), (h, .inr (1, [.int (nI A), .int (nI B), .int hd, .ref h1, .ref h2, .int pu])), (h1, aN cI 1024 sl), (h2, aN cI 64 pt)] := hD
  have hS : va_S (Aa [xo, fa, ma, h, h1, h2] H0.size) H0 H0 [] := va_S.rf
  have hq := okS_2.mp hok
  have hA : A ≤ 8 := hq.2.1
  have hB4 : 4 ≤ B := hq.2.2.1
  have hB : B ≤ 16 := hq.2.2.2.1
  have hs := hq.2.2.2.2.1.1
  have hl := lv_entry ([.ref xo, .int (nI j), .long x]) (n := 5) (Nat.le_of_ble_eq_true rfl)
  rw [lg_entry_eq]
  generalize (lg_sl ([.ref xo, .int (nI j), .long x]) ++ List.replicate (5 - (lg_sl ([.ref xo, .int (nI j), .long x])).length) Slot.unset).toArray = ls at hl ⊢
  have hl : lv_has ls 5 [(0, .ref xo), (1, .int (nI j)), (2, .long x)] := hl
  refine lv_aload_n hx hb d_F_add_0 rfl (lv_at hl 0 rfl) ?_
  refine lv_iload_n hx hb d_F_add_1 rfl (lv_at hl 1 rfl) ?_
  refine mx_callR (r := .ref h) (c_F_filterAt G xo fa ma fi mk j h (hP.sub [0, 1, 2] rfl) hj hfi) hW (iv_F_add_2 G hx hb hown hW (va_recv hK hP (ci := 3) (q0 := 0) rfl rfl) [.int (nI j)] [] rfl) hml hl.1 (by rw [hb]; exact d_F_add_2) (cd_F_filterAt G hW) ⟨Nat.le_of_ble_eq_true rfl, Nat.le_of_ble_eq_true rfl⟩ rfl rfl (Nat.le_of_ble_eq_true rfl) (Nat.le_of_ble_eq_true rfl) (Nat.le_of_ble_eq_true rfl) ?_
  refine lv_astore (lv' := [(4, .ref h), (0, .ref xo), (1, .int (nI j)), (2, .long x)]) hx hb d_F_add_5 hl (by decide) rfl (fun ls hl => ?_)
  refine lv_aload hx hb d_F_add_7 (lv_at hl 0 rfl) ?_
  refine lv_lload_n hx hb d_F_add_9 rfl (lv_at hl 3 rfl) ?_
  refine mx_callW (r := .int (bI (putB A B x sl).1.isSome)) (c_P_accept_B G h h1 h2 A B hd pu sl pt x (hP.sub [3, 4, 5] rfl) (hD.sub [3, 4, 5] rfl rfl) hA hB4 hB hs) hW (iv_F_add_10_B G hx hb hown hW (va_recv hK hP (ci := 1) (q0 := 3) rfl rfl) [.long x] [] rfl) hml hl.1 (by rw [hb]; exact d_F_add_10) (cd_P_accept G hW) ⟨Nat.le_of_ble_eq_true rfl, Nat.le_of_ble_eq_true rfl⟩ (Nat.le_of_ble_eq_true rfl) (Nat.le_of_ble_eq_true rfl) (Nat.le_of_ble_eq_true rfl) hS (Aa.mono (fun _ h => List.mem_append_right [xo, fa, ma] h) hS.1) (fun H locs hP2 _ hkp hS => ?_)
  obtain ⟨pt1, hP2⟩ := hP2
  have hP := va_P.join (ws1 := [(xo, .inr (3, [.ref fa, .ref ma])), (fa, aQ cF 4 fi), (ma, aQ cF 12 mk)]) (ws2 := [(h, .inr (1, [.int (nI A), .int (nI B), .int hd, .ref h1, .ref h2, .int pu])), (h1, aN cI 1024 sl), (h2, aN cI 64 pt)]) hP hD hP2 hkp rfl
  have hP : va_P D vcl [(xo, .inr (3, [.ref fa, .ref ma])), (fa, aQ cF 4 fi), (ma, aQ cF 12 mk), (h, .inr (1, [.int (nI A), .int (nI B), .int (if (putB A B x sl).1.isSome then hd + nI 1 else hd), .ref h1, .ref h2, .int (pu + nI (putB A B x sl).2)])), (h1, aN cI 1024 ((putB A B x sl).1.getD sl)), (h2, aN cI 64 pt1)] H := hP
  have hD : va_D (Aa [xo, fa, ma, h, h1, h2] H0.size) [(xo, .inr (3, [.ref fa, .ref ma])), (fa, aQ cF 4 fi), (ma, aQ cF 12 mk), (h, .inr (1, [.int (nI A), .int (nI B), .int (if (putB A B x sl).1.isSome then hd + nI 1 else hd), .ref h1, .ref h2, .int (pu + nI (putB A B x sl).2)])), (h1, aN cI 1024 ((putB A B x sl).1.getD sl)), (h2, aN cI 64 pt1)] := va_D.same2 [xo, fa, ma, h, h1, h2] hD rfl rfl
  refine lv_if_ne (tgt := 26) hx hb d_F_add_13 (by decide) (fun c_13 => ?_) (fun c_13 => ?_)
  · refine lv_aload hx hb d_F_add_26 (lv_at hl 0 rfl) ?_
    refine va_get (D := D) (ci := 1) (v := .int (if (putB A B x sl).1.isSome then hd + nI 1 else hd)) (C := R_B) (T := T_B) (N := 6) hx hb (us_B G hW) (fun _ h => h) hown hK hP 3 rfl rfl 2 (by decide) (fl_F_58 G hW) (fun _ h9 => h9) rfl d_F_add_28 ?_
    exact mx_iret hx hb hr hlk d_F_add_31 (Nat.le_of_ble_eq_true rfl) (Nat.le_of_ble_eq_true rfl) hS.2.2 (⟨by rw [bI_t c_13]; rfl, pt1, hP⟩)
  · exact mx_throw (rest := []) G hx hb hW hown (th_U G) (str_at G 397 rfl hW) (hon.go had hS) (hl.1.trans hml.symm) het hlk d_F_add_16 d_F_add_19 d_F_add_20 d_F_add_22 d_F_add_25 (Nat.le_of_ble_eq_true rfl) (Nat.le_of_ble_eq_true rfl) (Nat.le_of_ble_eq_true rfl) (Nat.le_of_ble_eq_true rfl) (Nat.le_of_ble_eq_true rfl) (Nat.le_of_ble_eq_true rfl) hS.2.2 (fun H1 q hz hk ho => ⟨by rw [bI_f c_13]; exact ⟨q, rfl, ho⟩, pt1, va_P.ext hP hk⟩)

set_option maxHeartbeats 4000000 in
set_option maxRecDepth 100000 in
theorem c_F_remove_B {l : Launch} {s0 : State} {D : va_G} {cI cF cJ : ClassId} (G : Gx l s0 D cI cF cJ) (xo fa ma : Nat) (fi mk : Nat → Option Nat) (h h1 h2 A B : Nat) (hd pu : Int32) (sl pt : Nat → Nat) (n0 : Nat) (f0 : Nat → Nat) (j : Nat) (x : Int64) {H0 : Heap} {A0 : Nat → Prop} (hP : va_P D vcl [(xo, .inr (3, [.ref fa, .ref ma])), (fa, aQ cF 4 fi), (ma, aQ cF 12 mk), (h, .inr (1, [.int (nI A), .int (nI B), .int hd, .ref h1, .ref h2, .int pu])), (h1, aN cI 1024 sl), (h2, aN cI 64 pt)] H0) (hD : va_D A0 [(xo, .inr (3, [.ref fa, .ref ma])), (fa, aQ cF 4 fi), (ma, aQ cF 12 mk), (h, .inr (1, [.int (nI A), .int (nI B), .int hd, .ref h1, .ref h2, .int pu])), (h1, aN cI 1024 sl), (h2, aN cI 64 pt)]) (hok : okS (2, A, B, hd, pu, sl, n0, f0)) (hj : j < 4) (hfi : fi j = some h) (hon : onS s0 H0) (had : ∀ q ∈ [xo, fa, ma, h, h1, h2], s0.heap.size ≤ q)  : Mx l s0 y_F_remove (.code y_F_remove b_F_remove 5 (some .int)) { frames := 7, cells := 1, slots := 6, locals := 160 } [.ref xo, .int (nI j), .long x] H0 (Aa [xo, fa, ma, h, h1, h2] H0.size) (Rq s0 (if (slotB A B x sl).isSome then none else some E_N) (some (.int (if (slotB A B x sl).isSome then hd - nI 1 else hd))) (fun H1 => va_P D vcl [(xo, .inr (3, [.ref fa, .ref ma])), (fa, aQ cF 4 fi), (ma, aQ cF 12 mk), (h, .inr (1, [.int (nI A), .int (nI B), .int (if (slotB A B x sl).isSome then hd - nI 1 else hd), .ref h1, .ref h2, .int pu])), (h1, aN cI 1024 (tkB A B x sl)), (h2, aN cI 64 pt)] H1)) := by
  refine Mx.ofW (own := "FewBits") rfl rfl ?_
  rintro p e s m below meth c ⟨hx, hb, hml, hr, hown, hW, hlk⟩ hnm het hH
  have hK := G.k hW
  have hD := hD.aa (sz := H0.size)
  have hD : va_D (Aa [xo, fa, ma, h, h1, h2] H0.size) [(xo, .inr (3, [.ref fa, .ref ma])), (fa, aQ cF 4 fi), (ma, aQ cF 12 mk), (h, .inr (1, [.int (nI A), .int (nI B), .int hd, .ref h1, .ref h2, .int pu])), (h1, aN cI 1024 sl), (h2, aN cI 64 pt)] := hD
  have hS : va_S (Aa [xo, fa, ma, h, h1, h2] H0.size) H0 H0 [] := va_S.rf
  have hq := okS_2.mp hok
  have hA : A ≤ 8 := hq.2.1
  have hB4 : 4 ≤ B := hq.2.2.1
  have hB : B ≤ 16 := hq.2.2.2.1
  have hs := hq.2.2.2.2.1.1
  have hl := lv_entry ([.ref xo, .int (nI j), .long x]) (n := 5) (Nat.le_of_ble_eq_true rfl)
  rw [lg_entry_eq]
  generalize (lg_sl ([.ref xo, .int (nI j), .long x]) ++ List.replicate (5 - (lg_sl ([.ref xo, .int (nI j), .long x])).length) Slot.unset).toArray = ls at hl ⊢
  have hl : lv_has ls 5 [(0, .ref xo), (1, .int (nI j)), (2, .long x)] := hl
  refine lv_aload_n hx hb d_F_remove_0 rfl (lv_at hl 0 rfl) ?_
  refine lv_iload_n hx hb d_F_remove_1 rfl (lv_at hl 1 rfl) ?_
  refine mx_callR (r := .ref h) (c_F_filterAt G xo fa ma fi mk j h (hP.sub [0, 1, 2] rfl) hj hfi) hW (iv_F_remove_2 G hx hb hown hW (va_recv hK hP (ci := 3) (q0 := 0) rfl rfl) [.int (nI j)] [] rfl) hml hl.1 (by rw [hb]; exact d_F_remove_2) (cd_F_filterAt G hW) ⟨Nat.le_of_ble_eq_true rfl, Nat.le_of_ble_eq_true rfl⟩ rfl rfl (Nat.le_of_ble_eq_true rfl) (Nat.le_of_ble_eq_true rfl) (Nat.le_of_ble_eq_true rfl) ?_
  refine lv_astore (lv' := [(4, .ref h), (0, .ref xo), (1, .int (nI j)), (2, .long x)]) hx hb d_F_remove_5 hl (by decide) rfl (fun ls hl => ?_)
  refine lv_aload hx hb d_F_remove_7 (lv_at hl 0 rfl) ?_
  refine lv_lload_n hx hb d_F_remove_9 rfl (lv_at hl 3 rfl) ?_
  refine mx_callW (r := .int (bI (slotB A B x sl).isSome)) (c_P_release_B G h h1 h2 A B hd pu sl pt x (hP.sub [3, 4, 5] rfl) (hD.sub [3, 4, 5] rfl rfl) hA hB4 hB hs) hW (iv_F_remove_10_B G hx hb hown hW (va_recv hK hP (ci := 1) (q0 := 3) rfl rfl) [.long x] [] rfl) hml hl.1 (by rw [hb]; exact d_F_remove_10) (cd_P_release G hW) ⟨Nat.le_of_ble_eq_true rfl, Nat.le_of_ble_eq_true rfl⟩ (Nat.le_of_ble_eq_true rfl) (Nat.le_of_ble_eq_true rfl) (Nat.le_of_ble_eq_true rfl) hS (Aa.mono (fun _ h => List.mem_append_right [xo, fa, ma] h) hS.1) (fun H locs hP2 _ hkp hS => ?_)
  have hP := va_P.join (ws1 := [(xo, .inr (3, [.ref fa, .ref ma])), (fa, aQ cF 4 fi), (ma, aQ cF 12 mk)]) (ws2 := [(h, .inr (1, [.int (nI A), .int (nI B), .int hd, .ref h1, .ref h2, .int pu])), (h1, aN cI 1024 sl), (h2, aN cI 64 pt)]) hP hD hP2 hkp rfl
  have hP : va_P D vcl [(xo, .inr (3, [.ref fa, .ref ma])), (fa, aQ cF 4 fi), (ma, aQ cF 12 mk), (h, .inr (1, [.int (nI A), .int (nI B), .int (if (slotB A B x sl).isSome then hd - nI 1 else hd), .ref h1, .ref h2, .int pu])), (h1, aN cI 1024 (tkB A B x sl)), (h2, aN cI 64 pt)] H := hP
  have hD : va_D (Aa [xo, fa, ma, h, h1, h2] H0.size) [(xo, .inr (3, [.ref fa, .ref ma])), (fa, aQ cF 4 fi), (ma, aQ cF 12 mk), (h, .inr (1, [.int (nI A), .int (nI B), .int (if (slotB A B x sl).isSome then hd - nI 1 else hd), .ref h1, .ref h2, .int pu])), (h1, aN cI 1024 (tkB A B x sl)), (h2, aN cI 64 pt)] := va_D.same2 [xo, fa, ma, h, h1, h2] hD rfl rfl
  refine lv_if_ne (tgt := 26) hx hb d_F_remove_13 (by decide) (fun c_13 => ?_) (fun c_13 => ?_)
  · refine lv_aload hx hb d_F_remove_26 (lv_at hl 0 rfl) ?_
    refine va_get (D := D) (ci := 1) (v := .int (if (slotB A B x sl).isSome then hd - nI 1 else hd)) (C := R_B) (T := T_B) (N := 6) hx hb (us_B G hW) (fun _ h => h) hown hK hP 3 rfl rfl 2 (by decide) (fl_F_58 G hW) (fun _ h9 => h9) rfl d_F_remove_28 ?_
    exact mx_iret hx hb hr hlk d_F_remove_31 (Nat.le_of_ble_eq_true rfl) (Nat.le_of_ble_eq_true rfl) hS.2.2 (⟨by rw [bI_t c_13]; rfl, hP⟩)
  · exact mx_throw (rest := []) G hx hb hW hown (th_N G) (str_at G 455 rfl hW) (hon.go had hS) (hl.1.trans hml.symm) het hlk d_F_remove_16 d_F_remove_19 d_F_remove_20 d_F_remove_22 d_F_remove_25 (Nat.le_of_ble_eq_true rfl) (Nat.le_of_ble_eq_true rfl) (Nat.le_of_ble_eq_true rfl) (Nat.le_of_ble_eq_true rfl) (Nat.le_of_ble_eq_true rfl) (Nat.le_of_ble_eq_true rfl) hS.2.2 (fun H1 q hz hk ho => ⟨by rw [bI_f c_13]; exact ⟨q, rfl, ho⟩, va_P.ext hP hk⟩)

set_option maxHeartbeats 4000000 in
set_option maxRecDepth 100000 in
theorem c_F_has_B {l : Launch} {s0 : State} {D : va_G} {cI cF cJ : ClassId} (G : Gx l s0 D cI cF cJ) (xo fa ma : Nat) (fi mk : Nat → Option Nat) (h h1 h2 A B : Nat) (hd pu : Int32) (sl pt : Nat → Nat) (n0 : Nat) (f0 : Nat → Nat) (j : Nat) (x : Int64) {H0 : Heap} {A0 : Nat → Prop} (hP : va_P D vcl [(xo, .inr (3, [.ref fa, .ref ma])), (fa, aQ cF 4 fi), (ma, aQ cF 12 mk), (h, .inr (1, [.int (nI A), .int (nI B), .int hd, .ref h1, .ref h2, .int pu])), (h1, aN cI 1024 sl), (h2, aN cI 64 pt)] H0) (hD : va_D A0 [(xo, .inr (3, [.ref fa, .ref ma])), (fa, aQ cF 4 fi), (ma, aQ cF 12 mk), (h, .inr (1, [.int (nI A), .int (nI B), .int hd, .ref h1, .ref h2, .int pu])), (h1, aN cI 1024 sl), (h2, aN cI 64 pt)]) (hok : okS (2, A, B, hd, pu, sl, n0, f0)) (hj : j < 4) (hfi : fi j = some h) (hon : onS s0 H0) (had : ∀ q ∈ [xo, fa, ma, h, h1, h2], s0.heap.size ≤ q)  : Mx l s0 y_F_has (.code y_F_has b_F_has 4 (some .boolean)) { frames := 7, cells := 0, slots := 0, locals := 160 } [.ref xo, .int (nI j), .long x] H0 (Aa [xo, fa, ma, h, h1, h2] H0.size) (Rq s0 none (some (.int (bI (slotB A B x sl).isSome))) (fun H1 => va_P D vcl [(xo, .inr (3, [.ref fa, .ref ma])), (fa, aQ cF 4 fi), (ma, aQ cF 12 mk), (h, .inr (1, [.int (nI A), .int (nI B), .int hd, .ref h1, .ref h2, .int pu])), (h1, aN cI 1024 sl), (h2, aN cI 64 pt)] H1)) := by
  refine Mx.ofW (own := "FewBits") rfl rfl ?_
  rintro p e s m below meth c ⟨hx, hb, hml, hr, hown, hW, hlk⟩ hnm het hH
  have hK := G.k hW
  have hD := hD.aa (sz := H0.size)
  have hD : va_D (Aa [xo, fa, ma, h, h1, h2] H0.size) [(xo, .inr (3, [.ref fa, .ref ma])), (fa, aQ cF 4 fi), (ma, aQ cF 12 mk), (h, .inr (1, [.int (nI A), .int (nI B), .int hd, .ref h1, .ref h2, .int pu])), (h1, aN cI 1024 sl), (h2, aN cI 64 pt)] := hD
  have hS : va_S (Aa [xo, fa, ma, h, h1, h2] H0.size) H0 H0 [] := va_S.rf
  have hq := okS_2.mp hok
  have hA : A ≤ 8 := hq.2.1
  have hB4 : 4 ≤ B := hq.2.2.1
  have hB : B ≤ 16 := hq.2.2.2.1
  have hs := hq.2.2.2.2.1.1
  have hl := lv_entry ([.ref xo, .int (nI j), .long x]) (n := 4) (Nat.le_of_ble_eq_true rfl)
  rw [lg_entry_eq]
  generalize (lg_sl ([.ref xo, .int (nI j), .long x]) ++ List.replicate (4 - (lg_sl ([.ref xo, .int (nI j), .long x])).length) Slot.unset).toArray = ls at hl ⊢
  have hl : lv_has ls 4 [(0, .ref xo), (1, .int (nI j)), (2, .long x)] := hl
  refine lv_aload_n hx hb d_F_has_0 rfl (lv_at hl 0 rfl) ?_
  refine lv_iload_n hx hb d_F_has_1 rfl (lv_at hl 1 rfl) ?_
  refine mx_callR (r := .ref h) (c_F_filterAt G xo fa ma fi mk j h (hP.sub [0, 1, 2] rfl) hj hfi) hW (iv_F_has_2 G hx hb hown hW (va_recv hK hP (ci := 3) (q0 := 0) rfl rfl) [.int (nI j)] [] rfl) hml hl.1 (by rw [hb]; exact d_F_has_2) (cd_F_filterAt G hW) ⟨Nat.le_of_ble_eq_true rfl, Nat.le_of_ble_eq_true rfl⟩ rfl rfl (Nat.le_of_ble_eq_true rfl) (Nat.le_of_ble_eq_true rfl) (Nat.le_of_ble_eq_true rfl) ?_
  refine lv_lload_n hx hb d_F_has_5 rfl (lv_at hl 2 rfl) ?_
  refine mx_callR (r := .int (bI (slotB A B x sl).isSome)) (c_B_holds G h h1 h2 A B hd pu sl pt x (hP.sub [3, 4, 5] rfl) hA hB4 hB hs) hW (iv_F_has_6_B G hx hb hown hW (va_recv hK hP (ci := 1) (q0 := 3) rfl rfl) [.long x] [] rfl) hml hl.1 (by rw [hb]; exact d_F_has_6) (cd_B_holds G hW) ⟨Nat.le_of_ble_eq_true rfl, Nat.le_of_ble_eq_true rfl⟩ rfl rfl (Nat.le_of_ble_eq_true rfl) (Nat.le_of_ble_eq_true rfl) (Nat.le_of_ble_eq_true rfl) ?_
  exact mx_zret hx hb hr hlk d_F_has_9 (Nat.le_of_ble_eq_true rfl) (Nat.le_of_ble_eq_true rfl) (fun _ h => nomatch h) (bI_nar _) (⟨rfl, hP⟩)

set_option maxHeartbeats 4000000 in
set_option maxRecDepth 100000 in
theorem c_F_same_B {l : Launch} {s0 : State} {D : va_G} {cI cF cJ : ClassId} (G : Gx l s0 D cI cF cJ) (xo fa ma : Nat) (fi mk : Nat → Option Nat) (h h1 h2 A B : Nat) (hd pu : Int32) (sl pt : Nat → Nat) (n0 : Nat) (f0 : Nat → Nat) (j : Nat) (x y : Int64) {H0 : Heap} {A0 : Nat → Prop} (hP : va_P D vcl [(xo, .inr (3, [.ref fa, .ref ma])), (fa, aQ cF 4 fi), (ma, aQ cF 12 mk), (h, .inr (1, [.int (nI A), .int (nI B), .int hd, .ref h1, .ref h2, .int pu])), (h1, aN cI 1024 sl), (h2, aN cI 64 pt)] H0) (hD : va_D A0 [(xo, .inr (3, [.ref fa, .ref ma])), (fa, aQ cF 4 fi), (ma, aQ cF 12 mk), (h, .inr (1, [.int (nI A), .int (nI B), .int hd, .ref h1, .ref h2, .int pu])), (h1, aN cI 1024 sl), (h2, aN cI 64 pt)]) (hok : okS (2, A, B, hd, pu, sl, n0, f0)) (hj : j < 4) (hfi : fi j = some h) (hon : onS s0 H0) (had : ∀ q ∈ [xo, fa, ma, h, h1, h2], s0.heap.size ≤ q)  : Mx l s0 y_F_same (.code y_F_same b_F_same 6 (some .boolean)) { frames := 7, cells := 0, slots := 0, locals := 160 } [.ref xo, .int (nI j), .long x, .long y] H0 (Aa [xo, fa, ma, h, h1, h2] H0.size) (Rq s0 none (some (.int (bI (sameB A B x y)))) (fun H1 => va_P D vcl [(xo, .inr (3, [.ref fa, .ref ma])), (fa, aQ cF 4 fi), (ma, aQ cF 12 mk), (h, .inr (1, [.int (nI A), .int (nI B), .int hd, .ref h1, .ref h2, .int pu])), (h1, aN cI 1024 sl), (h2, aN cI 64 pt)] H1)) := by
  refine Mx.ofW (own := "FewBits") rfl rfl ?_
  rintro p e s m below meth c ⟨hx, hb, hml, hr, hown, hW, hlk⟩ hnm het hH
  have hK := G.k hW
  have hD := hD.aa (sz := H0.size)
  have hD : va_D (Aa [xo, fa, ma, h, h1, h2] H0.size) [(xo, .inr (3, [.ref fa, .ref ma])), (fa, aQ cF 4 fi), (ma, aQ cF 12 mk), (h, .inr (1, [.int (nI A), .int (nI B), .int hd, .ref h1, .ref h2, .int pu])), (h1, aN cI 1024 sl), (h2, aN cI 64 pt)] := hD
  have hS : va_S (Aa [xo, fa, ma, h, h1, h2] H0.size) H0 H0 [] := va_S.rf
  have hq := okS_2.mp hok
  have hA : A ≤ 8 := hq.2.1
  have hB4 : 4 ≤ B := hq.2.2.1
  have hB : B ≤ 16 := hq.2.2.2.1
  have hs := hq.2.2.2.2.1.1
  have hl := lv_entry ([.ref xo, .int (nI j), .long x, .long y]) (n := 6) (Nat.le_of_ble_eq_true rfl)
  rw [lg_entry_eq]
  generalize (lg_sl ([.ref xo, .int (nI j), .long x, .long y]) ++ List.replicate (6 - (lg_sl ([.ref xo, .int (nI j), .long x, .long y])).length) Slot.unset).toArray = ls at hl ⊢
  have hl : lv_has ls 6 [(0, .ref xo), (1, .int (nI j)), (2, .long x), (4, .long y)] := hl
  refine lv_aload_n hx hb d_F_same_0 rfl (lv_at hl 0 rfl) ?_
  refine lv_iload_n hx hb d_F_same_1 rfl (lv_at hl 1 rfl) ?_
  refine mx_callR (r := .ref h) (c_F_filterAt G xo fa ma fi mk j h (hP.sub [0, 1, 2] rfl) hj hfi) hW (iv_F_same_2 G hx hb hown hW (va_recv hK hP (ci := 3) (q0 := 0) rfl rfl) [.int (nI j)] [] rfl) hml hl.1 (by rw [hb]; exact d_F_same_2) (cd_F_filterAt G hW) ⟨Nat.le_of_ble_eq_true rfl, Nat.le_of_ble_eq_true rfl⟩ rfl rfl (Nat.le_of_ble_eq_true rfl) (Nat.le_of_ble_eq_true rfl) (Nat.le_of_ble_eq_true rfl) ?_
  refine lv_lload_n hx hb d_F_same_5 rfl (lv_at hl 2 rfl) ?_
  refine lv_lload hx hb d_F_same_6 (lv_at hl 3 rfl) ?_
  refine mx_callR (r := .int (bI (sameB A B x y))) (c_B_looksAlike G h h1 h2 A B hd pu sl pt x y (hP.sub [3, 4, 5] rfl) hA hB4 hB) hW (iv_F_same_8_B G hx hb hown hW (va_recv hK hP (ci := 1) (q0 := 3) rfl rfl) [.long x, .long y] [] rfl) hml hl.1 (by rw [hb]; exact d_F_same_8) (cd_B_looksAlike G hW) ⟨Nat.le_of_ble_eq_true rfl, Nat.le_of_ble_eq_true rfl⟩ rfl rfl (Nat.le_of_ble_eq_true rfl) (Nat.le_of_ble_eq_true rfl) (Nat.le_of_ble_eq_true rfl) ?_
  exact mx_zret hx hb hr hlk d_F_same_11 (Nat.le_of_ble_eq_true rfl) (Nat.le_of_ble_eq_true rfl) (fun _ h => nomatch h) (bI_nar _) (⟨rfl, hP⟩)

set_option maxHeartbeats 4000000 in
set_option maxRecDepth 100000 in
theorem c_F_addAll_B_items {l : Launch} {s0 : State} {D : va_G} {cI cF cJ : ClassId} (G : Gx l s0 D cI cF cJ) (xo fa ma : Nat) (fi mk : Nat → Option Nat) (h h1 h2 A B : Nat) (hd pu : Int32) (sl pt : Nat → Nat) (n0 : Nat) (f0 : Nat → Nat) (j : Nat) (x st : Int64) (v : Int32) {H0 : Heap} {A0 : Nat → Prop} (hP : va_P D vcl [(xo, .inr (3, [.ref fa, .ref ma])), (fa, aQ cF 4 fi), (ma, aQ cF 12 mk), (h, .inr (1, [.int (nI A), .int (nI B), .int hd, .ref h1, .ref h2, .int pu])), (h1, aN cI 1024 sl), (h2, aN cI 64 pt)] H0) (hD : va_D A0 [(xo, .inr (3, [.ref fa, .ref ma])), (fa, aQ cF 4 fi), (ma, aQ cF 12 mk), (h, .inr (1, [.int (nI A), .int (nI B), .int hd, .ref h1, .ref h2, .int pu])), (h1, aN cI 1024 sl), (h2, aN cI 64 pt)]) (hok : okS (2, A, B, hd, pu, sl, n0, f0)) (hj : j < 4) (hfi : fi j = some h) (hon : onS s0 H0) (had : ∀ q ∈ [xo, fa, ma, h, h1, h2], s0.heap.size ≤ q) (hv : wth v (nI 0) (nI 400) = false) : Mx l s0 y_F_addAll (.code y_F_addAll b_F_addAll 11 (some .int)) { frames := 7, cells := 1, slots := 6, locals := 160 } [.ref xo, .int (nI j), .long x, .long st, .int v] H0 (Aa [xo, fa, ma, h, h1, h2] H0.size) (Rq s0 (some E_A) none (fun H1 => va_P D vcl [(xo, .inr (3, [.ref fa, .ref ma])), (fa, aQ cF 4 fi), (ma, aQ cF 12 mk), (h, .inr (1, [.int (nI A), .int (nI B), .int hd, .ref h1, .ref h2, .int pu])), (h1, aN cI 1024 sl), (h2, aN cI 64 pt)] H1)) := by
  refine Mx.ofW (own := "FewBits") rfl rfl ?_
  rintro p e s m below meth c ⟨hx, hb, hml, hr, hown, hW, hlk⟩ hnm het hH
  have hK := G.k hW
  have hD := hD.aa (sz := H0.size)
  have hD : va_D (Aa [xo, fa, ma, h, h1, h2] H0.size) [(xo, .inr (3, [.ref fa, .ref ma])), (fa, aQ cF 4 fi), (ma, aQ cF 12 mk), (h, .inr (1, [.int (nI A), .int (nI B), .int hd, .ref h1, .ref h2, .int pu])), (h1, aN cI 1024 sl), (h2, aN cI 64 pt)] := hD
  have hS : va_S (Aa [xo, fa, ma, h, h1, h2] H0.size) H0 H0 [] := va_S.rf
  have hl := lv_entry ([.ref xo, .int (nI j), .long x, .long st, .int v]) (n := 11) (Nat.le_of_ble_eq_true rfl)
  rw [lg_entry_eq]
  generalize (lg_sl ([.ref xo, .int (nI j), .long x, .long st, .int v]) ++ List.replicate (11 - (lg_sl ([.ref xo, .int (nI j), .long x, .long st, .int v])).length) Slot.unset).toArray = ls at hl ⊢
  have hl : lv_has ls 11 [(0, .ref xo), (1, .int (nI j)), (2, .long x), (4, .long st), (6, .int v)] := hl
  refine lv_aload_n hx hb d_F_addAll_0 rfl (lv_at hl 0 rfl) ?_
  refine lv_iload_n hx hb d_F_addAll_1 rfl (lv_at hl 1 rfl) ?_
  refine mx_callR (r := .ref h) (c_F_filterAt G xo fa ma fi mk j h (hP.sub [0, 1, 2] rfl) hj hfi) hW (iv_F_addAll_2 G hx hb hown hW (va_recv hK hP (ci := 3) (q0 := 0) rfl rfl) [.int (nI j)] [] rfl) hml hl.1 (by rw [hb]; exact d_F_addAll_2) (cd_F_filterAt G hW) ⟨Nat.le_of_ble_eq_true rfl, Nat.le_of_ble_eq_true rfl⟩ rfl rfl (Nat.le_of_ble_eq_true rfl) (Nat.le_of_ble_eq_true rfl) (Nat.le_of_ble_eq_true rfl) ?_
  refine lv_astore (lv' := [(7, .ref h), (0, .ref xo), (1, .int (nI j)), (2, .long x), (4, .long st), (6, .int v)]) hx hb d_F_addAll_5 hl (by decide) rfl (fun ls hl => ?_)
  refine lv_iload hx hb d_F_addAll_7 (lv_at hl 5 rfl) ?_
  exact mx_callT (c_F_requireItems_no G v hv hon) hW (iv_F_addAll_9 G hx hb hown hW [.int v] [] rfl) hml hl.1 (by rw [hb]; exact d_F_addAll_9) (cd_F_requireItems G hW) ⟨Nat.le_of_ble_eq_true rfl, Nat.le_of_ble_eq_true rfl⟩ (Nat.le_of_ble_eq_true rfl) (Nat.le_of_ble_eq_true rfl) (Nat.le_of_ble_eq_true rfl) het hlk (Nat.le_of_ble_eq_true rfl) (Nat.le_of_ble_eq_true rfl) (fun _ h => nomatch h) (fun _ h => h.elim) (fun H1 q hz hk hp ho => ⟨⟨q, rfl, ho⟩, hP.ext (fun z hz => hk z hz (fun h9 => h9))⟩)

set_option maxHeartbeats 4000000 in
set_option maxRecDepth 100000 in
theorem c_F_hasAll_B_items {l : Launch} {s0 : State} {D : va_G} {cI cF cJ : ClassId} (G : Gx l s0 D cI cF cJ) (xo fa ma : Nat) (fi mk : Nat → Option Nat) (h h1 h2 A B : Nat) (hd pu : Int32) (sl pt : Nat → Nat) (n0 : Nat) (f0 : Nat → Nat) (j : Nat) (x st : Int64) (v : Int32) {H0 : Heap} {A0 : Nat → Prop} (hP : va_P D vcl [(xo, .inr (3, [.ref fa, .ref ma])), (fa, aQ cF 4 fi), (ma, aQ cF 12 mk), (h, .inr (1, [.int (nI A), .int (nI B), .int hd, .ref h1, .ref h2, .int pu])), (h1, aN cI 1024 sl), (h2, aN cI 64 pt)] H0) (hD : va_D A0 [(xo, .inr (3, [.ref fa, .ref ma])), (fa, aQ cF 4 fi), (ma, aQ cF 12 mk), (h, .inr (1, [.int (nI A), .int (nI B), .int hd, .ref h1, .ref h2, .int pu])), (h1, aN cI 1024 sl), (h2, aN cI 64 pt)]) (hok : okS (2, A, B, hd, pu, sl, n0, f0)) (hj : j < 4) (hfi : fi j = some h) (hon : onS s0 H0) (had : ∀ q ∈ [xo, fa, ma, h, h1, h2], s0.heap.size ≤ q) (hv : wth v (nI 0) (nI 400) = false) : Mx l s0 y_F_hasAll (.code y_F_hasAll b_F_hasAll 12 (some .int)) { frames := 7, cells := 1, slots := 6, locals := 160 } [.ref xo, .int (nI j), .long x, .long st, .int v] H0 (Aa [xo, fa, ma, h, h1, h2] H0.size) (Rq s0 (some E_A) none (fun H1 => va_P D vcl [(xo, .inr (3, [.ref fa, .ref ma])), (fa, aQ cF 4 fi), (ma, aQ cF 12 mk), (h, .inr (1, [.int (nI A), .int (nI B), .int hd, .ref h1, .ref h2, .int pu])), (h1, aN cI 1024 sl), (h2, aN cI 64 pt)] H1)) := by
  refine Mx.ofW (own := "FewBits") rfl rfl ?_
  rintro p e s m below meth c ⟨hx, hb, hml, hr, hown, hW, hlk⟩ hnm het hH
  have hK := G.k hW
  have hD := hD.aa (sz := H0.size)
  have hD : va_D (Aa [xo, fa, ma, h, h1, h2] H0.size) [(xo, .inr (3, [.ref fa, .ref ma])), (fa, aQ cF 4 fi), (ma, aQ cF 12 mk), (h, .inr (1, [.int (nI A), .int (nI B), .int hd, .ref h1, .ref h2, .int pu])), (h1, aN cI 1024 sl), (h2, aN cI 64 pt)] := hD
  have hS : va_S (Aa [xo, fa, ma, h, h1, h2] H0.size) H0 H0 [] := va_S.rf
  have hl := lv_entry ([.ref xo, .int (nI j), .long x, .long st, .int v]) (n := 12) (Nat.le_of_ble_eq_true rfl)
  rw [lg_entry_eq]
  generalize (lg_sl ([.ref xo, .int (nI j), .long x, .long st, .int v]) ++ List.replicate (12 - (lg_sl ([.ref xo, .int (nI j), .long x, .long st, .int v])).length) Slot.unset).toArray = ls at hl ⊢
  have hl : lv_has ls 12 [(0, .ref xo), (1, .int (nI j)), (2, .long x), (4, .long st), (6, .int v)] := hl
  refine lv_aload_n hx hb d_F_hasAll_0 rfl (lv_at hl 0 rfl) ?_
  refine lv_iload_n hx hb d_F_hasAll_1 rfl (lv_at hl 1 rfl) ?_
  refine mx_callR (r := .ref h) (c_F_filterAt G xo fa ma fi mk j h (hP.sub [0, 1, 2] rfl) hj hfi) hW (iv_F_hasAll_2 G hx hb hown hW (va_recv hK hP (ci := 3) (q0 := 0) rfl rfl) [.int (nI j)] [] rfl) hml hl.1 (by rw [hb]; exact d_F_hasAll_2) (cd_F_filterAt G hW) ⟨Nat.le_of_ble_eq_true rfl, Nat.le_of_ble_eq_true rfl⟩ rfl rfl (Nat.le_of_ble_eq_true rfl) (Nat.le_of_ble_eq_true rfl) (Nat.le_of_ble_eq_true rfl) ?_
  refine lv_astore (lv' := [(7, .ref h), (0, .ref xo), (1, .int (nI j)), (2, .long x), (4, .long st), (6, .int v)]) hx hb d_F_hasAll_5 hl (by decide) rfl (fun ls hl => ?_)
  refine lv_iload hx hb d_F_hasAll_7 (lv_at hl 5 rfl) ?_
  exact mx_callT (c_F_requireItems_no G v hv hon) hW (iv_F_hasAll_9 G hx hb hown hW [.int v] [] rfl) hml hl.1 (by rw [hb]; exact d_F_hasAll_9) (cd_F_requireItems G hW) ⟨Nat.le_of_ble_eq_true rfl, Nat.le_of_ble_eq_true rfl⟩ (Nat.le_of_ble_eq_true rfl) (Nat.le_of_ble_eq_true rfl) (Nat.le_of_ble_eq_true rfl) het hlk (Nat.le_of_ble_eq_true rfl) (Nat.le_of_ble_eq_true rfl) (fun _ h => nomatch h) (fun _ h => h.elim) (fun H1 q hz hk hp ho => ⟨⟨q, rfl, ho⟩, hP.ext (fun z hz => hk z hz (fun h9 => h9))⟩)

set_option maxHeartbeats 4000000 in
set_option maxRecDepth 100000 in
theorem c_F_hasAll_B {l : Launch} {s0 : State} {D : va_G} {cI cF cJ : ClassId} (G : Gx l s0 D cI cF cJ) (xo fa ma : Nat) (fi mk : Nat → Option Nat) (h h1 h2 A B : Nat) (hd pu : Int32) (sl pt : Nat → Nat) (n0 : Nat) (f0 : Nat → Nat) (j : Nat) (x st : Int64) (nN : Nat) {H0 : Heap} {A0 : Nat → Prop} (hP : va_P D vcl [(xo, .inr (3, [.ref fa, .ref ma])), (fa, aQ cF 4 fi), (ma, aQ cF 12 mk), (h, .inr (1, [.int (nI A), .int (nI B), .int hd, .ref h1, .ref h2, .int pu])), (h1, aN cI 1024 sl), (h2, aN cI 64 pt)] H0) (hD : va_D A0 [(xo, .inr (3, [.ref fa, .ref ma])), (fa, aQ cF 4 fi), (ma, aQ cF 12 mk), (h, .inr (1, [.int (nI A), .int (nI B), .int hd, .ref h1, .ref h2, .int pu])), (h1, aN cI 1024 sl), (h2, aN cI 64 pt)]) (hok : okS (2, A, B, hd, pu, sl, n0, f0)) (hj : j < 4) (hfi : fi j = some h) (hon : onS s0 H0) (had : ∀ q ∈ [xo, fa, ma, h, h1, h2], s0.heap.size ≤ q) (hn4 : nN ≤ 400) : Mx l s0 y_F_hasAll (.code y_F_hasAll b_F_hasAll 12 (some .int)) { frames := 7, cells := 0, slots := 0, locals := 160 } [.ref xo, .int (nI j), .long x, .long st, .int (nI nN)] H0 (Aa [xo, fa, ma, h, h1, h2] H0.size) (Rq s0 none (some (.int (nI (haS (2, A, B, hd, pu, sl, n0, f0) nN x st)))) (fun H1 => va_P D vcl [(xo, .inr (3, [.ref fa, .ref ma])), (fa, aQ cF 4 fi), (ma, aQ cF 12 mk), (h, .inr (1, [.int (nI A), .int (nI B), .int hd, .ref h1, .ref h2, .int pu])), (h1, aN cI 1024 sl), (h2, aN cI 64 pt)] H1)) := by
  refine Mx.ofW (own := "FewBits") rfl rfl ?_
  rintro p e s m below meth c ⟨hx, hb, hml, hr, hown, hW, hlk⟩ hnm het hH
  have hK := G.k hW
  have hD := hD.aa (sz := H0.size)
  have hD : va_D (Aa [xo, fa, ma, h, h1, h2] H0.size) [(xo, .inr (3, [.ref fa, .ref ma])), (fa, aQ cF 4 fi), (ma, aQ cF 12 mk), (h, .inr (1, [.int (nI A), .int (nI B), .int hd, .ref h1, .ref h2, .int pu])), (h1, aN cI 1024 sl), (h2, aN cI 64 pt)] := hD
  have hS : va_S (Aa [xo, fa, ma, h, h1, h2] H0.size) H0 H0 [] := va_S.rf
  have hq := okS_2.mp hok
  have hA : A ≤ 8 := hq.2.1
  have hB4 : 4 ≤ B := hq.2.2.1
  have hB : B ≤ 16 := hq.2.2.2.1
  have hs := hq.2.2.2.2.1.1
  have hl := lv_entry ([.ref xo, .int (nI j), .long x, .long st, .int (nI nN)]) (n := 12) (Nat.le_of_ble_eq_true rfl)
  rw [lg_entry_eq]
  generalize (lg_sl ([.ref xo, .int (nI j), .long x, .long st, .int (nI nN)]) ++ List.replicate (12 - (lg_sl ([.ref xo, .int (nI j), .long x, .long st, .int (nI nN)])).length) Slot.unset).toArray = ls at hl ⊢
  have hl : lv_has ls 12 [(0, .ref xo), (1, .int (nI j)), (2, .long x), (4, .long st), (6, .int (nI nN))] := hl
  refine lv_aload_n hx hb d_F_hasAll_0 rfl (lv_at hl 0 rfl) ?_
  refine lv_iload_n hx hb d_F_hasAll_1 rfl (lv_at hl 1 rfl) ?_
  refine mx_callR (r := .ref h) (c_F_filterAt G xo fa ma fi mk j h (hP.sub [0, 1, 2] rfl) hj hfi) hW (iv_F_hasAll_2 G hx hb hown hW (va_recv hK hP (ci := 3) (q0 := 0) rfl rfl) [.int (nI j)] [] rfl) hml hl.1 (by rw [hb]; exact d_F_hasAll_2) (cd_F_filterAt G hW) ⟨Nat.le_of_ble_eq_true rfl, Nat.le_of_ble_eq_true rfl⟩ rfl rfl (Nat.le_of_ble_eq_true rfl) (Nat.le_of_ble_eq_true rfl) (Nat.le_of_ble_eq_true rfl) ?_
  refine lv_astore (lv' := [(7, .ref h), (0, .ref xo), (1, .int (nI j)), (2, .long x), (4, .long st), (6, .int (nI nN))]) hx hb d_F_hasAll_5 hl (by decide) rfl (fun ls hl => ?_)
  refine lv_iload hx hb d_F_hasAll_7 (lv_at hl 5 rfl) ?_
  refine mx_callV (c_F_requireItems_ok G (nI nN) (wth_le hn4)) hW (iv_F_hasAll_9 G hx hb hown hW [.int (nI nN)] [] rfl) hml hl.1 (by rw [hb]; exact d_F_hasAll_9) (cd_F_requireItems G hW) ⟨Nat.le_of_ble_eq_true rfl, Nat.le_of_ble_eq_true rfl⟩ rfl rfl (Nat.le_of_ble_eq_true rfl) (Nat.le_of_ble_eq_true rfl) (Nat.le_of_ble_eq_true rfl) ?_
  refine lv_iconst (v := (nI 0)) hx hb d_F_hasAll_12 (by decide) ?_
  refine lv_istore (lv' := [(8, .int (nI 0)), (7, .ref h), (0, .ref xo), (1, .int (nI j)), (2, .long x), (4, .long st), (6, .int (nI nN))]) hx hb d_F_hasAll_13 hl (by decide) rfl (fun ls hl => ?_)
  refine lv_lload_n hx hb d_F_hasAll_15 rfl (lv_at hl 4 rfl) ?_
  refine lv_lstore (lv' := [(9, .long x), (8, .int (nI 0)), (7, .ref h), (0, .ref xo), (1, .int (nI j)), (2, .long x), (4, .long st), (6, .int (nI nN))]) hx hb d_F_hasAll_16 hl (by decide) rfl (fun ls hl => ?_)
  refine lv_iconst (v := (nI 0)) hx hb d_F_hasAll_18 (by decide) ?_
  refine lv_istore (lv' := [(11, .int (nI 0)), (9, .long x), (8, .int (nI 0)), (7, .ref h), (0, .ref xo), (1, .int (nI j)), (2, .long x), (4, .long st), (6, .int (nI nN))]) hx hb d_F_hasAll_19 hl (by decide) rfl (fun ls hl => ?_)
  have loop_21 : ∀ (k : Nat) (i : Nat) (tt : Nat) (xx : Int64), (i + k = nN) → (haS (2, A, B, hd, pu, sl, n0, f0) nN x st = tt + haS (2, A, B, hd, pu, sl, n0, f0) k xx st) → (tt ≤ i) → ∀ (ls : Array Slot), lv_has ls 12 [(11, .int (nI i)), (9, .long xx), (8, .int (nI tt)), (7, .ref h), (0, .ref xo), (1, .int (nI j)), (2, .long x), (4, .long st), (6, .int (nI nN))] → W p l e { frames := 7, cells := 0, slots := 0, locals := 160 } s m ([.ref xo, .int (nI j), .long x, .long st, .int (nI nN)] : List Value).toArray below meth c H0 [] 0 0 (MQx below (Rq s0 none (some (.int (nI (haS (2, A, B, hd, pu, sl, n0, f0) nN x st)))) (fun H1 => va_P D vcl [(xo, .inr (3, [.ref fa, .ref ma])), (fa, aQ cF 4 fi), (ma, aQ cF 12 mk), (h, .inr (1, [.int (nI A), .int (nI B), .int hd, .ref h1, .ref h2, .int pu])), (h1, aN cI 1024 sl), (h2, aN cI 64 pt)] H1)) s 0 0 (Aa [xo, fa, ma, h, h1, h2] H0.size)) (F0 m 21 ls []) := by
    intro k
    induction k with
    | zero =>
      intro i tt xx hk ht htl  ls hl
      refine lv_iload hx hb d_F_hasAll_21 (lv_at hl 0 rfl) ?_
      refine lv_iload hx hb d_F_hasAll_23 (lv_at hl 8 rfl) ?_
      refine lv_icmp_ge (tgt := 54) hx hb d_F_hasAll_25 (by decide) (fun c_25 => ?_) (fun c_25 => absurd (nI_le (by omega) (by omega)) c_25)
      refine lv_iload hx hb d_F_hasAll_54 (lv_at hl 2 rfl) ?_
      exact mx_iret hx hb hr hlk d_F_hasAll_56 (Nat.le_of_ble_eq_true rfl) (Nat.le_of_ble_eq_true rfl) (fun _ h => nomatch h) (⟨by rw [ht]; rfl, hP⟩)
    | succ k ih_21 =>
      intro i tt xx hk ht htl  ls hl
      refine lv_iload hx hb d_F_hasAll_21 (lv_at hl 0 rfl) ?_
      refine lv_iload hx hb d_F_hasAll_23 (lv_at hl 8 rfl) ?_
      refine lv_icmp_ge (tgt := 54) hx hb d_F_hasAll_25 (by decide) (fun c_25 => absurd c_25 (nI_ge (by omega) (by omega))) (fun c_25 => ?_)
      refine lv_aload hx hb d_F_hasAll_28 (lv_at hl 3 rfl) ?_
      refine lv_lload hx hb d_F_hasAll_30 (lv_at hl 1 rfl) ?_
      refine mx_callR (r := .int (bI (slotB A B xx sl).isSome)) (c_B_holds G h h1 h2 A B hd pu sl pt xx (hP.sub [3, 4, 5] rfl) hA hB4 hB hs) hW (iv_F_hasAll_32_B G hx hb hown hW (va_recv hK hP (ci := 1) (q0 := 3) rfl rfl) [.long xx] [] rfl) hml hl.1 (by rw [hb]; exact d_F_hasAll_32) (cd_B_holds G hW) ⟨Nat.le_of_ble_eq_true rfl, Nat.le_of_ble_eq_true rfl⟩ rfl rfl (Nat.le_of_ble_eq_true rfl) (Nat.le_of_ble_eq_true rfl) (Nat.le_of_ble_eq_true rfl) ?_
      refine lv_if_eq (tgt := 41) hx hb d_F_hasAll_35 (by decide) (fun c_35 => ?_) (fun c_35 => ?_)
      · refine lv_lload hx hb d_F_hasAll_41 (lv_at hl 1 rfl) ?_
        refine lv_lload hx hb d_F_hasAll_43 (lv_at hl 7 rfl) ?_
        refine lv_ladd hx hb d_F_hasAll_45 ?_
        refine lv_lstore (lv' := [(9, .long (xx + st)), (11, .int (nI i)), (8, .int (nI tt)), (7, .ref h), (0, .ref xo), (1, .int (nI j)), (2, .long x), (4, .long st), (6, .int (nI nN))]) hx hb d_F_hasAll_46 hl (by decide) rfl (fun ls hl => ?_)
        refine lv_iinc (v := (nI (i + 1))) (lv' := [(11, .int (nI (i + 1))), (9, .long (xx + st)), (8, .int (nI tt)), (7, .ref h), (0, .ref xo), (1, .int (nI j)), (2, .long x), (4, .long st), (6, .int (nI nN))]) hx hb d_F_hasAll_48 hl (k := 1) rfl (nI_1 _) (by decide) rfl (fun ls hl => ?_)
        refine lv_goto (tgt := 21) hx hb d_F_hasAll_51 (by decide) ?_
        exact ih_21 (i + 1) (tt) ((xx + st)) (by omega) (by rw [ht, haS_f (show hasS (2, A, B, hd, pu, sl, n0, f0) xx = false from bI_f c_35)]) (by omega) ls (lv_sub hl [0, 1, 2, 3, 4, 5, 6, 7, 8] rfl)
      · refine lv_iinc (v := (nI (tt + 1))) (lv' := [(8, .int (nI (tt + 1))), (11, .int (nI i)), (9, .long xx), (7, .ref h), (0, .ref xo), (1, .int (nI j)), (2, .long x), (4, .long st), (6, .int (nI nN))]) hx hb d_F_hasAll_38 hl (k := 2) rfl (nI_1 _) (by decide) rfl (fun ls hl => ?_)
        refine lv_lload hx hb d_F_hasAll_41 (lv_at hl 2 rfl) ?_
        refine lv_lload hx hb d_F_hasAll_43 (lv_at hl 7 rfl) ?_
        refine lv_ladd hx hb d_F_hasAll_45 ?_
        refine lv_lstore (lv' := [(9, .long (xx + st)), (8, .int (nI (tt + 1))), (11, .int (nI i)), (7, .ref h), (0, .ref xo), (1, .int (nI j)), (2, .long x), (4, .long st), (6, .int (nI nN))]) hx hb d_F_hasAll_46 hl (by decide) rfl (fun ls hl => ?_)
        refine lv_iinc (v := (nI (i + 1))) (lv' := [(11, .int (nI (i + 1))), (9, .long (xx + st)), (8, .int (nI (tt + 1))), (7, .ref h), (0, .ref xo), (1, .int (nI j)), (2, .long x), (4, .long st), (6, .int (nI nN))]) hx hb d_F_hasAll_48 hl (k := 2) rfl (nI_1 _) (by decide) rfl (fun ls hl => ?_)
        refine lv_goto (tgt := 21) hx hb d_F_hasAll_51 (by decide) ?_
        exact ih_21 (i + 1) (tt + 1) ((xx + st)) (by omega) (by rw [ht, haS_t (show hasS (2, A, B, hd, pu, sl, n0, f0) xx = true from bI_t c_35)]; omega) (by omega) ls (lv_sub hl [0, 1, 2, 3, 4, 5, 6, 7, 8] rfl)
  exact loop_21 (nN) (0) (0) (x) (by omega) ((Nat.zero_add _).symm) (Nat.le_refl _) ls (lv_sub hl [0, 1, 2, 3, 4, 5, 6, 7, 8] rfl)

set_option maxHeartbeats 4000000 in
set_option maxRecDepth 100000 in
theorem c_F_addAll_B {l : Launch} {s0 : State} {D : va_G} {cI cF cJ : ClassId} (G : Gx l s0 D cI cF cJ) (xo fa ma : Nat) (fi mk : Nat → Option Nat) (h h1 h2 A B : Nat) (hd pu : Int32) (sl pt : Nat → Nat) (n0 : Nat) (f0 : Nat → Nat) (j : Nat) (x st : Int64) (nN : Nat) {H0 : Heap} {A0 : Nat → Prop} (hP : va_P D vcl [(xo, .inr (3, [.ref fa, .ref ma])), (fa, aQ cF 4 fi), (ma, aQ cF 12 mk), (h, .inr (1, [.int (nI A), .int (nI B), .int hd, .ref h1, .ref h2, .int pu])), (h1, aN cI 1024 sl), (h2, aN cI 64 pt)] H0) (hD : va_D A0 [(xo, .inr (3, [.ref fa, .ref ma])), (fa, aQ cF 4 fi), (ma, aQ cF 12 mk), (h, .inr (1, [.int (nI A), .int (nI B), .int hd, .ref h1, .ref h2, .int pu])), (h1, aN cI 1024 sl), (h2, aN cI 64 pt)]) (hok : okS (2, A, B, hd, pu, sl, n0, f0)) (hj : j < 4) (hfi : fi j = some h) (hon : onS s0 H0) (had : ∀ q ∈ [xo, fa, ma, h, h1, h2], s0.heap.size ≤ q) (hn4 : nN ≤ 400) : Mx l s0 y_F_addAll (.code y_F_addAll b_F_addAll 11 (some .int)) { frames := 7, cells := 0, slots := 0, locals := 160 } [.ref xo, .int (nI j), .long x, .long st, .int (nI nN)] H0 (Aa [xo, fa, ma, h, h1, h2] H0.size) (Rq s0 none (some (.int (nI (aaS nN (2, A, B, hd, pu, sl, n0, f0) x st).1))) (fun H1 => ∃ hd2 pu2 sl2 pt2, (aaS nN (2, A, B, hd, pu, sl, n0, f0) x st).2 = (2, A, B, hd2, pu2, sl2, n0, f0) ∧ va_P D vcl [(xo, .inr (3, [.ref fa, .ref ma])), (fa, aQ cF 4 fi), (ma, aQ cF 12 mk), (h, .inr (1, [.int (nI A), .int (nI B), .int hd2, .ref h1, .ref h2, .int pu2])), (h1, aN cI 1024 sl2), (h2, aN cI 64 pt2)] H1)) := by
  refine Mx.ofW (own := "FewBits") rfl rfl ?_
  rintro p e s m below meth c ⟨hx, hb, hml, hr, hown, hW, hlk⟩ hnm het hH
  have hK := G.k hW
  have hD := hD.aa (sz := H0.size)
  have hD : va_D (Aa [xo, fa, ma, h, h1, h2] H0.size) [(xo, .inr (3, [.ref fa, .ref ma])), (fa, aQ cF 4 fi), (ma, aQ cF 12 mk), (h, .inr (1, [.int (nI A), .int (nI B), .int hd, .ref h1, .ref h2, .int pu])), (h1, aN cI 1024 sl), (h2, aN cI 64 pt)] := hD
  have hS : va_S (Aa [xo, fa, ma, h, h1, h2] H0.size) H0 H0 [] := va_S.rf
  have hl := lv_entry ([.ref xo, .int (nI j), .long x, .long st, .int (nI nN)]) (n := 11) (Nat.le_of_ble_eq_true rfl)
  rw [lg_entry_eq]
  generalize (lg_sl ([.ref xo, .int (nI j), .long x, .long st, .int (nI nN)]) ++ List.replicate (11 - (lg_sl ([.ref xo, .int (nI j), .long x, .long st, .int (nI nN)])).length) Slot.unset).toArray = ls at hl ⊢
  have hl : lv_has ls 11 [(0, .ref xo), (1, .int (nI j)), (2, .long x), (4, .long st), (6, .int (nI nN))] := hl
  refine lv_aload_n hx hb d_F_addAll_0 rfl (lv_at hl 0 rfl) ?_
  refine lv_iload_n hx hb d_F_addAll_1 rfl (lv_at hl 1 rfl) ?_
  refine mx_callR (r := .ref h) (c_F_filterAt G xo fa ma fi mk j h (hP.sub [0, 1, 2] rfl) hj hfi) hW (iv_F_addAll_2 G hx hb hown hW (va_recv hK hP (ci := 3) (q0 := 0) rfl rfl) [.int (nI j)] [] rfl) hml hl.1 (by rw [hb]; exact d_F_addAll_2) (cd_F_filterAt G hW) ⟨Nat.le_of_ble_eq_true rfl, Nat.le_of_ble_eq_true rfl⟩ rfl rfl (Nat.le_of_ble_eq_true rfl) (Nat.le_of_ble_eq_true rfl) (Nat.le_of_ble_eq_true rfl) ?_
  refine lv_astore (lv' := [(7, .ref h), (0, .ref xo), (1, .int (nI j)), (2, .long x), (4, .long st), (6, .int (nI nN))]) hx hb d_F_addAll_5 hl (by decide) rfl (fun ls hl => ?_)
  refine lv_iload hx hb d_F_addAll_7 (lv_at hl 5 rfl) ?_
  refine mx_callV (c_F_requireItems_ok G (nI nN) (wth_le hn4)) hW (iv_F_addAll_9 G hx hb hown hW [.int (nI nN)] [] rfl) hml hl.1 (by rw [hb]; exact d_F_addAll_9) (cd_F_requireItems G hW) ⟨Nat.le_of_ble_eq_true rfl, Nat.le_of_ble_eq_true rfl⟩ rfl rfl (Nat.le_of_ble_eq_true rfl) (Nat.le_of_ble_eq_true rfl) (Nat.le_of_ble_eq_true rfl) ?_
  refine lv_lload_n hx hb d_F_addAll_12 rfl (lv_at hl 3 rfl) ?_
  refine lv_lstore (lv' := [(8, .long x), (7, .ref h), (0, .ref xo), (1, .int (nI j)), (2, .long x), (4, .long st), (6, .int (nI nN))]) hx hb d_F_addAll_13 hl (by decide) rfl (fun ls hl => ?_)
  refine lv_iconst (v := (nI 0)) hx hb d_F_addAll_15 (by decide) ?_
  refine lv_istore (lv' := [(10, .int (nI 0)), (8, .long x), (7, .ref h), (0, .ref xo), (1, .int (nI j)), (2, .long x), (4, .long st), (6, .int (nI nN))]) hx hb d_F_addAll_16 hl (by decide) rfl (fun ls hl => ?_)
  have loop_18 : ∀ (k : Nat) (i : Nat) (xx : Int64) (hd2 : Int32) (pu2 : Int32) (sl2 : Nat → Nat) (pt2 : Nat → Nat), (i + k = nN) → (okS (2, A, B, hd2, pu2, sl2, n0, f0)) → (aaS nN (2, A, B, hd, pu, sl, n0, f0) x st = (i + (aaS k (2, A, B, hd2, pu2, sl2, n0, f0) xx st).1, (aaS k (2, A, B, hd2, pu2, sl2, n0, f0) xx st).2)) → ∀ (H : Heap) (locs : List Loc), va_P D vcl [(xo, .inr (3, [.ref fa, .ref ma])), (fa, aQ cF 4 fi), (ma, aQ cF 12 mk), (h, .inr (1, [.int (nI A), .int (nI B), .int hd2, .ref h1, .ref h2, .int pu2])), (h1, aN cI 1024 sl2), (h2, aN cI 64 pt2)] H → va_D (Aa [xo, fa, ma, h, h1, h2] H0.size) [(xo, .inr (3, [.ref fa, .ref ma])), (fa, aQ cF 4 fi), (ma, aQ cF 12 mk), (h, .inr (1, [.int (nI A), .int (nI B), .int hd2, .ref h1, .ref h2, .int pu2])), (h1, aN cI 1024 sl2), (h2, aN cI 64 pt2)] → va_S (Aa [xo, fa, ma, h, h1, h2] H0.size) H0 H locs → ∀ (ls : Array Slot), lv_has ls 11 [(10, .int (nI i)), (8, .long xx), (7, .ref h), (0, .ref xo), (1, .int (nI j)), (2, .long x), (4, .long st), (6, .int (nI nN))] → W p l e { frames := 7, cells := 0, slots := 0, locals := 160 } s m ([.ref xo, .int (nI j), .long x, .long st, .int (nI nN)] : List Value).toArray below meth c H locs 0 0 (MQx below (Rq s0 none (some (.int (nI (aaS nN (2, A, B, hd, pu, sl, n0, f0) x st).1))) (fun H1 => ∃ hd2 pu2 sl2 pt2, (aaS nN (2, A, B, hd, pu, sl, n0, f0) x st).2 = (2, A, B, hd2, pu2, sl2, n0, f0) ∧ va_P D vcl [(xo, .inr (3, [.ref fa, .ref ma])), (fa, aQ cF 4 fi), (ma, aQ cF 12 mk), (h, .inr (1, [.int (nI A), .int (nI B), .int hd2, .ref h1, .ref h2, .int pu2])), (h1, aN cI 1024 sl2), (h2, aN cI 64 pt2)] H1)) s 0 0 (Aa [xo, fa, ma, h, h1, h2] H0.size)) (F0 m 18 ls []) := by
    intro k
    induction k with
    | zero =>
      intro i xx hd2 pu2 sl2 pt2 hk hok2 haa H locs hP hD hS ls hl
      refine lv_iload hx hb d_F_addAll_18 (lv_at hl 0 rfl) ?_
      refine lv_iload hx hb d_F_addAll_20 (lv_at hl 7 rfl) ?_
      refine lv_icmp_ge (tgt := 51) hx hb d_F_addAll_22 (by decide) (fun c_22 => ?_) (fun c_22 => absurd (nI_le (by omega) (by omega)) c_22)
      refine lv_iload hx hb d_F_addAll_51 (lv_at hl 7 rfl) ?_
      exact mx_iret hx hb hr hlk d_F_addAll_53 (Nat.le_of_ble_eq_true rfl) (Nat.le_of_ble_eq_true rfl) hS.2.2 (⟨by rw [haa]; show _ = Outcome.returned (some (Value.int (nI (i + 0)))); rw [Nat.add_zero, show i = nN by omega], hd2, pu2, sl2, pt2, by rw [haa]; rfl, hP⟩)
    | succ k ih_18 =>
      intro i xx hd2 pu2 sl2 pt2 hk hok2 haa H locs hP hD hS ls hl
      refine lv_iload hx hb d_F_addAll_18 (lv_at hl 0 rfl) ?_
      refine lv_iload hx hb d_F_addAll_20 (lv_at hl 7 rfl) ?_
      refine lv_icmp_ge (tgt := 51) hx hb d_F_addAll_22 (by decide) (fun c_22 => absurd c_22 (nI_ge (by omega) (by omega))) (fun c_22 => ?_)
      have hq := okS_2.mp hok2
      have hA : A ≤ 8 := hq.2.1
      have hB4 : 4 ≤ B := hq.2.2.1
      have hB : B ≤ 16 := hq.2.2.2.1
      have hs := hq.2.2.2.2.1.1
      refine lv_aload hx hb d_F_addAll_25 (lv_at hl 2 rfl) ?_
      refine lv_lload hx hb d_F_addAll_27 (lv_at hl 1 rfl) ?_
      refine mx_callW (r := .int (bI (putB A B xx sl2).1.isSome)) (c_P_accept_B G h h1 h2 A B hd2 pu2 sl2 pt2 xx (hP.sub [3, 4, 5] rfl) (hD.sub [3, 4, 5] rfl rfl) hA hB4 hB hs) hW (iv_F_addAll_29_B G hx hb hown hW (va_recv hK hP (ci := 1) (q0 := 3) rfl rfl) [.long xx] [] rfl) hml hl.1 (by rw [hb]; exact d_F_addAll_29) (cd_P_accept G hW) ⟨Nat.le_of_ble_eq_true rfl, Nat.le_of_ble_eq_true rfl⟩ (Nat.le_of_ble_eq_true rfl) (Nat.le_of_ble_eq_true rfl) (Nat.le_of_ble_eq_true rfl) hS (Aa.mono (fun _ h => List.mem_append_right [xo, fa, ma] h) hS.1) (fun H locs hP2 _ hkp hS => ?_)
      obtain ⟨pt1, hP2⟩ := hP2
      have hP := va_P.join (ws1 := [(xo, .inr (3, [.ref fa, .ref ma])), (fa, aQ cF 4 fi), (ma, aQ cF 12 mk)]) (ws2 := [(h, .inr (1, [.int (nI A), .int (nI B), .int hd2, .ref h1, .ref h2, .int pu2])), (h1, aN cI 1024 sl2), (h2, aN cI 64 pt2)]) hP hD hP2 hkp rfl
      have hP : va_P D vcl [(xo, .inr (3, [.ref fa, .ref ma])), (fa, aQ cF 4 fi), (ma, aQ cF 12 mk), (h, .inr (1, [.int (nI A), .int (nI B), .int (if (putB A B xx sl2).1.isSome then hd2 + nI 1 else hd2), .ref h1, .ref h2, .int (pu2 + nI (putB A B xx sl2).2)])), (h1, aN cI 1024 ((putB A B xx sl2).1.getD sl2)), (h2, aN cI 64 pt1)] H := hP
      have hD : va_D (Aa [xo, fa, ma, h, h1, h2] H0.size) [(xo, .inr (3, [.ref fa, .ref ma])), (fa, aQ cF 4 fi), (ma, aQ cF 12 mk), (h, .inr (1, [.int (nI A), .int (nI B), .int (if (putB A B xx sl2).1.isSome then hd2 + nI 1 else hd2), .ref h1, .ref h2, .int (pu2 + nI (putB A B xx sl2).2)])), (h1, aN cI 1024 ((putB A B xx sl2).1.getD sl2)), (h2, aN cI 64 pt1)] := va_D.same2 [xo, fa, ma, h, h1, h2] hD rfl rfl
      refine lv_if_ne (tgt := 38) hx hb d_F_addAll_32 (by decide) (fun c_32 => ?_) (fun c_32 => ?_)
      · refine lv_lload hx hb d_F_addAll_38 (lv_at hl 1 rfl) ?_
        refine lv_lload hx hb d_F_addAll_40 (lv_at hl 6 rfl) ?_
        refine lv_ladd hx hb d_F_addAll_42 ?_
        refine lv_lstore (lv' := [(8, .long (xx + st)), (10, .int (nI i)), (7, .ref h), (0, .ref xo), (1, .int (nI j)), (2, .long x), (4, .long st), (6, .int (nI nN))]) hx hb d_F_addAll_43 hl (by decide) rfl (fun ls hl => ?_)
        refine lv_iinc (v := (nI (i + 1))) (lv' := [(10, .int (nI (i + 1))), (8, .long (xx + st)), (7, .ref h), (0, .ref xo), (1, .int (nI j)), (2, .long x), (4, .long st), (6, .int (nI nN))]) hx hb d_F_addAll_45 hl (k := 1) rfl (nI_1 _) (by decide) rfl (fun ls hl => ?_)
        refine lv_goto (tgt := 18) hx hb d_F_addAll_48 (by decide) ?_
        exact ih_18 (i + 1) ((xx + st)) ((if (putB A B xx sl2).1.isSome then hd2 + nI 1 else hd2)) ((pu2 + nI (putB A B xx sl2).2)) (((putB A B xx sl2).1.getD sl2)) (pt1) (by omega) (by have h9 := okS_add xx hok2 (fun h9 => by cases h9); rw [addS_2] at h9; exact h9) (by rw [haa, aaS_t (by rw [addS_2]; exact bI_t c_32), addS_2]; simp only [Prod.mk.injEq, and_true]; omega) H locs hP hD hS ls (lv_sub hl [0, 1, 2, 3, 4, 5, 6, 7] rfl)
      · refine lv_iload hx hb d_F_addAll_35 (lv_at hl 0 rfl) ?_
        exact mx_iret hx hb hr hlk d_F_addAll_37 (Nat.le_of_ble_eq_true rfl) (Nat.le_of_ble_eq_true rfl) hS.2.2 (⟨by rw [haa, aaS_f (by rw [addS_2]; exact bI_f c_32)]; rfl, (if (putB A B xx sl2).1.isSome then hd2 + nI 1 else hd2), (pu2 + nI (putB A B xx sl2).2), ((putB A B xx sl2).1.getD sl2), pt1, by rw [haa, aaS_f (by rw [addS_2]; exact bI_f c_32), addS_2], hP⟩)
  exact loop_18 (nN) (0) (x) (hd) (pu) (sl) (pt) (by omega) (hok) (by rw [Nat.zero_add]) H0 [] hP hD hS ls (lv_sub hl [0, 1, 2, 3, 4, 5, 6, 7] rfl)

set_option maxHeartbeats 4000000 in
set_option maxRecDepth 100000 in
theorem c_F_add_R {l : Launch} {s0 : State} {D : va_G} {cI cF cJ : ClassId} (G : Gx l s0 D cI cF cJ) (xo fa ma : Nat) (fi mk : Nat → Option Nat) (h h1 h2 A B n : Nat) (pv : Int32) (c0 f : Nat → Nat) (g : Nat → Int32) (j : Nat) (x : Int64) {H0 : Heap} {A0 : Nat → Prop} (hP : va_P D vcl [(xo, .inr (3, [.ref fa, .ref ma])), (fa, aQ cF 4 fi), (ma, aQ cF 12 mk), (h, .inr (2, [.int (nI A), .int (nI B), .int (nI n), .ref h1, .ref h2])), (h1, aN cI 256 f), (h2, aI cI 256 g)] H0) (hD : va_D A0 [(xo, .inr (3, [.ref fa, .ref ma])), (fa, aQ cF 4 fi), (ma, aQ cF 12 mk), (h, .inr (2, [.int (nI A), .int (nI B), .int (nI n), .ref h1, .ref h2])), (h1, aN cI 256 f), (h2, aI cI 256 g)]) (hok : okS (3, A, B, nI n, pv, c0, n, f)) (hj : j < 4) (hfi : fi j = some h) (hon : onS s0 H0) (had : ∀ q ∈ [xo, fa, ma, h, h1, h2], s0.heap.size ≤ q)  : Mx l s0 y_F_add (.code y_F_add b_F_add 5 (some .int)) { frames := 7, cells := 1, slots := 6, locals := 160 } [.ref xo, .int (nI j), .long x] H0 (Aa [xo, fa, ma, h, h1, h2] H0.size) (Rq s0 (if (decide (n < 2 ^ A)) then none else some E_U) (some (.int (nI (if n < 2 ^ A then n + 1 else n)))) (fun H1 => va_P D vcl [(xo, .inr (3, [.ref fa, .ref ma])), (fa, aQ cF 4 fi), (ma, aQ cF 12 mk), (h, .inr (2, [.int (nI A), .int (nI B), .int (nI (if n < 2 ^ A then n + 1 else n)), .ref h1, .ref h2])), (h1, aN cI 256 (if n < 2 ^ A then insF f n (prN A B x) else f)), (h2, aI cI 256 g)] H1)) := by
  refine Mx.ofW (own := "FewBits") rfl rfl ?_
  rintro p e s m below meth c ⟨hx, hb, hml, hr, hown, hW, hlk⟩ hnm het hH
  have hK := G.k hW
  have hD := hD.aa (sz := H0.size)
  have hD : va_D (Aa [xo, fa, ma, h, h1, h2] H0.size) [(xo, .inr (3, [.ref fa, .ref ma])), (fa, aQ cF 4 fi), (ma, aQ cF 12 mk), (h, .inr (2, [.int (nI A), .int (nI B), .int (nI n), .ref h1, .ref h2])), (h1, aN cI 256 f), (h2, aI cI 256 g)] := hD
  have hS : va_S (Aa [xo, fa, ma, h, h1, h2] H0.size) H0 H0 [] := va_S.rf
  have hq := (okS_3.mp hok).1
  have hA : A ≤ 8 := hq.2.1
  have hB1 : 1 ≤ B := by have := hq.2.2.1; omega
  have hB : B ≤ 20 := hq.2.2.2.1
  have hn := hq.n
  have hf := hq.lt28
  have hsr := hq.2.2.2.2.2.1
  have hfq := hq.q
  have hl := lv_entry ([.ref xo, .int (nI j), .long x]) (n := 5) (Nat.le_of_ble_eq_true rfl)
  rw [lg_entry_eq]
  generalize (lg_sl ([.ref xo, .int (nI j), .long x]) ++ List.replicate (5 - (lg_sl ([.ref xo, .int (nI j), .long x])).length) Slot.unset).toArray = ls at hl ⊢
  have hl : lv_has ls 5 [(0, .ref xo), (1, .int (nI j)), (2, .long x)] := hl
  refine lv_aload_n hx hb d_F_add_0 rfl (lv_at hl 0 rfl) ?_
  refine lv_iload_n hx hb d_F_add_1 rfl (lv_at hl 1 rfl) ?_
  refine mx_callR (r := .ref h) (c_F_filterAt G xo fa ma fi mk j h (hP.sub [0, 1, 2] rfl) hj hfi) hW (iv_F_add_2 G hx hb hown hW (va_recv hK hP (ci := 3) (q0 := 0) rfl rfl) [.int (nI j)] [] rfl) hml hl.1 (by rw [hb]; exact d_F_add_2) (cd_F_filterAt G hW) ⟨Nat.le_of_ble_eq_true rfl, Nat.le_of_ble_eq_true rfl⟩ rfl rfl (Nat.le_of_ble_eq_true rfl) (Nat.le_of_ble_eq_true rfl) (Nat.le_of_ble_eq_true rfl) ?_
  refine lv_astore (lv' := [(4, .ref h), (0, .ref xo), (1, .int (nI j)), (2, .long x)]) hx hb d_F_add_5 hl (by decide) rfl (fun ls hl => ?_)
  refine lv_aload hx hb d_F_add_7 (lv_at hl 0 rfl) ?_
  refine lv_lload_n hx hb d_F_add_9 rfl (lv_at hl 3 rfl) ?_
  refine mx_callW (r := .int (bI (decide (n < 2 ^ A)))) (c_P_accept_R G h h1 h2 A B n f g x (hP.sub [3, 4, 5] rfl) (hD.sub [3, 4, 5] rfl rfl) hA hB1 hB hn hf hsr) hW (iv_F_add_10_R G hx hb hown hW (va_recv hK hP (ci := 2) (q0 := 3) rfl rfl) [.long x] [] rfl) hml hl.1 (by rw [hb]; exact d_F_add_10) (cd_P_accept G hW) ⟨Nat.le_of_ble_eq_true rfl, Nat.le_of_ble_eq_true rfl⟩ (Nat.le_of_ble_eq_true rfl) (Nat.le_of_ble_eq_true rfl) (Nat.le_of_ble_eq_true rfl) hS (Aa.mono (fun _ h => List.mem_append_right [xo, fa, ma] h) hS.1) (fun H locs hP2 _ hkp hS => ?_)
  have hP := va_P.join (ws1 := [(xo, .inr (3, [.ref fa, .ref ma])), (fa, aQ cF 4 fi), (ma, aQ cF 12 mk)]) (ws2 := [(h, .inr (2, [.int (nI A), .int (nI B), .int (nI n), .ref h1, .ref h2])), (h1, aN cI 256 f), (h2, aI cI 256 g)]) hP hD hP2 hkp rfl
  have hP : va_P D vcl [(xo, .inr (3, [.ref fa, .ref ma])), (fa, aQ cF 4 fi), (ma, aQ cF 12 mk), (h, .inr (2, [.int (nI A), .int (nI B), .int (nI (if n < 2 ^ A then n + 1 else n)), .ref h1, .ref h2])), (h1, aN cI 256 (if n < 2 ^ A then insF f n (prN A B x) else f)), (h2, aI cI 256 g)] H := hP
  have hD : va_D (Aa [xo, fa, ma, h, h1, h2] H0.size) [(xo, .inr (3, [.ref fa, .ref ma])), (fa, aQ cF 4 fi), (ma, aQ cF 12 mk), (h, .inr (2, [.int (nI A), .int (nI B), .int (nI (if n < 2 ^ A then n + 1 else n)), .ref h1, .ref h2])), (h1, aN cI 256 (if n < 2 ^ A then insF f n (prN A B x) else f)), (h2, aI cI 256 g)] := va_D.same2 [xo, fa, ma, h, h1, h2] hD rfl rfl
  refine lv_if_ne (tgt := 26) hx hb d_F_add_13 (by decide) (fun c_13 => ?_) (fun c_13 => ?_)
  · refine lv_aload hx hb d_F_add_26 (lv_at hl 0 rfl) ?_
    refine va_get (D := D) (ci := 2) (v := .int (nI (if n < 2 ^ A then n + 1 else n))) (C := R_R) (T := T_R) (N := 5) hx hb (us_R G hW) (fun _ h => h) hown hK hP 3 rfl rfl 2 (by decide) (fl_F_58 G hW) (fun _ h9 => h9) rfl d_F_add_28 ?_
    exact mx_iret hx hb hr hlk d_F_add_31 (Nat.le_of_ble_eq_true rfl) (Nat.le_of_ble_eq_true rfl) hS.2.2 (⟨by rw [bI_t c_13]; rfl, hP⟩)
  · exact mx_throw (rest := []) G hx hb hW hown (th_U G) (str_at G 397 rfl hW) (hon.go had hS) (hl.1.trans hml.symm) het hlk d_F_add_16 d_F_add_19 d_F_add_20 d_F_add_22 d_F_add_25 (Nat.le_of_ble_eq_true rfl) (Nat.le_of_ble_eq_true rfl) (Nat.le_of_ble_eq_true rfl) (Nat.le_of_ble_eq_true rfl) (Nat.le_of_ble_eq_true rfl) (Nat.le_of_ble_eq_true rfl) hS.2.2 (fun H1 q hz hk ho => ⟨by rw [bI_f c_13]; exact ⟨q, rfl, ho⟩, va_P.ext hP hk⟩)

set_option maxHeartbeats 4000000 in
set_option maxRecDepth 100000 in
theorem c_F_remove_R {l : Launch} {s0 : State} {D : va_G} {cI cF cJ : ClassId} (G : Gx l s0 D cI cF cJ) (xo fa ma : Nat) (fi mk : Nat → Option Nat) (h h1 h2 A B n : Nat) (pv : Int32) (c0 f : Nat → Nat) (g : Nat → Int32) (j : Nat) (x : Int64) {H0 : Heap} {A0 : Nat → Prop} (hP : va_P D vcl [(xo, .inr (3, [.ref fa, .ref ma])), (fa, aQ cF 4 fi), (ma, aQ cF 12 mk), (h, .inr (2, [.int (nI A), .int (nI B), .int (nI n), .ref h1, .ref h2])), (h1, aN cI 256 f), (h2, aI cI 256 g)] H0) (hD : va_D A0 [(xo, .inr (3, [.ref fa, .ref ma])), (fa, aQ cF 4 fi), (ma, aQ cF 12 mk), (h, .inr (2, [.int (nI A), .int (nI B), .int (nI n), .ref h1, .ref h2])), (h1, aN cI 256 f), (h2, aI cI 256 g)]) (hok : okS (3, A, B, nI n, pv, c0, n, f)) (hj : j < 4) (hfi : fi j = some h) (hon : onS s0 H0) (had : ∀ q ∈ [xo, fa, ma, h, h1, h2], s0.heap.size ≤ q)  : Mx l s0 y_F_remove (.code y_F_remove b_F_remove 5 (some .int)) { frames := 7, cells := 1, slots := 6, locals := 160 } [.ref xo, .int (nI j), .long x] H0 (Aa [xo, fa, ma, h, h1, h2] H0.size) (Rq s0 (if (inF f n (prN A B x)) then none else some E_N) (some (.int (nI (if inF f n (prN A B x) then n - 1 else n)))) (fun H1 => va_P D vcl [(xo, .inr (3, [.ref fa, .ref ma])), (fa, aQ cF 4 fi), (ma, aQ cF 12 mk), (h, .inr (2, [.int (nI A), .int (nI B), .int (nI (if inF f n (prN A B x) then n - 1 else n)), .ref h1, .ref h2])), (h1, aN cI 256 (if inF f n (prN A B x) then delF f n (prN A B x) else f)), (h2, aI cI 256 g)] H1)) := by
  refine Mx.ofW (own := "FewBits") rfl rfl ?_
  rintro p e s m below meth c ⟨hx, hb, hml, hr, hown, hW, hlk⟩ hnm het hH
  have hK := G.k hW
  have hD := hD.aa (sz := H0.size)
  have hD : va_D (Aa [xo, fa, ma, h, h1, h2] H0.size) [(xo, .inr (3, [.ref fa, .ref ma])), (fa, aQ cF 4 fi), (ma, aQ cF 12 mk), (h, .inr (2, [.int (nI A), .int (nI B), .int (nI n), .ref h1, .ref h2])), (h1, aN cI 256 f), (h2, aI cI 256 g)] := hD
  have hS : va_S (Aa [xo, fa, ma, h, h1, h2] H0.size) H0 H0 [] := va_S.rf
  have hq := (okS_3.mp hok).1
  have hA : A ≤ 8 := hq.2.1
  have hB1 : 1 ≤ B := by have := hq.2.2.1; omega
  have hB : B ≤ 20 := hq.2.2.2.1
  have hn := hq.n
  have hf := hq.lt28
  have hsr := hq.2.2.2.2.2.1
  have hfq := hq.q
  have hl := lv_entry ([.ref xo, .int (nI j), .long x]) (n := 5) (Nat.le_of_ble_eq_true rfl)
  rw [lg_entry_eq]
  generalize (lg_sl ([.ref xo, .int (nI j), .long x]) ++ List.replicate (5 - (lg_sl ([.ref xo, .int (nI j), .long x])).length) Slot.unset).toArray = ls at hl ⊢
  have hl : lv_has ls 5 [(0, .ref xo), (1, .int (nI j)), (2, .long x)] := hl
  refine lv_aload_n hx hb d_F_remove_0 rfl (lv_at hl 0 rfl) ?_
  refine lv_iload_n hx hb d_F_remove_1 rfl (lv_at hl 1 rfl) ?_
  refine mx_callR (r := .ref h) (c_F_filterAt G xo fa ma fi mk j h (hP.sub [0, 1, 2] rfl) hj hfi) hW (iv_F_remove_2 G hx hb hown hW (va_recv hK hP (ci := 3) (q0 := 0) rfl rfl) [.int (nI j)] [] rfl) hml hl.1 (by rw [hb]; exact d_F_remove_2) (cd_F_filterAt G hW) ⟨Nat.le_of_ble_eq_true rfl, Nat.le_of_ble_eq_true rfl⟩ rfl rfl (Nat.le_of_ble_eq_true rfl) (Nat.le_of_ble_eq_true rfl) (Nat.le_of_ble_eq_true rfl) ?_
  refine lv_astore (lv' := [(4, .ref h), (0, .ref xo), (1, .int (nI j)), (2, .long x)]) hx hb d_F_remove_5 hl (by decide) rfl (fun ls hl => ?_)
  refine lv_aload hx hb d_F_remove_7 (lv_at hl 0 rfl) ?_
  refine lv_lload_n hx hb d_F_remove_9 rfl (lv_at hl 3 rfl) ?_
  refine mx_callW (r := .int (bI (inF f n (prN A B x)))) (c_P_release_R G h h1 h2 A B n f g x (hP.sub [3, 4, 5] rfl) (hD.sub [3, 4, 5] rfl rfl) hA hB1 hB hn hf hsr) hW (iv_F_remove_10_R G hx hb hown hW (va_recv hK hP (ci := 2) (q0 := 3) rfl rfl) [.long x] [] rfl) hml hl.1 (by rw [hb]; exact d_F_remove_10) (cd_P_release G hW) ⟨Nat.le_of_ble_eq_true rfl, Nat.le_of_ble_eq_true rfl⟩ (Nat.le_of_ble_eq_true rfl) (Nat.le_of_ble_eq_true rfl) (Nat.le_of_ble_eq_true rfl) hS (Aa.mono (fun _ h => List.mem_append_right [xo, fa, ma] h) hS.1) (fun H locs hP2 _ hkp hS => ?_)
  have hP := va_P.join (ws1 := [(xo, .inr (3, [.ref fa, .ref ma])), (fa, aQ cF 4 fi), (ma, aQ cF 12 mk)]) (ws2 := [(h, .inr (2, [.int (nI A), .int (nI B), .int (nI n), .ref h1, .ref h2])), (h1, aN cI 256 f), (h2, aI cI 256 g)]) hP hD hP2 hkp rfl
  have hP : va_P D vcl [(xo, .inr (3, [.ref fa, .ref ma])), (fa, aQ cF 4 fi), (ma, aQ cF 12 mk), (h, .inr (2, [.int (nI A), .int (nI B), .int (nI (if inF f n (prN A B x) then n - 1 else n)), .ref h1, .ref h2])), (h1, aN cI 256 (if inF f n (prN A B x) then delF f n (prN A B x) else f)), (h2, aI cI 256 g)] H := hP
  have hD : va_D (Aa [xo, fa, ma, h, h1, h2] H0.size) [(xo, .inr (3, [.ref fa, .ref ma])), (fa, aQ cF 4 fi), (ma, aQ cF 12 mk), (h, .inr (2, [.int (nI A), .int (nI B), .int (nI (if inF f n (prN A B x) then n - 1 else n)), .ref h1, .ref h2])), (h1, aN cI 256 (if inF f n (prN A B x) then delF f n (prN A B x) else f)), (h2, aI cI 256 g)] := va_D.same2 [xo, fa, ma, h, h1, h2] hD rfl rfl
  refine lv_if_ne (tgt := 26) hx hb d_F_remove_13 (by decide) (fun c_13 => ?_) (fun c_13 => ?_)
  · refine lv_aload hx hb d_F_remove_26 (lv_at hl 0 rfl) ?_
    refine va_get (D := D) (ci := 2) (v := .int (nI (if inF f n (prN A B x) then n - 1 else n))) (C := R_R) (T := T_R) (N := 5) hx hb (us_R G hW) (fun _ h => h) hown hK hP 3 rfl rfl 2 (by decide) (fl_F_58 G hW) (fun _ h9 => h9) rfl d_F_remove_28 ?_
    exact mx_iret hx hb hr hlk d_F_remove_31 (Nat.le_of_ble_eq_true rfl) (Nat.le_of_ble_eq_true rfl) hS.2.2 (⟨by rw [bI_t c_13]; rfl, hP⟩)
  · exact mx_throw (rest := []) G hx hb hW hown (th_N G) (str_at G 455 rfl hW) (hon.go had hS) (hl.1.trans hml.symm) het hlk d_F_remove_16 d_F_remove_19 d_F_remove_20 d_F_remove_22 d_F_remove_25 (Nat.le_of_ble_eq_true rfl) (Nat.le_of_ble_eq_true rfl) (Nat.le_of_ble_eq_true rfl) (Nat.le_of_ble_eq_true rfl) (Nat.le_of_ble_eq_true rfl) (Nat.le_of_ble_eq_true rfl) hS.2.2 (fun H1 q hz hk ho => ⟨by rw [bI_f c_13]; exact ⟨q, rfl, ho⟩, va_P.ext hP hk⟩)

set_option maxHeartbeats 4000000 in
set_option maxRecDepth 100000 in
theorem c_F_has_R {l : Launch} {s0 : State} {D : va_G} {cI cF cJ : ClassId} (G : Gx l s0 D cI cF cJ) (xo fa ma : Nat) (fi mk : Nat → Option Nat) (h h1 h2 A B n : Nat) (pv : Int32) (c0 f : Nat → Nat) (g : Nat → Int32) (j : Nat) (x : Int64) {H0 : Heap} {A0 : Nat → Prop} (hP : va_P D vcl [(xo, .inr (3, [.ref fa, .ref ma])), (fa, aQ cF 4 fi), (ma, aQ cF 12 mk), (h, .inr (2, [.int (nI A), .int (nI B), .int (nI n), .ref h1, .ref h2])), (h1, aN cI 256 f), (h2, aI cI 256 g)] H0) (hD : va_D A0 [(xo, .inr (3, [.ref fa, .ref ma])), (fa, aQ cF 4 fi), (ma, aQ cF 12 mk), (h, .inr (2, [.int (nI A), .int (nI B), .int (nI n), .ref h1, .ref h2])), (h1, aN cI 256 f), (h2, aI cI 256 g)]) (hok : okS (3, A, B, nI n, pv, c0, n, f)) (hj : j < 4) (hfi : fi j = some h) (hon : onS s0 H0) (had : ∀ q ∈ [xo, fa, ma, h, h1, h2], s0.heap.size ≤ q)  : Mx l s0 y_F_has (.code y_F_has b_F_has 4 (some .boolean)) { frames := 7, cells := 0, slots := 0, locals := 160 } [.ref xo, .int (nI j), .long x] H0 (Aa [xo, fa, ma, h, h1, h2] H0.size) (Rq s0 none (some (.int (bI (inF f n (prN A B x))))) (fun H1 => va_P D vcl [(xo, .inr (3, [.ref fa, .ref ma])), (fa, aQ cF 4 fi), (ma, aQ cF 12 mk), (h, .inr (2, [.int (nI A), .int (nI B), .int (nI n), .ref h1, .ref h2])), (h1, aN cI 256 f), (h2, aI cI 256 g)] H1)) := by
  refine Mx.ofW (own := "FewBits") rfl rfl ?_
  rintro p e s m below meth c ⟨hx, hb, hml, hr, hown, hW, hlk⟩ hnm het hH
  have hK := G.k hW
  have hD := hD.aa (sz := H0.size)
  have hD : va_D (Aa [xo, fa, ma, h, h1, h2] H0.size) [(xo, .inr (3, [.ref fa, .ref ma])), (fa, aQ cF 4 fi), (ma, aQ cF 12 mk), (h, .inr (2, [.int (nI A), .int (nI B), .int (nI n), .ref h1, .ref h2])), (h1, aN cI 256 f), (h2, aI cI 256 g)] := hD
  have hS : va_S (Aa [xo, fa, ma, h, h1, h2] H0.size) H0 H0 [] := va_S.rf
  have hq := (okS_3.mp hok).1
  have hA : A ≤ 8 := hq.2.1
  have hB1 : 1 ≤ B := by have := hq.2.2.1; omega
  have hB : B ≤ 20 := hq.2.2.2.1
  have hn := hq.n
  have hf := hq.lt28
  have hsr := hq.2.2.2.2.2.1
  have hfq := hq.q
  have hl := lv_entry ([.ref xo, .int (nI j), .long x]) (n := 4) (Nat.le_of_ble_eq_true rfl)
  rw [lg_entry_eq]
  generalize (lg_sl ([.ref xo, .int (nI j), .long x]) ++ List.replicate (4 - (lg_sl ([.ref xo, .int (nI j), .long x])).length) Slot.unset).toArray = ls at hl ⊢
  have hl : lv_has ls 4 [(0, .ref xo), (1, .int (nI j)), (2, .long x)] := hl
  refine lv_aload_n hx hb d_F_has_0 rfl (lv_at hl 0 rfl) ?_
  refine lv_iload_n hx hb d_F_has_1 rfl (lv_at hl 1 rfl) ?_
  refine mx_callR (r := .ref h) (c_F_filterAt G xo fa ma fi mk j h (hP.sub [0, 1, 2] rfl) hj hfi) hW (iv_F_has_2 G hx hb hown hW (va_recv hK hP (ci := 3) (q0 := 0) rfl rfl) [.int (nI j)] [] rfl) hml hl.1 (by rw [hb]; exact d_F_has_2) (cd_F_filterAt G hW) ⟨Nat.le_of_ble_eq_true rfl, Nat.le_of_ble_eq_true rfl⟩ rfl rfl (Nat.le_of_ble_eq_true rfl) (Nat.le_of_ble_eq_true rfl) (Nat.le_of_ble_eq_true rfl) ?_
  refine lv_lload_n hx hb d_F_has_5 rfl (lv_at hl 2 rfl) ?_
  refine mx_callR (r := .int (bI (inF f n (prN A B x)))) (c_R_holds G h h1 h2 A B n f g x (hP.sub [3, 4, 5] rfl) hA hB1 hB hn hf hsr) hW (iv_F_has_6_R G hx hb hown hW (va_recv hK hP (ci := 2) (q0 := 3) rfl rfl) [.long x] [] rfl) hml hl.1 (by rw [hb]; exact d_F_has_6) (cd_R_holds G hW) ⟨Nat.le_of_ble_eq_true rfl, Nat.le_of_ble_eq_true rfl⟩ rfl rfl (Nat.le_of_ble_eq_true rfl) (Nat.le_of_ble_eq_true rfl) (Nat.le_of_ble_eq_true rfl) ?_
  exact mx_zret hx hb hr hlk d_F_has_9 (Nat.le_of_ble_eq_true rfl) (Nat.le_of_ble_eq_true rfl) (fun _ h => nomatch h) (bI_nar _) (⟨rfl, hP⟩)

set_option maxHeartbeats 4000000 in
set_option maxRecDepth 100000 in
theorem c_F_same_R {l : Launch} {s0 : State} {D : va_G} {cI cF cJ : ClassId} (G : Gx l s0 D cI cF cJ) (xo fa ma : Nat) (fi mk : Nat → Option Nat) (h h1 h2 A B n : Nat) (pv : Int32) (c0 f : Nat → Nat) (g : Nat → Int32) (j : Nat) (x y : Int64) {H0 : Heap} {A0 : Nat → Prop} (hP : va_P D vcl [(xo, .inr (3, [.ref fa, .ref ma])), (fa, aQ cF 4 fi), (ma, aQ cF 12 mk), (h, .inr (2, [.int (nI A), .int (nI B), .int (nI n), .ref h1, .ref h2])), (h1, aN cI 256 f), (h2, aI cI 256 g)] H0) (hD : va_D A0 [(xo, .inr (3, [.ref fa, .ref ma])), (fa, aQ cF 4 fi), (ma, aQ cF 12 mk), (h, .inr (2, [.int (nI A), .int (nI B), .int (nI n), .ref h1, .ref h2])), (h1, aN cI 256 f), (h2, aI cI 256 g)]) (hok : okS (3, A, B, nI n, pv, c0, n, f)) (hj : j < 4) (hfi : fi j = some h) (hon : onS s0 H0) (had : ∀ q ∈ [xo, fa, ma, h, h1, h2], s0.heap.size ≤ q)  : Mx l s0 y_F_same (.code y_F_same b_F_same 6 (some .boolean)) { frames := 7, cells := 0, slots := 0, locals := 160 } [.ref xo, .int (nI j), .long x, .long y] H0 (Aa [xo, fa, ma, h, h1, h2] H0.size) (Rq s0 none (some (.int (bI (decide (prN A B x = prN A B y))))) (fun H1 => va_P D vcl [(xo, .inr (3, [.ref fa, .ref ma])), (fa, aQ cF 4 fi), (ma, aQ cF 12 mk), (h, .inr (2, [.int (nI A), .int (nI B), .int (nI n), .ref h1, .ref h2])), (h1, aN cI 256 f), (h2, aI cI 256 g)] H1)) := by
  refine Mx.ofW (own := "FewBits") rfl rfl ?_
  rintro p e s m below meth c ⟨hx, hb, hml, hr, hown, hW, hlk⟩ hnm het hH
  have hK := G.k hW
  have hD := hD.aa (sz := H0.size)
  have hD : va_D (Aa [xo, fa, ma, h, h1, h2] H0.size) [(xo, .inr (3, [.ref fa, .ref ma])), (fa, aQ cF 4 fi), (ma, aQ cF 12 mk), (h, .inr (2, [.int (nI A), .int (nI B), .int (nI n), .ref h1, .ref h2])), (h1, aN cI 256 f), (h2, aI cI 256 g)] := hD
  have hS : va_S (Aa [xo, fa, ma, h, h1, h2] H0.size) H0 H0 [] := va_S.rf
  have hq := (okS_3.mp hok).1
  have hA : A ≤ 8 := hq.2.1
  have hB1 : 1 ≤ B := by have := hq.2.2.1; omega
  have hB : B ≤ 20 := hq.2.2.2.1
  have hn := hq.n
  have hf := hq.lt28
  have hsr := hq.2.2.2.2.2.1
  have hfq := hq.q
  have hl := lv_entry ([.ref xo, .int (nI j), .long x, .long y]) (n := 6) (Nat.le_of_ble_eq_true rfl)
  rw [lg_entry_eq]
  generalize (lg_sl ([.ref xo, .int (nI j), .long x, .long y]) ++ List.replicate (6 - (lg_sl ([.ref xo, .int (nI j), .long x, .long y])).length) Slot.unset).toArray = ls at hl ⊢
  have hl : lv_has ls 6 [(0, .ref xo), (1, .int (nI j)), (2, .long x), (4, .long y)] := hl
  refine lv_aload_n hx hb d_F_same_0 rfl (lv_at hl 0 rfl) ?_
  refine lv_iload_n hx hb d_F_same_1 rfl (lv_at hl 1 rfl) ?_
  refine mx_callR (r := .ref h) (c_F_filterAt G xo fa ma fi mk j h (hP.sub [0, 1, 2] rfl) hj hfi) hW (iv_F_same_2 G hx hb hown hW (va_recv hK hP (ci := 3) (q0 := 0) rfl rfl) [.int (nI j)] [] rfl) hml hl.1 (by rw [hb]; exact d_F_same_2) (cd_F_filterAt G hW) ⟨Nat.le_of_ble_eq_true rfl, Nat.le_of_ble_eq_true rfl⟩ rfl rfl (Nat.le_of_ble_eq_true rfl) (Nat.le_of_ble_eq_true rfl) (Nat.le_of_ble_eq_true rfl) ?_
  refine lv_lload_n hx hb d_F_same_5 rfl (lv_at hl 2 rfl) ?_
  refine lv_lload hx hb d_F_same_6 (lv_at hl 3 rfl) ?_
  refine mx_callR (r := .int (bI (decide (prN A B x = prN A B y)))) (c_R_looksAlike G h h1 h2 A B n f g x y (hP.sub [3, 4, 5] rfl) hA hB1 hB) hW (iv_F_same_8_R G hx hb hown hW (va_recv hK hP (ci := 2) (q0 := 3) rfl rfl) [.long x, .long y] [] rfl) hml hl.1 (by rw [hb]; exact d_F_same_8) (cd_R_looksAlike G hW) ⟨Nat.le_of_ble_eq_true rfl, Nat.le_of_ble_eq_true rfl⟩ rfl rfl (Nat.le_of_ble_eq_true rfl) (Nat.le_of_ble_eq_true rfl) (Nat.le_of_ble_eq_true rfl) ?_
  exact mx_zret hx hb hr hlk d_F_same_11 (Nat.le_of_ble_eq_true rfl) (Nat.le_of_ble_eq_true rfl) (fun _ h => nomatch h) (bI_nar _) (⟨rfl, hP⟩)

set_option maxHeartbeats 4000000 in
set_option maxRecDepth 100000 in
theorem c_F_addAll_R_items {l : Launch} {s0 : State} {D : va_G} {cI cF cJ : ClassId} (G : Gx l s0 D cI cF cJ) (xo fa ma : Nat) (fi mk : Nat → Option Nat) (h h1 h2 A B n : Nat) (pv : Int32) (c0 f : Nat → Nat) (g : Nat → Int32) (j : Nat) (x st : Int64) (v : Int32) {H0 : Heap} {A0 : Nat → Prop} (hP : va_P D vcl [(xo, .inr (3, [.ref fa, .ref ma])), (fa, aQ cF 4 fi), (ma, aQ cF 12 mk), (h, .inr (2, [.int (nI A), .int (nI B), .int (nI n), .ref h1, .ref h2])), (h1, aN cI 256 f), (h2, aI cI 256 g)] H0) (hD : va_D A0 [(xo, .inr (3, [.ref fa, .ref ma])), (fa, aQ cF 4 fi), (ma, aQ cF 12 mk), (h, .inr (2, [.int (nI A), .int (nI B), .int (nI n), .ref h1, .ref h2])), (h1, aN cI 256 f), (h2, aI cI 256 g)]) (hok : okS (3, A, B, nI n, pv, c0, n, f)) (hj : j < 4) (hfi : fi j = some h) (hon : onS s0 H0) (had : ∀ q ∈ [xo, fa, ma, h, h1, h2], s0.heap.size ≤ q) (hv : wth v (nI 0) (nI 400) = false) : Mx l s0 y_F_addAll (.code y_F_addAll b_F_addAll 11 (some .int)) { frames := 7, cells := 1, slots := 6, locals := 160 } [.ref xo, .int (nI j), .long x, .long st, .int v] H0 (Aa [xo, fa, ma, h, h1, h2] H0.size) (Rq s0 (some E_A) none (fun H1 => va_P D vcl [(xo, .inr (3, [.ref fa, .ref ma])), (fa, aQ cF 4 fi), (ma, aQ cF 12 mk), (h, .inr (2, [.int (nI A), .int (nI B), .int (nI n), .ref h1, .ref h2])), (h1, aN cI 256 f), (h2, aI cI 256 g)] H1)) := by
  refine Mx.ofW (own := "FewBits") rfl rfl ?_
  rintro p e s m below meth c ⟨hx, hb, hml, hr, hown, hW, hlk⟩ hnm het hH
  have hK := G.k hW
  have hD := hD.aa (sz := H0.size)
  have hD : va_D (Aa [xo, fa, ma, h, h1, h2] H0.size) [(xo, .inr (3, [.ref fa, .ref ma])), (fa, aQ cF 4 fi), (ma, aQ cF 12 mk), (h, .inr (2, [.int (nI A), .int (nI B), .int (nI n), .ref h1, .ref h2])), (h1, aN cI 256 f), (h2, aI cI 256 g)] := hD
  have hS : va_S (Aa [xo, fa, ma, h, h1, h2] H0.size) H0 H0 [] := va_S.rf
  have hl := lv_entry ([.ref xo, .int (nI j), .long x, .long st, .int v]) (n := 11) (Nat.le_of_ble_eq_true rfl)
  rw [lg_entry_eq]
  generalize (lg_sl ([.ref xo, .int (nI j), .long x, .long st, .int v]) ++ List.replicate (11 - (lg_sl ([.ref xo, .int (nI j), .long x, .long st, .int v])).length) Slot.unset).toArray = ls at hl ⊢
  have hl : lv_has ls 11 [(0, .ref xo), (1, .int (nI j)), (2, .long x), (4, .long st), (6, .int v)] := hl
  refine lv_aload_n hx hb d_F_addAll_0 rfl (lv_at hl 0 rfl) ?_
  refine lv_iload_n hx hb d_F_addAll_1 rfl (lv_at hl 1 rfl) ?_
  refine mx_callR (r := .ref h) (c_F_filterAt G xo fa ma fi mk j h (hP.sub [0, 1, 2] rfl) hj hfi) hW (iv_F_addAll_2 G hx hb hown hW (va_recv hK hP (ci := 3) (q0 := 0) rfl rfl) [.int (nI j)] [] rfl) hml hl.1 (by rw [hb]; exact d_F_addAll_2) (cd_F_filterAt G hW) ⟨Nat.le_of_ble_eq_true rfl, Nat.le_of_ble_eq_true rfl⟩ rfl rfl (Nat.le_of_ble_eq_true rfl) (Nat.le_of_ble_eq_true rfl) (Nat.le_of_ble_eq_true rfl) ?_
  refine lv_astore (lv' := [(7, .ref h), (0, .ref xo), (1, .int (nI j)), (2, .long x), (4, .long st), (6, .int v)]) hx hb d_F_addAll_5 hl (by decide) rfl (fun ls hl => ?_)
  refine lv_iload hx hb d_F_addAll_7 (lv_at hl 5 rfl) ?_
  exact mx_callT (c_F_requireItems_no G v hv hon) hW (iv_F_addAll_9 G hx hb hown hW [.int v] [] rfl) hml hl.1 (by rw [hb]; exact d_F_addAll_9) (cd_F_requireItems G hW) ⟨Nat.le_of_ble_eq_true rfl, Nat.le_of_ble_eq_true rfl⟩ (Nat.le_of_ble_eq_true rfl) (Nat.le_of_ble_eq_true rfl) (Nat.le_of_ble_eq_true rfl) het hlk (Nat.le_of_ble_eq_true rfl) (Nat.le_of_ble_eq_true rfl) (fun _ h => nomatch h) (fun _ h => h.elim) (fun H1 q hz hk hp ho => ⟨⟨q, rfl, ho⟩, hP.ext (fun z hz => hk z hz (fun h9 => h9))⟩)

set_option maxHeartbeats 4000000 in
set_option maxRecDepth 100000 in
theorem c_F_hasAll_R_items {l : Launch} {s0 : State} {D : va_G} {cI cF cJ : ClassId} (G : Gx l s0 D cI cF cJ) (xo fa ma : Nat) (fi mk : Nat → Option Nat) (h h1 h2 A B n : Nat) (pv : Int32) (c0 f : Nat → Nat) (g : Nat → Int32) (j : Nat) (x st : Int64) (v : Int32) {H0 : Heap} {A0 : Nat → Prop} (hP : va_P D vcl [(xo, .inr (3, [.ref fa, .ref ma])), (fa, aQ cF 4 fi), (ma, aQ cF 12 mk), (h, .inr (2, [.int (nI A), .int (nI B), .int (nI n), .ref h1, .ref h2])), (h1, aN cI 256 f), (h2, aI cI 256 g)] H0) (hD : va_D A0 [(xo, .inr (3, [.ref fa, .ref ma])), (fa, aQ cF 4 fi), (ma, aQ cF 12 mk), (h, .inr (2, [.int (nI A), .int (nI B), .int (nI n), .ref h1, .ref h2])), (h1, aN cI 256 f), (h2, aI cI 256 g)]) (hok : okS (3, A, B, nI n, pv, c0, n, f)) (hj : j < 4) (hfi : fi j = some h) (hon : onS s0 H0) (had : ∀ q ∈ [xo, fa, ma, h, h1, h2], s0.heap.size ≤ q) (hv : wth v (nI 0) (nI 400) = false) : Mx l s0 y_F_hasAll (.code y_F_hasAll b_F_hasAll 12 (some .int)) { frames := 7, cells := 1, slots := 6, locals := 160 } [.ref xo, .int (nI j), .long x, .long st, .int v] H0 (Aa [xo, fa, ma, h, h1, h2] H0.size) (Rq s0 (some E_A) none (fun H1 => va_P D vcl [(xo, .inr (3, [.ref fa, .ref ma])), (fa, aQ cF 4 fi), (ma, aQ cF 12 mk), (h, .inr (2, [.int (nI A), .int (nI B), .int (nI n), .ref h1, .ref h2])), (h1, aN cI 256 f), (h2, aI cI 256 g)] H1)) := by
  refine Mx.ofW (own := "FewBits") rfl rfl ?_
  rintro p e s m below meth c ⟨hx, hb, hml, hr, hown, hW, hlk⟩ hnm het hH
  have hK := G.k hW
  have hD := hD.aa (sz := H0.size)
  have hD : va_D (Aa [xo, fa, ma, h, h1, h2] H0.size) [(xo, .inr (3, [.ref fa, .ref ma])), (fa, aQ cF 4 fi), (ma, aQ cF 12 mk), (h, .inr (2, [.int (nI A), .int (nI B), .int (nI n), .ref h1, .ref h2])), (h1, aN cI 256 f), (h2, aI cI 256 g)] := hD
  have hS : va_S (Aa [xo, fa, ma, h, h1, h2] H0.size) H0 H0 [] := va_S.rf
  have hl := lv_entry ([.ref xo, .int (nI j), .long x, .long st, .int v]) (n := 12) (Nat.le_of_ble_eq_true rfl)
  rw [lg_entry_eq]
  generalize (lg_sl ([.ref xo, .int (nI j), .long x, .long st, .int v]) ++ List.replicate (12 - (lg_sl ([.ref xo, .int (nI j), .long x, .long st, .int v])).length) Slot.unset).toArray = ls at hl ⊢
  have hl : lv_has ls 12 [(0, .ref xo), (1, .int (nI j)), (2, .long x), (4, .long st), (6, .int v)] := hl
  refine lv_aload_n hx hb d_F_hasAll_0 rfl (lv_at hl 0 rfl) ?_
  refine lv_iload_n hx hb d_F_hasAll_1 rfl (lv_at hl 1 rfl) ?_
  refine mx_callR (r := .ref h) (c_F_filterAt G xo fa ma fi mk j h (hP.sub [0, 1, 2] rfl) hj hfi) hW (iv_F_hasAll_2 G hx hb hown hW (va_recv hK hP (ci := 3) (q0 := 0) rfl rfl) [.int (nI j)] [] rfl) hml hl.1 (by rw [hb]; exact d_F_hasAll_2) (cd_F_filterAt G hW) ⟨Nat.le_of_ble_eq_true rfl, Nat.le_of_ble_eq_true rfl⟩ rfl rfl (Nat.le_of_ble_eq_true rfl) (Nat.le_of_ble_eq_true rfl) (Nat.le_of_ble_eq_true rfl) ?_
  refine lv_astore (lv' := [(7, .ref h), (0, .ref xo), (1, .int (nI j)), (2, .long x), (4, .long st), (6, .int v)]) hx hb d_F_hasAll_5 hl (by decide) rfl (fun ls hl => ?_)
  refine lv_iload hx hb d_F_hasAll_7 (lv_at hl 5 rfl) ?_
  exact mx_callT (c_F_requireItems_no G v hv hon) hW (iv_F_hasAll_9 G hx hb hown hW [.int v] [] rfl) hml hl.1 (by rw [hb]; exact d_F_hasAll_9) (cd_F_requireItems G hW) ⟨Nat.le_of_ble_eq_true rfl, Nat.le_of_ble_eq_true rfl⟩ (Nat.le_of_ble_eq_true rfl) (Nat.le_of_ble_eq_true rfl) (Nat.le_of_ble_eq_true rfl) het hlk (Nat.le_of_ble_eq_true rfl) (Nat.le_of_ble_eq_true rfl) (fun _ h => nomatch h) (fun _ h => h.elim) (fun H1 q hz hk hp ho => ⟨⟨q, rfl, ho⟩, hP.ext (fun z hz => hk z hz (fun h9 => h9))⟩)

set_option maxHeartbeats 4000000 in
set_option maxRecDepth 100000 in
theorem c_F_hasAll_R {l : Launch} {s0 : State} {D : va_G} {cI cF cJ : ClassId} (G : Gx l s0 D cI cF cJ) (xo fa ma : Nat) (fi mk : Nat → Option Nat) (h h1 h2 A B n : Nat) (pv : Int32) (c0 f : Nat → Nat) (g : Nat → Int32) (j : Nat) (x st : Int64) (nN : Nat) {H0 : Heap} {A0 : Nat → Prop} (hP : va_P D vcl [(xo, .inr (3, [.ref fa, .ref ma])), (fa, aQ cF 4 fi), (ma, aQ cF 12 mk), (h, .inr (2, [.int (nI A), .int (nI B), .int (nI n), .ref h1, .ref h2])), (h1, aN cI 256 f), (h2, aI cI 256 g)] H0) (hD : va_D A0 [(xo, .inr (3, [.ref fa, .ref ma])), (fa, aQ cF 4 fi), (ma, aQ cF 12 mk), (h, .inr (2, [.int (nI A), .int (nI B), .int (nI n), .ref h1, .ref h2])), (h1, aN cI 256 f), (h2, aI cI 256 g)]) (hok : okS (3, A, B, nI n, pv, c0, n, f)) (hj : j < 4) (hfi : fi j = some h) (hon : onS s0 H0) (had : ∀ q ∈ [xo, fa, ma, h, h1, h2], s0.heap.size ≤ q) (hn4 : nN ≤ 400) : Mx l s0 y_F_hasAll (.code y_F_hasAll b_F_hasAll 12 (some .int)) { frames := 7, cells := 0, slots := 0, locals := 160 } [.ref xo, .int (nI j), .long x, .long st, .int (nI nN)] H0 (Aa [xo, fa, ma, h, h1, h2] H0.size) (Rq s0 none (some (.int (nI (haS (3, A, B, nI n, pv, c0, n, f) nN x st)))) (fun H1 => va_P D vcl [(xo, .inr (3, [.ref fa, .ref ma])), (fa, aQ cF 4 fi), (ma, aQ cF 12 mk), (h, .inr (2, [.int (nI A), .int (nI B), .int (nI n), .ref h1, .ref h2])), (h1, aN cI 256 f), (h2, aI cI 256 g)] H1)) := by
  refine Mx.ofW (own := "FewBits") rfl rfl ?_
  rintro p e s m below meth c ⟨hx, hb, hml, hr, hown, hW, hlk⟩ hnm het hH
  have hK := G.k hW
  have hD := hD.aa (sz := H0.size)
  have hD : va_D (Aa [xo, fa, ma, h, h1, h2] H0.size) [(xo, .inr (3, [.ref fa, .ref ma])), (fa, aQ cF 4 fi), (ma, aQ cF 12 mk), (h, .inr (2, [.int (nI A), .int (nI B), .int (nI n), .ref h1, .ref h2])), (h1, aN cI 256 f), (h2, aI cI 256 g)] := hD
  have hS : va_S (Aa [xo, fa, ma, h, h1, h2] H0.size) H0 H0 [] := va_S.rf
  have hq := (okS_3.mp hok).1
  have hA : A ≤ 8 := hq.2.1
  have hB1 : 1 ≤ B := by have := hq.2.2.1; omega
  have hB : B ≤ 20 := hq.2.2.2.1
  have hn := hq.n
  have hf := hq.lt28
  have hsr := hq.2.2.2.2.2.1
  have hfq := hq.q
  have hl := lv_entry ([.ref xo, .int (nI j), .long x, .long st, .int (nI nN)]) (n := 12) (Nat.le_of_ble_eq_true rfl)
  rw [lg_entry_eq]
  generalize (lg_sl ([.ref xo, .int (nI j), .long x, .long st, .int (nI nN)]) ++ List.replicate (12 - (lg_sl ([.ref xo, .int (nI j), .long x, .long st, .int (nI nN)])).length) Slot.unset).toArray = ls at hl ⊢
  have hl : lv_has ls 12 [(0, .ref xo), (1, .int (nI j)), (2, .long x), (4, .long st), (6, .int (nI nN))] := hl
  refine lv_aload_n hx hb d_F_hasAll_0 rfl (lv_at hl 0 rfl) ?_
  refine lv_iload_n hx hb d_F_hasAll_1 rfl (lv_at hl 1 rfl) ?_
  refine mx_callR (r := .ref h) (c_F_filterAt G xo fa ma fi mk j h (hP.sub [0, 1, 2] rfl) hj hfi) hW (iv_F_hasAll_2 G hx hb hown hW (va_recv hK hP (ci := 3) (q0 := 0) rfl rfl) [.int (nI j)] [] rfl) hml hl.1 (by rw [hb]; exact d_F_hasAll_2) (cd_F_filterAt G hW) ⟨Nat.le_of_ble_eq_true rfl, Nat.le_of_ble_eq_true rfl⟩ rfl rfl (Nat.le_of_ble_eq_true rfl) (Nat.le_of_ble_eq_true rfl) (Nat.le_of_ble_eq_true rfl) ?_
  refine lv_astore (lv' := [(7, .ref h), (0, .ref xo), (1, .int (nI j)), (2, .long x), (4, .long st), (6, .int (nI nN))]) hx hb d_F_hasAll_5 hl (by decide) rfl (fun ls hl => ?_)
  refine lv_iload hx hb d_F_hasAll_7 (lv_at hl 5 rfl) ?_
  refine mx_callV (c_F_requireItems_ok G (nI nN) (wth_le hn4)) hW (iv_F_hasAll_9 G hx hb hown hW [.int (nI nN)] [] rfl) hml hl.1 (by rw [hb]; exact d_F_hasAll_9) (cd_F_requireItems G hW) ⟨Nat.le_of_ble_eq_true rfl, Nat.le_of_ble_eq_true rfl⟩ rfl rfl (Nat.le_of_ble_eq_true rfl) (Nat.le_of_ble_eq_true rfl) (Nat.le_of_ble_eq_true rfl) ?_
  refine lv_iconst (v := (nI 0)) hx hb d_F_hasAll_12 (by decide) ?_
  refine lv_istore (lv' := [(8, .int (nI 0)), (7, .ref h), (0, .ref xo), (1, .int (nI j)), (2, .long x), (4, .long st), (6, .int (nI nN))]) hx hb d_F_hasAll_13 hl (by decide) rfl (fun ls hl => ?_)
  refine lv_lload_n hx hb d_F_hasAll_15 rfl (lv_at hl 4 rfl) ?_
  refine lv_lstore (lv' := [(9, .long x), (8, .int (nI 0)), (7, .ref h), (0, .ref xo), (1, .int (nI j)), (2, .long x), (4, .long st), (6, .int (nI nN))]) hx hb d_F_hasAll_16 hl (by decide) rfl (fun ls hl => ?_)
  refine lv_iconst (v := (nI 0)) hx hb d_F_hasAll_18 (by decide) ?_
  refine lv_istore (lv' := [(11, .int (nI 0)), (9, .long x), (8, .int (nI 0)), (7, .ref h), (0, .ref xo), (1, .int (nI j)), (2, .long x), (4, .long st), (6, .int (nI nN))]) hx hb d_F_hasAll_19 hl (by decide) rfl (fun ls hl => ?_)
  have loop_21 : ∀ (k : Nat) (i : Nat) (tt : Nat) (xx : Int64), (i + k = nN) → (haS (3, A, B, nI n, pv, c0, n, f) nN x st = tt + haS (3, A, B, nI n, pv, c0, n, f) k xx st) → (tt ≤ i) → ∀ (ls : Array Slot), lv_has ls 12 [(11, .int (nI i)), (9, .long xx), (8, .int (nI tt)), (7, .ref h), (0, .ref xo), (1, .int (nI j)), (2, .long x), (4, .long st), (6, .int (nI nN))] → W p l e { frames := 7, cells := 0, slots := 0, locals := 160 } s m ([.ref xo, .int (nI j), .long x, .long st, .int (nI nN)] : List Value).toArray below meth c H0 [] 0 0 (MQx below (Rq s0 none (some (.int (nI (haS (3, A, B, nI n, pv, c0, n, f) nN x st)))) (fun H1 => va_P D vcl [(xo, .inr (3, [.ref fa, .ref ma])), (fa, aQ cF 4 fi), (ma, aQ cF 12 mk), (h, .inr (2, [.int (nI A), .int (nI B), .int (nI n), .ref h1, .ref h2])), (h1, aN cI 256 f), (h2, aI cI 256 g)] H1)) s 0 0 (Aa [xo, fa, ma, h, h1, h2] H0.size)) (F0 m 21 ls []) := by
    intro k
    induction k with
    | zero =>
      intro i tt xx hk ht htl  ls hl
      refine lv_iload hx hb d_F_hasAll_21 (lv_at hl 0 rfl) ?_
      refine lv_iload hx hb d_F_hasAll_23 (lv_at hl 8 rfl) ?_
      refine lv_icmp_ge (tgt := 54) hx hb d_F_hasAll_25 (by decide) (fun c_25 => ?_) (fun c_25 => absurd (nI_le (by omega) (by omega)) c_25)
      refine lv_iload hx hb d_F_hasAll_54 (lv_at hl 2 rfl) ?_
      exact mx_iret hx hb hr hlk d_F_hasAll_56 (Nat.le_of_ble_eq_true rfl) (Nat.le_of_ble_eq_true rfl) (fun _ h => nomatch h) (⟨by rw [ht]; rfl, hP⟩)
    | succ k ih_21 =>
      intro i tt xx hk ht htl  ls hl
      refine lv_iload hx hb d_F_hasAll_21 (lv_at hl 0 rfl) ?_
      refine lv_iload hx hb d_F_hasAll_23 (lv_at hl 8 rfl) ?_
      refine lv_icmp_ge (tgt := 54) hx hb d_F_hasAll_25 (by decide) (fun c_25 => absurd c_25 (nI_ge (by omega) (by omega))) (fun c_25 => ?_)
      refine lv_aload hx hb d_F_hasAll_28 (lv_at hl 3 rfl) ?_
      refine lv_lload hx hb d_F_hasAll_30 (lv_at hl 1 rfl) ?_
      refine mx_callR (r := .int (bI (inF f n (prN A B xx)))) (c_R_holds G h h1 h2 A B n f g xx (hP.sub [3, 4, 5] rfl) hA hB1 hB hn hf hsr) hW (iv_F_hasAll_32_R G hx hb hown hW (va_recv hK hP (ci := 2) (q0 := 3) rfl rfl) [.long xx] [] rfl) hml hl.1 (by rw [hb]; exact d_F_hasAll_32) (cd_R_holds G hW) ⟨Nat.le_of_ble_eq_true rfl, Nat.le_of_ble_eq_true rfl⟩ rfl rfl (Nat.le_of_ble_eq_true rfl) (Nat.le_of_ble_eq_true rfl) (Nat.le_of_ble_eq_true rfl) ?_
      refine lv_if_eq (tgt := 41) hx hb d_F_hasAll_35 (by decide) (fun c_35 => ?_) (fun c_35 => ?_)
      · refine lv_lload hx hb d_F_hasAll_41 (lv_at hl 1 rfl) ?_
        refine lv_lload hx hb d_F_hasAll_43 (lv_at hl 7 rfl) ?_
        refine lv_ladd hx hb d_F_hasAll_45 ?_
        refine lv_lstore (lv' := [(9, .long (xx + st)), (11, .int (nI i)), (8, .int (nI tt)), (7, .ref h), (0, .ref xo), (1, .int (nI j)), (2, .long x), (4, .long st), (6, .int (nI nN))]) hx hb d_F_hasAll_46 hl (by decide) rfl (fun ls hl => ?_)
        refine lv_iinc (v := (nI (i + 1))) (lv' := [(11, .int (nI (i + 1))), (9, .long (xx + st)), (8, .int (nI tt)), (7, .ref h), (0, .ref xo), (1, .int (nI j)), (2, .long x), (4, .long st), (6, .int (nI nN))]) hx hb d_F_hasAll_48 hl (k := 1) rfl (nI_1 _) (by decide) rfl (fun ls hl => ?_)
        refine lv_goto (tgt := 21) hx hb d_F_hasAll_51 (by decide) ?_
        exact ih_21 (i + 1) (tt) ((xx + st)) (by omega) (by rw [ht, haS_f (show hasS (3, A, B, nI n, pv, c0, n, f) xx = false from bI_f c_35)]) (by omega) ls (lv_sub hl [0, 1, 2, 3, 4, 5, 6, 7, 8] rfl)
      · refine lv_iinc (v := (nI (tt + 1))) (lv' := [(8, .int (nI (tt + 1))), (11, .int (nI i)), (9, .long xx), (7, .ref h), (0, .ref xo), (1, .int (nI j)), (2, .long x), (4, .long st), (6, .int (nI nN))]) hx hb d_F_hasAll_38 hl (k := 2) rfl (nI_1 _) (by decide) rfl (fun ls hl => ?_)
        refine lv_lload hx hb d_F_hasAll_41 (lv_at hl 2 rfl) ?_
        refine lv_lload hx hb d_F_hasAll_43 (lv_at hl 7 rfl) ?_
        refine lv_ladd hx hb d_F_hasAll_45 ?_
        refine lv_lstore (lv' := [(9, .long (xx + st)), (8, .int (nI (tt + 1))), (11, .int (nI i)), (7, .ref h), (0, .ref xo), (1, .int (nI j)), (2, .long x), (4, .long st), (6, .int (nI nN))]) hx hb d_F_hasAll_46 hl (by decide) rfl (fun ls hl => ?_)
        refine lv_iinc (v := (nI (i + 1))) (lv' := [(11, .int (nI (i + 1))), (9, .long (xx + st)), (8, .int (nI (tt + 1))), (7, .ref h), (0, .ref xo), (1, .int (nI j)), (2, .long x), (4, .long st), (6, .int (nI nN))]) hx hb d_F_hasAll_48 hl (k := 2) rfl (nI_1 _) (by decide) rfl (fun ls hl => ?_)
        refine lv_goto (tgt := 21) hx hb d_F_hasAll_51 (by decide) ?_
        exact ih_21 (i + 1) (tt + 1) ((xx + st)) (by omega) (by rw [ht, haS_t (show hasS (3, A, B, nI n, pv, c0, n, f) xx = true from bI_t c_35)]; omega) (by omega) ls (lv_sub hl [0, 1, 2, 3, 4, 5, 6, 7, 8] rfl)
  exact loop_21 (nN) (0) (0) (x) (by omega) ((Nat.zero_add _).symm) (Nat.le_refl _) ls (lv_sub hl [0, 1, 2, 3, 4, 5, 6, 7, 8] rfl)

set_option maxHeartbeats 4000000 in
set_option maxRecDepth 100000 in
theorem c_F_addAll_R {l : Launch} {s0 : State} {D : va_G} {cI cF cJ : ClassId} (G : Gx l s0 D cI cF cJ) (xo fa ma : Nat) (fi mk : Nat → Option Nat) (h h1 h2 A B n : Nat) (pv : Int32) (c0 f : Nat → Nat) (g : Nat → Int32) (j : Nat) (x st : Int64) (nN : Nat) {H0 : Heap} {A0 : Nat → Prop} (hP : va_P D vcl [(xo, .inr (3, [.ref fa, .ref ma])), (fa, aQ cF 4 fi), (ma, aQ cF 12 mk), (h, .inr (2, [.int (nI A), .int (nI B), .int (nI n), .ref h1, .ref h2])), (h1, aN cI 256 f), (h2, aI cI 256 g)] H0) (hD : va_D A0 [(xo, .inr (3, [.ref fa, .ref ma])), (fa, aQ cF 4 fi), (ma, aQ cF 12 mk), (h, .inr (2, [.int (nI A), .int (nI B), .int (nI n), .ref h1, .ref h2])), (h1, aN cI 256 f), (h2, aI cI 256 g)]) (hok : okS (3, A, B, nI n, pv, c0, n, f)) (hj : j < 4) (hfi : fi j = some h) (hon : onS s0 H0) (had : ∀ q ∈ [xo, fa, ma, h, h1, h2], s0.heap.size ≤ q) (hn4 : nN ≤ 400) : Mx l s0 y_F_addAll (.code y_F_addAll b_F_addAll 11 (some .int)) { frames := 7, cells := 0, slots := 0, locals := 160 } [.ref xo, .int (nI j), .long x, .long st, .int (nI nN)] H0 (Aa [xo, fa, ma, h, h1, h2] H0.size) (Rq s0 none (some (.int (nI (aaS nN (3, A, B, nI n, pv, c0, n, f) x st).1))) (fun H1 => ∃ n2 f2, (aaS nN (3, A, B, nI n, pv, c0, n, f) x st).2 = (3, A, B, nI n2, pv, c0, n2, f2) ∧ va_P D vcl [(xo, .inr (3, [.ref fa, .ref ma])), (fa, aQ cF 4 fi), (ma, aQ cF 12 mk), (h, .inr (2, [.int (nI A), .int (nI B), .int (nI n2), .ref h1, .ref h2])), (h1, aN cI 256 f2), (h2, aI cI 256 g)] H1)) := by
  refine Mx.ofW (own := "FewBits") rfl rfl ?_
  rintro p e s m below meth c ⟨hx, hb, hml, hr, hown, hW, hlk⟩ hnm het hH
  have hK := G.k hW
  have hD := hD.aa (sz := H0.size)
  have hD : va_D (Aa [xo, fa, ma, h, h1, h2] H0.size) [(xo, .inr (3, [.ref fa, .ref ma])), (fa, aQ cF 4 fi), (ma, aQ cF 12 mk), (h, .inr (2, [.int (nI A), .int (nI B), .int (nI n), .ref h1, .ref h2])), (h1, aN cI 256 f), (h2, aI cI 256 g)] := hD
  have hS : va_S (Aa [xo, fa, ma, h, h1, h2] H0.size) H0 H0 [] := va_S.rf
  have hl := lv_entry ([.ref xo, .int (nI j), .long x, .long st, .int (nI nN)]) (n := 11) (Nat.le_of_ble_eq_true rfl)
  rw [lg_entry_eq]
  generalize (lg_sl ([.ref xo, .int (nI j), .long x, .long st, .int (nI nN)]) ++ List.replicate (11 - (lg_sl ([.ref xo, .int (nI j), .long x, .long st, .int (nI nN)])).length) Slot.unset).toArray = ls at hl ⊢
  have hl : lv_has ls 11 [(0, .ref xo), (1, .int (nI j)), (2, .long x), (4, .long st), (6, .int (nI nN))] := hl
  refine lv_aload_n hx hb d_F_addAll_0 rfl (lv_at hl 0 rfl) ?_
  refine lv_iload_n hx hb d_F_addAll_1 rfl (lv_at hl 1 rfl) ?_
  refine mx_callR (r := .ref h) (c_F_filterAt G xo fa ma fi mk j h (hP.sub [0, 1, 2] rfl) hj hfi) hW (iv_F_addAll_2 G hx hb hown hW (va_recv hK hP (ci := 3) (q0 := 0) rfl rfl) [.int (nI j)] [] rfl) hml hl.1 (by rw [hb]; exact d_F_addAll_2) (cd_F_filterAt G hW) ⟨Nat.le_of_ble_eq_true rfl, Nat.le_of_ble_eq_true rfl⟩ rfl rfl (Nat.le_of_ble_eq_true rfl) (Nat.le_of_ble_eq_true rfl) (Nat.le_of_ble_eq_true rfl) ?_
  refine lv_astore (lv' := [(7, .ref h), (0, .ref xo), (1, .int (nI j)), (2, .long x), (4, .long st), (6, .int (nI nN))]) hx hb d_F_addAll_5 hl (by decide) rfl (fun ls hl => ?_)
  refine lv_iload hx hb d_F_addAll_7 (lv_at hl 5 rfl) ?_
  refine mx_callV (c_F_requireItems_ok G (nI nN) (wth_le hn4)) hW (iv_F_addAll_9 G hx hb hown hW [.int (nI nN)] [] rfl) hml hl.1 (by rw [hb]; exact d_F_addAll_9) (cd_F_requireItems G hW) ⟨Nat.le_of_ble_eq_true rfl, Nat.le_of_ble_eq_true rfl⟩ rfl rfl (Nat.le_of_ble_eq_true rfl) (Nat.le_of_ble_eq_true rfl) (Nat.le_of_ble_eq_true rfl) ?_
  refine lv_lload_n hx hb d_F_addAll_12 rfl (lv_at hl 3 rfl) ?_
  refine lv_lstore (lv' := [(8, .long x), (7, .ref h), (0, .ref xo), (1, .int (nI j)), (2, .long x), (4, .long st), (6, .int (nI nN))]) hx hb d_F_addAll_13 hl (by decide) rfl (fun ls hl => ?_)
  refine lv_iconst (v := (nI 0)) hx hb d_F_addAll_15 (by decide) ?_
  refine lv_istore (lv' := [(10, .int (nI 0)), (8, .long x), (7, .ref h), (0, .ref xo), (1, .int (nI j)), (2, .long x), (4, .long st), (6, .int (nI nN))]) hx hb d_F_addAll_16 hl (by decide) rfl (fun ls hl => ?_)
  have loop_18 : ∀ (k : Nat) (i : Nat) (xx : Int64) (n2 : Nat) (f2 : Nat → Nat), (i + k = nN) → (okS (3, A, B, nI n2, pv, c0, n2, f2)) → (aaS nN (3, A, B, nI n, pv, c0, n, f) x st = (i + (aaS k (3, A, B, nI n2, pv, c0, n2, f2) xx st).1, (aaS k (3, A, B, nI n2, pv, c0, n2, f2) xx st).2)) → ∀ (H : Heap) (locs : List Loc), va_P D vcl [(xo, .inr (3, [.ref fa, .ref ma])), (fa, aQ cF 4 fi), (ma, aQ cF 12 mk), (h, .inr (2, [.int (nI A), .int (nI B), .int (nI n2), .ref h1, .ref h2])), (h1, aN cI 256 f2), (h2, aI cI 256 g)] H → va_D (Aa [xo, fa, ma, h, h1, h2] H0.size) [(xo, .inr (3, [.ref fa, .ref ma])), (fa, aQ cF 4 fi), (ma, aQ cF 12 mk), (h, .inr (2, [.int (nI A), .int (nI B), .int (nI n2), .ref h1, .ref h2])), (h1, aN cI 256 f2), (h2, aI cI 256 g)] → va_S (Aa [xo, fa, ma, h, h1, h2] H0.size) H0 H locs → ∀ (ls : Array Slot), lv_has ls 11 [(10, .int (nI i)), (8, .long xx), (7, .ref h), (0, .ref xo), (1, .int (nI j)), (2, .long x), (4, .long st), (6, .int (nI nN))] → W p l e { frames := 7, cells := 0, slots := 0, locals := 160 } s m ([.ref xo, .int (nI j), .long x, .long st, .int (nI nN)] : List Value).toArray below meth c H locs 0 0 (MQx below (Rq s0 none (some (.int (nI (aaS nN (3, A, B, nI n, pv, c0, n, f) x st).1))) (fun H1 => ∃ n2 f2, (aaS nN (3, A, B, nI n, pv, c0, n, f) x st).2 = (3, A, B, nI n2, pv, c0, n2, f2) ∧ va_P D vcl [(xo, .inr (3, [.ref fa, .ref ma])), (fa, aQ cF 4 fi), (ma, aQ cF 12 mk), (h, .inr (2, [.int (nI A), .int (nI B), .int (nI n2), .ref h1, .ref h2])), (h1, aN cI 256 f2), (h2, aI cI 256 g)] H1)) s 0 0 (Aa [xo, fa, ma, h, h1, h2] H0.size)) (F0 m 18 ls []) := by
    intro k
    induction k with
    | zero =>
      intro i xx n2 f2 hk hok2 haa H locs hP hD hS ls hl
      refine lv_iload hx hb d_F_addAll_18 (lv_at hl 0 rfl) ?_
      refine lv_iload hx hb d_F_addAll_20 (lv_at hl 7 rfl) ?_
      refine lv_icmp_ge (tgt := 51) hx hb d_F_addAll_22 (by decide) (fun c_22 => ?_) (fun c_22 => absurd (nI_le (by omega) (by omega)) c_22)
      refine lv_iload hx hb d_F_addAll_51 (lv_at hl 7 rfl) ?_
      exact mx_iret hx hb hr hlk d_F_addAll_53 (Nat.le_of_ble_eq_true rfl) (Nat.le_of_ble_eq_true rfl) hS.2.2 (⟨by rw [haa]; show _ = Outcome.returned (some (Value.int (nI (i + 0)))); rw [Nat.add_zero, show i = nN by omega], n2, f2, by rw [haa]; rfl, hP⟩)
    | succ k ih_18 =>
      intro i xx n2 f2 hk hok2 haa H locs hP hD hS ls hl
      refine lv_iload hx hb d_F_addAll_18 (lv_at hl 0 rfl) ?_
      refine lv_iload hx hb d_F_addAll_20 (lv_at hl 7 rfl) ?_
      refine lv_icmp_ge (tgt := 51) hx hb d_F_addAll_22 (by decide) (fun c_22 => absurd c_22 (nI_ge (by omega) (by omega))) (fun c_22 => ?_)
      have hq := (okS_3.mp hok2).1
      have hA : A ≤ 8 := hq.2.1
      have hB1 : 1 ≤ B := by have := hq.2.2.1; omega
      have hB : B ≤ 20 := hq.2.2.2.1
      have hn := hq.n
      have hf := hq.lt28
      have hsr := hq.2.2.2.2.2.1
      have hfq := hq.q
      refine lv_aload hx hb d_F_addAll_25 (lv_at hl 2 rfl) ?_
      refine lv_lload hx hb d_F_addAll_27 (lv_at hl 1 rfl) ?_
      refine mx_callW (r := .int (bI (decide (n2 < 2 ^ A)))) (c_P_accept_R G h h1 h2 A B n2 f2 g xx (hP.sub [3, 4, 5] rfl) (hD.sub [3, 4, 5] rfl rfl) hA hB1 hB hn hf hsr) hW (iv_F_addAll_29_R G hx hb hown hW (va_recv hK hP (ci := 2) (q0 := 3) rfl rfl) [.long xx] [] rfl) hml hl.1 (by rw [hb]; exact d_F_addAll_29) (cd_P_accept G hW) ⟨Nat.le_of_ble_eq_true rfl, Nat.le_of_ble_eq_true rfl⟩ (Nat.le_of_ble_eq_true rfl) (Nat.le_of_ble_eq_true rfl) (Nat.le_of_ble_eq_true rfl) hS (Aa.mono (fun _ h => List.mem_append_right [xo, fa, ma] h) hS.1) (fun H locs hP2 _ hkp hS => ?_)
      have hP := va_P.join (ws1 := [(xo, .inr (3, [.ref fa, .ref ma])), (fa, aQ cF 4 fi), (ma, aQ cF 12 mk)]) (ws2 := [(h, .inr (2, [.int (nI A), .int (nI B), .int (nI n2), .ref h1, .ref h2])), (h1, aN cI 256 f2), (h2, aI cI 256 g)]) hP hD hP2 hkp rfl
      have hP : va_P D vcl [(xo, .inr (3, [.ref fa, .ref ma])), (fa, aQ cF 4 fi), (ma, aQ cF 12 mk), (h, .inr (2, [.int (nI A), .int (nI B), .int (nI (if n2 < 2 ^ A then n2 + 1 else n2)), .ref h1, .ref h2])), (h1, aN cI 256 (if n2 < 2 ^ A then insF f2 n2 (prN A B xx) else f2)), (h2, aI cI 256 g)] H := hP
      have hD : va_D (Aa [xo, fa, ma, h, h1, h2] H0.size) [(xo, .inr (3, [.ref fa, .ref ma])), (fa, aQ cF 4 fi), (ma, aQ cF 12 mk), (h, .inr (2, [.int (nI A), .int (nI B), .int (nI (if n2 < 2 ^ A then n2 + 1 else n2)), .ref h1, .ref h2])), (h1, aN cI 256 (if n2 < 2 ^ A then insF f2 n2 (prN A B xx) else f2)), (h2, aI cI 256 g)] := va_D.same2 [xo, fa, ma, h, h1, h2] hD rfl rfl
      refine lv_if_ne (tgt := 38) hx hb d_F_addAll_32 (by decide) (fun c_32 => ?_) (fun c_32 => ?_)
      · refine lv_lload hx hb d_F_addAll_38 (lv_at hl 1 rfl) ?_
        refine lv_lload hx hb d_F_addAll_40 (lv_at hl 6 rfl) ?_
        refine lv_ladd hx hb d_F_addAll_42 ?_
        refine lv_lstore (lv' := [(8, .long (xx + st)), (10, .int (nI i)), (7, .ref h), (0, .ref xo), (1, .int (nI j)), (2, .long x), (4, .long st), (6, .int (nI nN))]) hx hb d_F_addAll_43 hl (by decide) rfl (fun ls hl => ?_)
        refine lv_iinc (v := (nI (i + 1))) (lv' := [(10, .int (nI (i + 1))), (8, .long (xx + st)), (7, .ref h), (0, .ref xo), (1, .int (nI j)), (2, .long x), (4, .long st), (6, .int (nI nN))]) hx hb d_F_addAll_45 hl (k := 1) rfl (nI_1 _) (by decide) rfl (fun ls hl => ?_)
        refine lv_goto (tgt := 18) hx hb d_F_addAll_48 (by decide) ?_
        exact ih_18 (i + 1) ((xx + st)) ((if n2 < 2 ^ A then n2 + 1 else n2)) ((if n2 < 2 ^ A then insF f2 n2 (prN A B xx) else f2)) (by omega) (by have h9 := okS_add xx hok2 (fun h9 => by cases h9); rw [addS_3n] at h9; exact h9) (by rw [haa, aaS_t (by rw [addS_3n]; exact bI_t c_32), addS_3n]; simp only [Prod.mk.injEq, and_true]; omega) H locs hP hD hS ls (lv_sub hl [0, 1, 2, 3, 4, 5, 6, 7] rfl)
      · refine lv_iload hx hb d_F_addAll_35 (lv_at hl 0 rfl) ?_
        exact mx_iret hx hb hr hlk d_F_addAll_37 (Nat.le_of_ble_eq_true rfl) (Nat.le_of_ble_eq_true rfl) hS.2.2 (⟨by rw [haa, aaS_f (by rw [addS_3n]; exact bI_f c_32)]; rfl, (if n2 < 2 ^ A then n2 + 1 else n2), (if n2 < 2 ^ A then insF f2 n2 (prN A B xx) else f2), by rw [haa, aaS_f (by rw [addS_3n]; exact bI_f c_32), addS_3n], hP⟩)
  exact loop_18 (nN) (0) (x) (n) (f) (by omega) (hok) (by rw [Nat.zero_add]) H0 [] hP hD hS ls (lv_sub hl [0, 1, 2, 3, 4, 5, 6, 7] rfl)
