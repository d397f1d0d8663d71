set_option maxHeartbeats 8000000 in
set_option maxRecDepth 100000 in
theorem whole_start {p : Program} {e : Env} {s : State} {m : MethodId} {below : List Frame} {meth : Method} {c : Code} (l : Launch) (htr : l.stackTraces = false) {b L : Nat} {xs : Nat → Int32} (hL : L ≤ 3584) (C0 : lw_At p s m meth c b L xs) : W p l e room_1 s m #[Value.ref b] below meth c s.heap [] 0 0 (lw_Z below #[Value.ref b] s) (entryFrame m ([Value.ref b] : List Value).toArray 7) := by
  obtain ⟨hx, hb, hr, hml, hown, hts, hXs, hbl, hlk, hgv⟩ := C0
  have hown : s.vm.findClass "FewBitsLaw" = some m.cls := hown
  obtain ⟨D, cI, cF, cJ, G⟩ := gx_start htr hts hgv
  have hW : s.WarmedH s.vm := State.WarmedH.refl s
  have hK := G.k hW
  have hA : ∀ q : Nat, s.heap.size ≤ q → (fun q : Nat => s.heap.size ≤ q) q := fun _ h => h
  have hS : va_S (fun q : Nat => s.heap.size ≤ q) s.heap s.heap [] := va_S.rf
  have hP : va_P D vcl [] s.heap := fun k q h => by simp at h
  have hD : va_D (fun q : Nat => s.heap.size ≤ q) [] := ⟨fun i j p q h => by simp at h, fun k q h => by simp at h⟩
  have hl := lv_entry ([.ref b]) (n := 7) (Nat.le_of_ble_eq_true rfl)
  rw [lg_entry_eq]
  generalize (lg_sl ([.ref b]) ++ List.replicate (7 - (lg_sl ([.ref b])).length) Slot.unset).toArray = ls at hl ⊢
  have hl : lv_has ls 7 [(0, .ref b)] := hl
  refine va_new (D := D) (ci := 3) (C := R_F) (T := T_F) (N := 2) (fs := [.null, .null]) hx hb (us_F G hW) (fun _ h => h) t_F to_F hown (G.1.at 18 rfl rfl _ hW) (G.1.at 19 rfl rfl _ hW) (G.1.at 1 rfl rfl _ hW) hK hP hD hS hA rfl (by decide +kernel) (Nat.le_of_ble_eq_true rfl) (Nat.le_of_ble_eq_true rfl) d_L_law_0 (fun xo H hP hD hS => ?_)
  have hP : va_P D vcl [(xo, .inr (3, [.null, .null]))] H := hP
  have hD : va_D (fun q : Nat => s.heap.size ≤ q) [(xo, .inr (3, [.null, .null]))] := hD
  have hon : onS s H := fun q hq => hS.2.1 q hq (Nat.not_le.mpr hq)
  have hxo : s.heap.size ≤ xo := hD.2 0 _ rfl
  have hF1 : ∀ q, Aa [xo] H.size q → s.heap.size ≤ q := fun q h => h.elim (fun h1 => by rw [List.mem_singleton.mp h1]; exact hxo) (fun h1 => Nat.le_trans hon.le h1)
  refine lv_dup hx hb d_L_law_3 rfl ?_
  refine lw_callN (Mx.mono (c_F_init G xo hP hD) (Nat.le_refl _) (Nat.le_refl _) (Nat.le_refl _) (Nat.le_refl _) hF1 (fun o H1 _ _ hq => hq)) hon (iv_L_law_4 G hx hb hown hW xo [] [.ref xo] rfl) hml hl.1 (by rw [hb]; exact d_L_law_4) (cd_F_init G hW) ⟨(Nat.le_of_ble_eq_true rfl), (Nat.le_of_ble_eq_true rfl)⟩ (Nat.le_of_ble_eq_true rfl) (Nat.le_of_ble_eq_true rfl) (Nat.le_of_ble_eq_true rfl) (fun H1 hp1 hon1 => ?_)
  obtain ⟨fa, ma, hP1, hD1⟩ := hp1
  have hP1 : va_P D vcl (wX cF xo fa ma) H1 := hP1
  have hD1 : va_D (fun q : Nat => s.heap.size ≤ q) (wX cF xo fa ma) := hD1.weaken (fun k q _ h => hF1 _ h)
  refine lv_astore_n (lv' := [(1, .ref xo), (0, .ref b)]) hx hb d_L_law_7 rfl hl (by decide) rfl (fun ls hl => ?_)
  refine va_new (D := D) (ci := 4) (C := R_M) (T := T_M) (N := 12) (fs := [.int 0, .null, .null, .null, .null, .null, .null, .null, .null, .null, .null, .null]) hx hb (us_M G hW) (fun _ h => h) t_M to_M hown (G.1.at 647 rfl rfl _ hW) (G.1.at 648 rfl rfl _ hW) (G.1.at 2 rfl rfl _ hW) hK hP1 hD1 (sc_S hon1) hA rfl (by decide +kernel) (Nat.le_of_ble_eq_true rfl) (Nat.le_of_ble_eq_true rfl) d_L_law_8 (fun hm H2 hP2 hD2 hS2 => ?_)
  have hon2 : onS s H2 := fun q hq => hS2.2.1 q hq (Nat.not_le.mpr hq)
  have hP2 : va_P D vcl (wX cF xo fa ma ++ [(hm, .inr (4, [.int 0, .null, .null, .null, .null, .null, .null, .null, .null, .null, .null, .null]))]) H2 := hP2
  have hD2 : va_D (fun q : Nat => s.heap.size ≤ q) (wX cF xo fa ma ++ [(hm, .inr (4, [.int 0, .null, .null, .null, .null, .null, .null, .null, .null, .null, .null, .null]))]) := hD2
  have hPx2 : va_P D vcl (wX cF xo fa ma) H2 := hP2.sub [0, 1, 2] rfl
  have hPm2 : va_P D vcl [(hm, .inr (4, [.int 0, .null, .null, .null, .null, .null, .null, .null, .null, .null, .null, .null]))] H2 := hP2.sub [3] rfl
  have hDm2 : va_D (fun q : Nat => s.heap.size ≤ q) [(hm, .inr (4, [.int 0, .null, .null, .null, .null, .null, .null, .null, .null, .null, .null, .null]))] := hD2.sub [3] (by decide) rfl
  have hhm : s.heap.size ≤ hm := hDm2.2 0 _ rfl
  have hxh : ∀ q, q ∈ (wX cF xo fa ma).map (·.1) → q ≠ hm := fun q h h9 => hD2.apart h (by rw [h9]; exact List.mem_singleton.mpr rfl)
  have hF2 : ∀ q, Aa [hm] H2.size q → s.heap.size ≤ q := fun q h => h.elim (fun h1 => by rw [List.mem_singleton.mp h1]; exact hhm) (fun h1 => Nat.le_trans hon2.le h1)
  refine lv_dup hx hb d_L_law_11 rfl ?_
  refine lw_callN (P := fun H3 => (∃ a1 a2 a3 a4 a5 a6 a7 a8 a9 a10 a11 : Nat, va_P D vcl (wM cI hm a1 a2 a3 a4 a5 a6 a7 a8 a9 a10 a11) H3 ∧ va_D (Aa [hm] H2.size) (wM cI hm a1 a2 a3 a4 a5 a6 a7 a8 a9 a10 a11)) ∧ va_P D vcl (wX cF xo fa ma) H3) (Mx.mono (c_M_init G hm hPm2 hDm2) (Nat.le_refl _) (Nat.le_refl _) (Nat.le_refl _) (Nat.le_refl _) hF2 (fun o H3 _ hk hq => ⟨hq.1, hq.2, hPx2.kept (fun k x hx9 => hk x.1 (hPx2 k x hx9).lt (fun h => ?_))⟩)) hon2 (iv_L_law_12 G hx hb hown hW hm [] [.ref hm] rfl) hml hl.1 (by rw [hb]; exact d_L_law_12) (cd_M_init G hW) ⟨(Nat.le_of_ble_eq_true rfl), (Nat.le_of_ble_eq_true rfl)⟩ (Nat.le_of_ble_eq_true rfl) (Nat.le_of_ble_eq_true rfl) (Nat.le_of_ble_eq_true rfl) (fun H3 hp3 hon3 => ?_)
  · have h9 : x.1 ∈ (wX cF xo fa ma).map (·.1) := List.mem_map.mpr ⟨x, List.mem_of_getElem? hx9, rfl⟩
    rcases h with h | h
    · exact hxh _ h9 (List.mem_singleton.mp h)
    · have := (hPx2 k x hx9).lt
      omega
  obtain ⟨⟨a1, a2, a3, a4, a5, a6, a7, a8, a9, a10, a11, hP3, hD3⟩, hPx3⟩ := hp3
  have hDj : va_D (fun q : Nat => s.heap.size ≤ q) (wX cF xo fa ma ++ wM cI hm a1 a2 a3 a4 a5 a6 a7 a8 a9 a10 a11) := (va_D.join2 (A1 := fun q => q < H2.size ∧ q ≠ hm ∧ s.heap.size ≤ q) ⟨hD1.1, fun k x hx9 => ⟨(hPx2 k x hx9).lt, hxh _ (List.mem_map.mpr ⟨x, List.mem_of_getElem? hx9, rfl⟩), hD1.2 k x hx9⟩⟩ hD3 (fun q h1 h2 => by
    rcases h2 with h2 | h2
    · exact h1.2.1 (List.mem_singleton.mp h2)
    · have := h1.1
      omega)).weaken (fun k q _ h => h.elim (fun h1 => h1.2.2) (hF2 _))
  refine lv_astore_n (lv' := [(2, .ref hm), (1, .ref xo), (0, .ref b)]) hx hb d_L_law_15 rfl hl (by decide) rfl (fun ls hl => ?_)
  refine lv_iconst (v := nI 1) hx hb d_L_law_16 (by decide) ?_
  refine na_l (N := 1) hx hb (G.1.at 836 rfl rfl _ hW) hK (va_P.app hPx3 hP3) hDj (sc_S hon3) hA (by decide) (Nat.le_of_ble_eq_true rfl) (Nat.le_of_ble_eq_true rfl) d_L_law_17 (fun oa H4 hP4 hD4 hS4 => ?_)
  have hon4 : onS s H4 := fun q hq => hS4.2.1 q hq (Nat.not_le.mpr hq)
  refine lv_astore_n (lv' := [(3, .ref oa), (2, .ref hm), (1, .ref xo), (0, .ref b)]) hx hb d_L_law_19 rfl hl (by decide) rfl (fun ls hl => ?_)
  refine lv_iconst (v := nI 0) hx hb d_L_law_20 (by decide) ?_
  refine lv_istore (lv' := [(4, .int (nI 0)), (3, .ref oa), (2, .ref hm), (1, .ref xo), (0, .ref b)]) hx hb d_L_law_21 hl (by decide) rfl (fun ls hl => ?_)
  refine W.widen (k := 16) (n := 6463) (Nat.le_of_ble_eq_true rfl) (Nat.le_of_ble_eq_true rfl) ?_
  have hPx4 : va_P D vcl (wX cF xo fa ma) H4 := hP4.sub [0, 1, 2] rfl
  have hPm4 : va_P D vcl (wM cI hm a1 a2 a3 a4 a5 a6 a7 a8 a9 a10 a11) H4 := hP4.sub [3, 4, 5, 6, 7, 8, 9, 10, 11, 12, 13, 14] rfl
  have hPo4 : va_P D vcl [(oa, aJ cJ 1 (fun _ => 0))] H4 := hP4.sub [15] rfl
  have hDm : va_D (Aa [hm] H2.size) (adM hm a1 a2 a3 a4 a5 a6 a7 a8 a9 a10 a11) := va_D.same2 [hm, a1, a2, a3, a4, a5, a6, a7, a8, a9, a10, a11] hD3 rfl rfl
  exact l_loop G hx hb hml hown hXs hbl hL hDm hr hlk 512 0 16 6463 H4 ls (by omega) (by omega) (by omega) (by omega) (li_start hPx4 hPm4 hPo4 hon4 hDj hD4) (lv_sub hl [4, 3, 2, 1, 0] rfl)
