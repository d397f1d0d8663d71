set_option maxHeartbeats 4000000 in
set_option maxRecDepth 100000 in
theorem l_merge {p : Program} {l : Launch} {e : Env} {s : State} {m : MethodId} {args : Array Value} {below : List Frame} {meth : Method} {c : Code} {Z : State → Prop} {D : va_G} {cI cF cJ : ClassId} (G : Gx l s D cI cF cJ) {b0 L : Nat} {xs : Nat → Int32} (hx : p.tables.exec = Jvm.exec) (hb : c.code = code) (hml : c.maxLocals = 7) (hown : s.vm.findClass "FewBitsLaw" = some m.cls) (hXs : va_X b0 L xs s s.heap) (hbl : b0 < s.heap.size) (hL : L ≤ 3584) {xo fa ma hm a1 a2 a3 a4 a5 a6 a7 a8 a9 a10 a11 oa : Nat} {A0 : Nat → Prop} (hDm : va_D A0 (adM hm a1 a2 a3 a4 a5 a6 a7 a8 a9 a10 a11)) {i cells slots : Nat} {H : Heap} {ls : Array Slot} (hLI : LI s D cI cF cJ xo fa ma hm a1 a2 a3 a4 a5 a6 a7 a8 a9 a10 a11 oa H) (hi : i + 7 ≤ L) (hcl : cells + 4 ≤ room_1.cells) (hsl : slots + 1094 ≤ room_1.slots) (hl : lv_has ls 7 [(0, .ref b0), (1, .ref xo), (2, .ref hm), (3, .ref oa), (4, .int (nI i))]) (hend : ∀ (H2 : Heap) (ls : Array Slot), LI s D cI cF cJ xo fa ma hm a1 a2 a3 a4 a5 a6 a7 a8 a9 a10 a11 oa H2 → lv_has ls 7 [(0, .ref b0), (1, .ref xo), (2, .ref hm), (3, .ref oa), (4, .int (nI i))] → W p l e room_1 s m args below meth c H2 [] (cells + 4) (slots + 1094) Z (F0 m 1320 ls [])) : W p l e room_1 s m args below meth c H [] cells slots Z (F0 m 1160 ls []) := by
  have hW : s.WarmedH s.vm := State.WarmedH.refl s
  have hK := G.k (State.WarmedH.refl s)
  have hon := hLI.on
  obtain ⟨k, bv, P1, P2, hk5, hC1, hC2, hC3⟩ := arm_merge G xo fa ma hm a1 a2 a3 a4 a5 a6 a7 a8 a9 a10 a11 oa (xs (i + 1)) (xs (i + 2)) hDm hLI
  refine lv_aload_n hx hb d_L_law_1160 rfl (lv_at hl 1 rfl) ?_
  refine lv_aload_n hx hb d_L_law_1161 rfl (lv_at hl 0 rfl) ?_
  refine lv_iload hx hb d_L_law_1162 (lv_at hl 4 rfl) ?_
  refine lv_iconst (v := (nI 1)) hx hb d_L_law_1164 (by decide) ?_
  refine lv_iadd hx hb d_L_law_1165 ?_
  refine tp_i (y := (nI (i + 1))) (nI_add _ _) ?_
  refine sc_ld hx hb hXs hbl hon (j := i + 1) (by omega) hL d_L_law_1166 ?_
  refine lv_aload_n hx hb d_L_law_1167 rfl (lv_at hl 0 rfl) ?_
  refine lv_iload hx hb d_L_law_1168 (lv_at hl 4 rfl) ?_
  refine lv_iconst (v := (nI 2)) hx hb d_L_law_1170 (by decide) ?_
  refine lv_iadd hx hb d_L_law_1171 ?_
  refine tp_i (y := (nI (i + 2))) (nI_add _ _) ?_
  refine sc_ld hx hb hXs hbl hon (j := i + 2) (by omega) hL d_L_law_1172 ?_
  refine lv_aload_n hx hb d_L_law_1173 rfl (lv_at hl 3 rfl) ?_
  refine lw_callW hC1 hon (iv_L_law_1174 G hx hb hown (State.WarmedH.refl s) [.ref xo, .int (xs (i + 1)), .int (xs (i + 2)), .ref oa] [] rfl) hml hl.1 (by rw [hb]; exact d_L_law_1174) (cd_L_merge G (State.WarmedH.refl s)) ⟨Nat.le_of_ble_eq_true rfl, Nat.le_of_ble_eq_true rfl⟩ hcl hsl (Nat.le_of_ble_eq_true rfl) (fun H1 hp1 hon => ?_)
  obtain ⟨-, hob1, hC2⟩ := hC2 H1 hp1
  refine W.eq (g2 := F0 m 1177 ls [.int (nI k)]) rfl ?_
  refine lv_istore (lv' := [(5, .int (nI k)), (0, .ref b0), (1, .ref xo), (2, .ref hm), (3, .ref oa), (4, .int (nI i))]) hx hb d_L_law_1177 hl (by decide) rfl (fun ls hl => ?_)
  refine lv_aload_n hx hb d_L_law_1179 rfl (lv_at hl 3 rfl) ?_
  refine lv_aload_n hx hb d_L_law_1180 rfl (lv_at hl 1 rfl) ?_
  refine lv_iload hx hb d_L_law_1181 (lv_at hl 5 rfl) ?_
  refine lv_iconst (v := (nI 1)) hx hb d_L_law_1183 (by decide) ?_
  refine lv_iadd hx hb d_L_law_1184 ?_
  refine tp_i (y := (nI (i + 1))) (nI_add _ _) ?_
  refine sc_ld hx hb hXs hbl hon (j := i + 1) (by omega) hL d_L_law_1185 ?_
  refine lv_aload_n hx hb d_L_law_1186 rfl (lv_at hl 1 rfl) ?_
  refine lv_iload hx hb d_L_law_1187 (lv_at hl 5 rfl) ?_
  refine lv_iconst (v := (nI 2)) hx hb d_L_law_1189 (by decide) ?_
  refine lv_iadd hx hb d_L_law_1190 ?_
  refine tp_i (y := (nI (i + 2))) (nI_add _ _) ?_
  refine sc_ld hx hb hXs hbl hon (j := i + 2) (by omega) hL d_L_law_1191 ?_
  refine lw_callW hC2 hon (iv_L_law_1192 G hx hb hown (State.WarmedH.refl s) hob1 [.int (xs (i + 1)), .int (xs (i + 2))] [] rfl) hml hl.1 (by rw [hb]; exact d_L_law_1192) (cd_M_merge G (State.WarmedH.refl s)) ⟨Nat.le_of_ble_eq_true rfl, Nat.le_of_ble_eq_true rfl⟩ hcl hsl (Nat.le_of_ble_eq_true rfl) (fun H2 hp2 hon => ?_)
  obtain ⟨hob2, hC4, hLI2, g1, hPo2, hg1⟩ := hC3 H2 hp2
  refine W.eq (g2 := F0 m 1195 ls [.int bv]) rfl ?_
  refine lv_istore (lv' := [(6, .int bv), (5, .int (nI k)), (0, .ref b0), (1, .ref xo), (2, .ref hm), (3, .ref oa), (4, .int (nI i))]) hx hb d_L_law_1195 hl (by decide) rfl (fun ls hl => ?_)
  refine lv_aload_n hx hb d_L_law_1197 rfl (lv_at hl 4 rfl) ?_
  refine mx_callR (r := .int (nI k)) hC4 (State.WarmedH.refl s) (iv_L_law_1198 G hx hb hown (State.WarmedH.refl s) hob2 [] [] rfl) hml hl.1 (by rw [hb]; exact d_L_law_1198) (cd_M_thrown G (State.WarmedH.refl s)) ⟨Nat.le_of_ble_eq_true rfl, Nat.le_of_ble_eq_true rfl⟩ rfl rfl hcl hsl (Nat.le_of_ble_eq_true rfl) ?_
  refine lv_iload hx hb d_L_law_1201 (lv_at hl 1 rfl) ?_
  refine lv_icmp_eq (tgt := 1208) hx hb d_L_law_1203 (by decide) (fun c_1203 => ?_) (fun c_1203 => absurd (rfl) c_1203)
  refine lv_iload hx hb d_L_law_1208 (lv_at hl 1 rfl) ?_
  refine lv_if_ne (tgt := 1225) hx hb d_L_law_1210 (by decide) (fun c_1210 => ?_) (fun c_1210 => ?_)
  · refine lv_goto (tgt := 1320) hx hb d_L_law_1225 (by decide) ?_
    exact hend _ _ hLI2 (lv_sub hl [2, 3, 4, 5, 6] rfl)
  · have hk0 : k = 0 := nI_zero hk5 c_1210
    refine lv_aload_n hx hb d_L_law_1213 rfl (lv_at hl 5 rfl) ?_
    refine lv_iconst (v := (nI 0)) hx hb d_L_law_1214 (by decide) ?_
    refine la_ld (x := Int32.toInt64 bv) hx hb hK hPo2 (hg1 hk0) d_L_law_1215 ?_
    refine lv_iload hx hb d_L_law_1216 (lv_at hl 0 rfl) ?_
    refine lv_i2l hx hb d_L_law_1218 rfl ?_
    refine W.lcmp hx hb d_L_law_1219 ?_
    refine lv_if_eq (tgt := 1225) hx hb d_L_law_1220 (by decide) (fun c_1220 => ?_) (fun c_1220 => absurd ((lg_cmp_eq _ _).mpr rfl) c_1220)
    refine lv_goto (tgt := 1320) hx hb d_L_law_1225 (by decide) ?_
    exact hend _ _ hLI2 (lv_sub hl [2, 3, 4, 5, 6] rfl)

set_option maxHeartbeats 4000000 in
set_option maxRecDepth 100000 in
theorem l_grow {p : Program} {l : Launch} {e : Env} {s : State} {m : MethodId} {args : Array Value} {below : List Frame} {meth : Method} {c : Code} {Z : State → Prop} {D : va_G} {cI cF cJ : ClassId} (G : Gx l s D cI cF cJ) {b0 L : Nat} {xs : Nat → Int32} (hx : p.tables.exec = Jvm.exec) (hb : c.code = code) (hml : c.maxLocals = 7) (hown : s.vm.findClass "FewBitsLaw" = some m.cls) (hXs : va_X b0 L xs s s.heap) (hbl : b0 < s.heap.size) (hL : L ≤ 3584) {xo fa ma hm a1 a2 a3 a4 a5 a6 a7 a8 a9 a10 a11 oa : Nat} {A0 : Nat → Prop} (hDm : va_D A0 (adM hm a1 a2 a3 a4 a5 a6 a7 a8 a9 a10 a11)) {i cells slots : Nat} {H : Heap} {ls : Array Slot} (hLI : LI s D cI cF cJ xo fa ma hm a1 a2 a3 a4 a5 a6 a7 a8 a9 a10 a11 oa H) (hi : i + 7 ≤ L) (hcl : cells + 4 ≤ room_1.cells) (hsl : slots + 1094 ≤ room_1.slots) (hl : lv_has ls 7 [(0, .ref b0), (1, .ref xo), (2, .ref hm), (3, .ref oa), (4, .int (nI i))]) (hend : ∀ (H2 : Heap) (ls : Array Slot), LI s D cI cF cJ xo fa ma hm a1 a2 a3 a4 a5 a6 a7 a8 a9 a10 a11 oa H2 → lv_has ls 7 [(0, .ref b0), (1, .ref xo), (2, .ref hm), (3, .ref oa), (4, .int (nI i))] → W p l e room_1 s m args below meth c H2 [] (cells + 4) (slots + 1094) Z (F0 m 1320 ls [])) : W p l e room_1 s m args below meth c H [] cells slots Z (F0 m 1228 ls []) := by
  have hW : s.WarmedH s.vm := State.WarmedH.refl s
  have hK := G.k (State.WarmedH.refl s)
  have hon := hLI.on
  obtain ⟨k, P1, P2, hk5, hC1, hC2, hC3⟩ := arm_grow G xo fa ma hm a1 a2 a3 a4 a5 a6 a7 a8 a9 a10 a11 oa (xs (i + 1)) hDm hLI
  refine lv_aload_n hx hb d_L_law_1228 rfl (lv_at hl 1 rfl) ?_
  refine lv_aload_n hx hb d_L_law_1229 rfl (lv_at hl 0 rfl) ?_
  refine lv_iload hx hb d_L_law_1230 (lv_at hl 4 rfl) ?_
  refine lv_iconst (v := (nI 1)) hx hb d_L_law_1232 (by decide) ?_
  refine lv_iadd hx hb d_L_law_1233 ?_
  refine tp_i (y := (nI (i + 1))) (nI_add _ _) ?_
  refine sc_ld hx hb hXs hbl hon (j := i + 1) (by omega) hL d_L_law_1234 ?_
  refine lw_callW hC1 hon (iv_L_law_1235 G hx hb hown (State.WarmedH.refl s) [.ref xo, .int (xs (i + 1))] [] rfl) hml hl.1 (by rw [hb]; exact d_L_law_1235) (cd_L_grow G (State.WarmedH.refl s)) ⟨Nat.le_of_ble_eq_true rfl, Nat.le_of_ble_eq_true rfl⟩ hcl hsl (Nat.le_of_ble_eq_true rfl) (fun H1 hp1 hon => ?_)
  obtain ⟨-, hob1, hC2⟩ := hC2 H1 hp1
  refine W.eq (g2 := F0 m 1238 ls [.int (nI k)]) rfl ?_
  refine lv_istore (lv' := [(5, .int (nI k)), (0, .ref b0), (1, .ref xo), (2, .ref hm), (3, .ref oa), (4, .int (nI i))]) hx hb d_L_law_1238 hl (by decide) rfl (fun ls hl => ?_)
  refine lv_aload_n hx hb d_L_law_1240 rfl (lv_at hl 3 rfl) ?_
  refine lv_aload_n hx hb d_L_law_1241 rfl (lv_at hl 1 rfl) ?_
  refine lv_iload hx hb d_L_law_1242 (lv_at hl 5 rfl) ?_
  refine lv_iconst (v := (nI 1)) hx hb d_L_law_1244 (by decide) ?_
  refine lv_iadd hx hb d_L_law_1245 ?_
  refine tp_i (y := (nI (i + 1))) (nI_add _ _) ?_
  refine sc_ld hx hb hXs hbl hon (j := i + 1) (by omega) hL d_L_law_1246 ?_
  refine lw_callN hC2 hon (iv_L_law_1247 G hx hb hown (State.WarmedH.refl s) hob1 [.int (xs (i + 1))] [] rfl) hml hl.1 (by rw [hb]; exact d_L_law_1247) (cd_M_grow G (State.WarmedH.refl s)) ⟨Nat.le_of_ble_eq_true rfl, Nat.le_of_ble_eq_true rfl⟩ hcl hsl (Nat.le_of_ble_eq_true rfl) (fun H2 hp2 hon => ?_)
  obtain ⟨hob2, hC4, hLI2⟩ := hC3 H2 hp2
  refine W.eq (g2 := F0 m 1250 ls []) rfl ?_
  refine lv_aload_n hx hb d_L_law_1250 rfl (lv_at hl 3 rfl) ?_
  refine mx_callR (r := .int (nI k)) hC4 (State.WarmedH.refl s) (iv_L_law_1251 G hx hb hown (State.WarmedH.refl s) hob2 [] [] rfl) hml hl.1 (by rw [hb]; exact d_L_law_1251) (cd_M_thrown G (State.WarmedH.refl s)) ⟨Nat.le_of_ble_eq_true rfl, Nat.le_of_ble_eq_true rfl⟩ rfl rfl hcl hsl (Nat.le_of_ble_eq_true rfl) ?_
  refine lv_iload hx hb d_L_law_1254 (lv_at hl 0 rfl) ?_
  refine lv_icmp_eq (tgt := 1261) hx hb d_L_law_1256 (by decide) (fun c_1256 => ?_) (fun c_1256 => absurd (rfl) c_1256)
  refine lv_goto (tgt := 1320) hx hb d_L_law_1261 (by decide) ?_
  exact hend _ _ hLI2 (lv_sub hl [1, 2, 3, 4, 5] rfl)

set_option maxHeartbeats 4000000 in
set_option maxRecDepth 100000 in
theorem l_clear {p : Program} {l : Launch} {e : Env} {s : State} {m : MethodId} {args : Array Value} {below : List Frame} {meth : Method} {c : Code} {Z : State → Prop} {D : va_G} {cI cF cJ : ClassId} (G : Gx l s D cI cF cJ) {b0 L : Nat} {xs : Nat → Int32} (hx : p.tables.exec = Jvm.exec) (hb : c.code = code) (hml : c.maxLocals = 7) (hown : s.vm.findClass "FewBitsLaw" = some m.cls) (hXs : va_X b0 L xs s s.heap) (hbl : b0 < s.heap.size) (hL : L ≤ 3584) {xo fa ma hm a1 a2 a3 a4 a5 a6 a7 a8 a9 a10 a11 oa : Nat} {A0 : Nat → Prop} (hDm : va_D A0 (adM hm a1 a2 a3 a4 a5 a6 a7 a8 a9 a10 a11)) {i cells slots : Nat} {H : Heap} {ls : Array Slot} (hLI : LI s D cI cF cJ xo fa ma hm a1 a2 a3 a4 a5 a6 a7 a8 a9 a10 a11 oa H) (hi : i + 7 ≤ L) (hcl : cells + 4 ≤ room_1.cells) (hsl : slots + 1094 ≤ room_1.slots) (hl : lv_has ls 7 [(0, .ref b0), (1, .ref xo), (2, .ref hm), (3, .ref oa), (4, .int (nI i))]) (hend : ∀ (H2 : Heap) (ls : Array Slot), LI s D cI cF cJ xo fa ma hm a1 a2 a3 a4 a5 a6 a7 a8 a9 a10 a11 oa H2 → lv_has ls 7 [(0, .ref b0), (1, .ref xo), (2, .ref hm), (3, .ref oa), (4, .int (nI i))] → W p l e room_1 s m args below meth c H2 [] (cells + 4) (slots + 1094) Z (F0 m 1320 ls [])) : W p l e room_1 s m args below meth c H [] cells slots Z (F0 m 1264 ls []) := by
  have hW : s.WarmedH s.vm := State.WarmedH.refl s
  have hK := G.k (State.WarmedH.refl s)
  have hon := hLI.on
  obtain ⟨k, bv, P1, P2, hk5, hC1, hC2, hC3⟩ := arm_clear G xo fa ma hm a1 a2 a3 a4 a5 a6 a7 a8 a9 a10 a11 oa (xs (i + 1)) hDm hLI
  refine lv_aload_n hx hb d_L_law_1264 rfl (lv_at hl 1 rfl) ?_
  refine lv_aload_n hx hb d_L_law_1265 rfl (lv_at hl 0 rfl) ?_
  refine lv_iload hx hb d_L_law_1266 (lv_at hl 4 rfl) ?_
  refine lv_iconst (v := (nI 1)) hx hb d_L_law_1268 (by decide) ?_
  refine lv_iadd hx hb d_L_law_1269 ?_
  refine tp_i (y := (nI (i + 1))) (nI_add _ _) ?_
  refine sc_ld hx hb hXs hbl hon (j := i + 1) (by omega) hL d_L_law_1270 ?_
  refine lv_aload_n hx hb d_L_law_1271 rfl (lv_at hl 3 rfl) ?_
  refine lw_callW hC1 hon (iv_L_law_1272 G hx hb hown (State.WarmedH.refl s) [.ref xo, .int (xs (i + 1)), .ref oa] [] rfl) hml hl.1 (by rw [hb]; exact d_L_law_1272) (cd_L_clear G (State.WarmedH.refl s)) ⟨Nat.le_of_ble_eq_true rfl, Nat.le_of_ble_eq_true rfl⟩ hcl hsl (Nat.le_of_ble_eq_true rfl) (fun H1 hp1 hon => ?_)
  obtain ⟨-, hob1, hC2⟩ := hC2 H1 hp1
  refine W.eq (g2 := F0 m 1275 ls [.int (nI k)]) rfl ?_
  refine lv_istore (lv' := [(5, .int (nI k)), (0, .ref b0), (1, .ref xo), (2, .ref hm), (3, .ref oa), (4, .int (nI i))]) hx hb d_L_law_1275 hl (by decide) rfl (fun ls hl => ?_)
  refine lv_aload_n hx hb d_L_law_1277 rfl (lv_at hl 3 rfl) ?_
  refine lv_aload_n hx hb d_L_law_1278 rfl (lv_at hl 1 rfl) ?_
  refine lv_iload hx hb d_L_law_1279 (lv_at hl 5 rfl) ?_
  refine lv_iconst (v := (nI 1)) hx hb d_L_law_1281 (by decide) ?_
  refine lv_iadd hx hb d_L_law_1282 ?_
  refine tp_i (y := (nI (i + 1))) (nI_add _ _) ?_
  refine sc_ld hx hb hXs hbl hon (j := i + 1) (by omega) hL d_L_law_1283 ?_
  refine lw_callW hC2 hon (iv_L_law_1284 G hx hb hown (State.WarmedH.refl s) hob1 [.int (xs (i + 1))] [] rfl) hml hl.1 (by rw [hb]; exact d_L_law_1284) (cd_M_clear G (State.WarmedH.refl s)) ⟨Nat.le_of_ble_eq_true rfl, Nat.le_of_ble_eq_true rfl⟩ hcl hsl (Nat.le_of_ble_eq_true rfl) (fun H2 hp2 hon => ?_)
  obtain ⟨hob2, hC4, hLI2, g1, hPo2, hg1⟩ := hC3 H2 hp2
  refine W.eq (g2 := F0 m 1287 ls [.int bv]) rfl ?_
  refine lv_istore (lv' := [(6, .int bv), (5, .int (nI k)), (0, .ref b0), (1, .ref xo), (2, .ref hm), (3, .ref oa), (4, .int (nI i))]) hx hb d_L_law_1287 hl (by decide) rfl (fun ls hl => ?_)
  refine lv_aload_n hx hb d_L_law_1289 rfl (lv_at hl 4 rfl) ?_
  refine mx_callR (r := .int (nI k)) hC4 (State.WarmedH.refl s) (iv_L_law_1290 G hx hb hown (State.WarmedH.refl s) hob2 [] [] rfl) hml hl.1 (by rw [hb]; exact d_L_law_1290) (cd_M_thrown G (State.WarmedH.refl s)) ⟨Nat.le_of_ble_eq_true rfl, Nat.le_of_ble_eq_true rfl⟩ rfl rfl hcl hsl (Nat.le_of_ble_eq_true rfl) ?_
  refine lv_iload hx hb d_L_law_1293 (lv_at hl 1 rfl) ?_
  refine lv_icmp_eq (tgt := 1300) hx hb d_L_law_1295 (by decide) (fun c_1295 => ?_) (fun c_1295 => absurd (rfl) c_1295)
  refine lv_iload hx hb d_L_law_1300 (lv_at hl 1 rfl) ?_
  refine lv_if_ne (tgt := 1317) hx hb d_L_law_1302 (by decide) (fun c_1302 => ?_) (fun c_1302 => ?_)
  · refine lv_goto (tgt := 1320) hx hb d_L_law_1317 (by decide) ?_
    exact hend _ _ hLI2 (lv_sub hl [2, 3, 4, 5, 6] rfl)
  · have hk0 : k = 0 := nI_zero hk5 c_1302
    refine lv_aload_n hx hb d_L_law_1305 rfl (lv_at hl 5 rfl) ?_
    refine lv_iconst (v := (nI 0)) hx hb d_L_law_1306 (by decide) ?_
    refine la_ld (x := Int32.toInt64 bv) hx hb hK hPo2 (hg1 hk0) d_L_law_1307 ?_
    refine lv_iload hx hb d_L_law_1308 (lv_at hl 0 rfl) ?_
    refine lv_i2l hx hb d_L_law_1310 rfl ?_
    refine W.lcmp hx hb d_L_law_1311 ?_
    refine lv_if_eq (tgt := 1317) hx hb d_L_law_1312 (by decide) (fun c_1312 => ?_) (fun c_1312 => absurd ((lg_cmp_eq _ _).mpr rfl) c_1312)
    refine lv_goto (tgt := 1320) hx hb d_L_law_1317 (by decide) ?_
    exact hend _ _ hLI2 (lv_sub hl [2, 3, 4, 5, 6] rfl)
