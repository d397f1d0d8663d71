set_option maxHeartbeats 4000000 in
set_option maxRecDepth 100000 in
theorem l_mix {p : Program} {l : Launch} {e : Env} {s : State} {m : MethodId} {args : Array Value} {below : List Frame} {meth : Method} {c : Code} {Z : State → Prop} {D : va_G} {cI cF cJ : ClassId} (G : Gx l s D cI cF cJ) {b0 L : Nat} {xs : Nat → Int32} (hx : p.tables.exec = Jvm.exec) (hb : c.code = code) (hml : c.maxLocals = 7) (hown : s.vm.findClass "FewBitsLaw" = some m.cls) (hXs : va_X b0 L xs s s.heap) (hbl : b0 < s.heap.size) (hL : L ≤ 3584) {xo fa ma hm a1 a2 a3 a4 a5 a6 a7 a8 a9 a10 a11 oa : Nat} {A0 : Nat → Prop} (hDm : va_D A0 (adM hm a1 a2 a3 a4 a5 a6 a7 a8 a9 a10 a11)) {i cells slots : Nat} {H : Heap} {ls : Array Slot} (hLI : LI s D cI cF cJ xo fa ma hm a1 a2 a3 a4 a5 a6 a7 a8 a9 a10 a11 oa H) (hi : i + 7 ≤ L) (hcl : cells + 4 ≤ room_1.cells) (hsl : slots + 1094 ≤ room_1.slots) (hl : lv_has ls 7 [(0, .ref b0), (1, .ref xo), (2, .ref hm), (3, .ref oa), (4, .int (nI i))]) (hend : ∀ (H2 : Heap) (ls : Array Slot), LI s D cI cF cJ xo fa ma hm a1 a2 a3 a4 a5 a6 a7 a8 a9 a10 a11 oa H2 → lv_has ls 7 [(0, .ref b0), (1, .ref xo), (2, .ref hm), (3, .ref oa), (4, .int (nI i))] → W p l e room_1 s m args below meth c H2 [] (cells + 4) (slots + 1094) Z (F0 m 1320 ls [])) : W p l e room_1 s m args below meth c H [] cells slots Z (F0 m 108 ls []) := by
  have hW : s.WarmedH s.vm := State.WarmedH.refl s
  have hK := G.k (State.WarmedH.refl s)
  have hon := hLI.on
  obtain ⟨r9, P1, P2, hob0, hC1, hC2, hC3⟩ := arm_mix G xo fa ma hm a1 a2 a3 a4 a5 a6 a7 a8 a9 a10 a11 oa (jn (xs (i + 1)) (xs (i + 2))) (xs (i + 3)) hDm hLI
  refine lv_aload_n hx hb d_L_law_108 rfl (lv_at hl 1 rfl) ?_
  refine lv_aload_n hx hb d_L_law_109 rfl (lv_at hl 0 rfl) ?_
  refine lv_iload hx hb d_L_law_110 (lv_at hl 4 rfl) ?_
  refine lv_iconst (v := (nI 1)) hx hb d_L_law_112 (by decide) ?_
  refine lv_iadd hx hb d_L_law_113 ?_
  refine tp_i (y := (nI (i + 1))) (nI_add _ _) ?_
  refine sc_ld hx hb hXs hbl hon (j := i + 1) (by omega) hL d_L_law_114 ?_
  refine lv_i2l hx hb d_L_law_115 rfl ?_
  refine lv_bipush (v := (nI 32)) hx hb d_L_law_116 (by decide) ?_
  refine lv_lshl hx hb d_L_law_118 rfl ?_
  refine lv_aload_n hx hb d_L_law_119 rfl (lv_at hl 0 rfl) ?_
  refine lv_iload hx hb d_L_law_120 (lv_at hl 4 rfl) ?_
  refine lv_iconst (v := (nI 2)) hx hb d_L_law_122 (by decide) ?_
  refine lv_iadd hx hb d_L_law_123 ?_
  refine tp_i (y := (nI (i + 2))) (nI_add _ _) ?_
  refine sc_ld hx hb hXs hbl hon (j := i + 2) (by omega) hL d_L_law_124 ?_
  refine lv_i2l hx hb d_L_law_125 rfl ?_
  refine lv_ldc2 (v := 4294967295) hx hb hown (G.1.at 835 rfl rfl _ hW) d_L_law_126 ?_
  refine lv_land hx hb d_L_law_129 ?_
  refine lv_lor hx hb d_L_law_130 ?_
  refine tp_l (y := (jn (xs (i + 1)) (xs (i + 2)))) rfl ?_
  refine lv_aload_n hx hb d_L_law_131 rfl (lv_at hl 0 rfl) ?_
  refine lv_iload hx hb d_L_law_132 (lv_at hl 4 rfl) ?_
  refine lv_iconst (v := (nI 3)) hx hb d_L_law_134 (by decide) ?_
  refine lv_iadd hx hb d_L_law_135 ?_
  refine tp_i (y := (nI (i + 3))) (nI_add _ _) ?_
  refine sc_ld hx hb hXs hbl hon (j := i + 3) (by omega) hL d_L_law_136 ?_
  refine lw_callW hC1 hon (iv_L_law_137 G hx hb hown (State.WarmedH.refl s) hob0 [.long (jn (xs (i + 1)) (xs (i + 2))), .int (xs (i + 3))] [] rfl) hml hl.1 (by rw [hb]; exact d_L_law_137) (cd_F_mix G (State.WarmedH.refl s)) ⟨Nat.le_of_ble_eq_true rfl, Nat.le_of_ble_eq_true rfl⟩ hcl hsl (Nat.le_of_ble_eq_true rfl) (fun H1 hp1 hon => ?_)
  obtain ⟨-, hob1, hC2⟩ := hC2 H1 hp1
  refine W.eq (g2 := F0 m 140 ls [.long r9]) rfl ?_
  refine lv_aload_n hx hb d_L_law_140 rfl (lv_at hl 2 rfl) ?_
  refine lv_aload_n hx hb d_L_law_141 rfl (lv_at hl 0 rfl) ?_
  refine lv_iload hx hb d_L_law_142 (lv_at hl 4 rfl) ?_
  refine lv_iconst (v := (nI 1)) hx hb d_L_law_144 (by decide) ?_
  refine lv_iadd hx hb d_L_law_145 ?_
  refine tp_i (y := (nI (i + 1))) (nI_add _ _) ?_
  refine sc_ld hx hb hXs hbl hon (j := i + 1) (by omega) hL d_L_law_146 ?_
  refine lv_i2l hx hb d_L_law_147 rfl ?_
  refine lv_bipush (v := (nI 32)) hx hb d_L_law_148 (by decide) ?_
  refine lv_lshl hx hb d_L_law_150 rfl ?_
  refine lv_aload_n hx hb d_L_law_151 rfl (lv_at hl 0 rfl) ?_
  refine lv_iload hx hb d_L_law_152 (lv_at hl 4 rfl) ?_
  refine lv_iconst (v := (nI 2)) hx hb d_L_law_154 (by decide) ?_
  refine lv_iadd hx hb d_L_law_155 ?_
  refine tp_i (y := (nI (i + 2))) (nI_add _ _) ?_
  refine sc_ld hx hb hXs hbl hon (j := i + 2) (by omega) hL d_L_law_156 ?_
  refine lv_i2l hx hb d_L_law_157 rfl ?_
  refine lv_ldc2 (v := 4294967295) hx hb hown (G.1.at 835 rfl rfl _ hW) d_L_law_158 ?_
  refine lv_land hx hb d_L_law_161 ?_
  refine lv_lor hx hb d_L_law_162 ?_
  refine tp_l (y := (jn (xs (i + 1)) (xs (i + 2)))) rfl ?_
  refine lv_aload_n hx hb d_L_law_163 rfl (lv_at hl 0 rfl) ?_
  refine lv_iload hx hb d_L_law_164 (lv_at hl 4 rfl) ?_
  refine lv_iconst (v := (nI 3)) hx hb d_L_law_166 (by decide) ?_
  refine lv_iadd hx hb d_L_law_167 ?_
  refine tp_i (y := (nI (i + 3))) (nI_add _ _) ?_
  refine sc_ld hx hb hXs hbl hon (j := i + 3) (by omega) hL d_L_law_168 ?_
  refine lw_callW hC2 hon (iv_L_law_169 G hx hb hown (State.WarmedH.refl s) hob1 [.long (jn (xs (i + 1)) (xs (i + 2))), .int (xs (i + 3))] [.long r9] rfl) hml hl.1 (by rw [hb]; exact d_L_law_169) (cd_M_mix G (State.WarmedH.refl s)) ⟨Nat.le_of_ble_eq_true rfl, Nat.le_of_ble_eq_true rfl⟩ hcl hsl (Nat.le_of_ble_eq_true rfl) (fun H2 hp2 hon => ?_)
  have hLI2 := hC3 H2 hp2
  refine W.eq (g2 := F0 m 172 ls [.long r9, .long r9]) rfl ?_
  refine W.lcmp hx hb d_L_law_172 ?_
  refine lv_if_eq (tgt := 1320) hx hb d_L_law_173 (by decide) (fun c_173 => ?_) (fun c_173 => absurd ((lg_cmp_eq _ _).mpr rfl) c_173)
  exact hend _ _ hLI2 (lv_sub hl [0, 1, 2, 3, 4] rfl)

set_option maxHeartbeats 4000000 in
set_option maxRecDepth 100000 in
theorem l_make {p : Program} {l : Launch} {e : Env} {s : State} {m : MethodId} {args : Array Value} {below : List Frame} {meth : Method} {c : Code} {Z : State → Prop} {D : va_G} {cI cF cJ : ClassId} (G : Gx l s D cI cF cJ) {b0 L : Nat} {xs : Nat → Int32} (hx : p.tables.exec = Jvm.exec) (hb : c.code = code) (hml : c.maxLocals = 7) (hown : s.vm.findClass "FewBitsLaw" = some m.cls) (hXs : va_X b0 L xs s s.heap) (hbl : b0 < s.heap.size) (hL : L ≤ 3584) {xo fa ma hm a1 a2 a3 a4 a5 a6 a7 a8 a9 a10 a11 oa : Nat} {A0 : Nat → Prop} (hDm : va_D A0 (adM hm a1 a2 a3 a4 a5 a6 a7 a8 a9 a10 a11)) {i cells slots : Nat} {H : Heap} {ls : Array Slot} (hLI : LI s D cI cF cJ xo fa ma hm a1 a2 a3 a4 a5 a6 a7 a8 a9 a10 a11 oa H) (hi : i + 7 ≤ L) (hcl : cells + 4 ≤ room_1.cells) (hsl : slots + 1094 ≤ room_1.slots) (hl : lv_has ls 7 [(0, .ref b0), (1, .ref xo), (2, .ref hm), (3, .ref oa), (4, .int (nI i))]) (hend : ∀ (H2 : Heap) (ls : Array Slot), LI s D cI cF cJ xo fa ma hm a1 a2 a3 a4 a5 a6 a7 a8 a9 a10 a11 oa H2 → lv_has ls 7 [(0, .ref b0), (1, .ref xo), (2, .ref hm), (3, .ref oa), (4, .int (nI i))] → W p l e room_1 s m args below meth c H2 [] (cells + 4) (slots + 1094) Z (F0 m 1320 ls [])) : W p l e room_1 s m args below meth c H [] cells slots Z (F0 m 178 ls []) := by
  have hW : s.WarmedH s.vm := State.WarmedH.refl s
  have hK := G.k (State.WarmedH.refl s)
  have hon := hLI.on
  obtain ⟨k, P1, P2, hk5, hC1, hC2, hC3⟩ := arm_make G xo fa ma hm a1 a2 a3 a4 a5 a6 a7 a8 a9 a10 a11 oa (xs (i + 1)) (xs (i + 2)) (xs (i + 3)) (xs (i + 4)) hDm hLI
  refine lv_aload_n hx hb d_L_law_178 rfl (lv_at hl 1 rfl) ?_
  refine lv_aload_n hx hb d_L_law_179 rfl (lv_at hl 0 rfl) ?_
  refine lv_iload hx hb d_L_law_180 (lv_at hl 4 rfl) ?_
  refine lv_iconst (v := (nI 1)) hx hb d_L_law_182 (by decide) ?_
  refine lv_iadd hx hb d_L_law_183 ?_
  refine tp_i (y := (nI (i + 1))) (nI_add _ _) ?_
  refine sc_ld hx hb hXs hbl hon (j := i + 1) (by omega) hL d_L_law_184 ?_
  refine lv_aload_n hx hb d_L_law_185 rfl (lv_at hl 0 rfl) ?_
  refine lv_iload hx hb d_L_law_186 (lv_at hl 4 rfl) ?_
  refine lv_iconst (v := (nI 2)) hx hb d_L_law_188 (by decide) ?_
  refine lv_iadd hx hb d_L_law_189 ?_
  refine tp_i (y := (nI (i + 2))) (nI_add _ _) ?_
  refine sc_ld hx hb hXs hbl hon (j := i + 2) (by omega) hL d_L_law_190 ?_
  refine lv_aload_n hx hb d_L_law_191 rfl (lv_at hl 0 rfl) ?_
  refine lv_iload hx hb d_L_law_192 (lv_at hl 4 rfl) ?_
  refine lv_iconst (v := (nI 3)) hx hb d_L_law_194 (by decide) ?_
  refine lv_iadd hx hb d_L_law_195 ?_
  refine tp_i (y := (nI (i + 3))) (nI_add _ _) ?_
  refine sc_ld hx hb hXs hbl hon (j := i + 3) (by omega) hL d_L_law_196 ?_
  refine lv_aload_n hx hb d_L_law_197 rfl (lv_at hl 0 rfl) ?_
  refine lv_iload hx hb d_L_law_198 (lv_at hl 4 rfl) ?_
  refine lv_iconst (v := (nI 4)) hx hb d_L_law_200 (by decide) ?_
  refine lv_iadd hx hb d_L_law_201 ?_
  refine tp_i (y := (nI (i + 4))) (nI_add _ _) ?_
  refine sc_ld hx hb hXs hbl hon (j := i + 4) (by omega) hL d_L_law_202 ?_
  refine lw_callW hC1 hon (iv_L_law_203 G hx hb hown (State.WarmedH.refl s) [.ref xo, .int (xs (i + 1)), .int (xs (i + 2)), .int (xs (i + 3)), .int (xs (i + 4))] [] rfl) hml hl.1 (by rw [hb]; exact d_L_law_203) (cd_L_make G (State.WarmedH.refl s)) ⟨Nat.le_of_ble_eq_true rfl, Nat.le_of_ble_eq_true rfl⟩ hcl hsl (Nat.le_of_ble_eq_true rfl) (fun H1 hp1 hon => ?_)
  obtain ⟨-, hob1, hC2⟩ := hC2 H1 hp1
  refine W.eq (g2 := F0 m 206 ls [.int (nI k)]) rfl ?_
  refine lv_istore (lv' := [(5, .int (nI k)), (0, .ref b0), (1, .ref xo), (2, .ref hm), (3, .ref oa), (4, .int (nI i))]) hx hb d_L_law_206 hl (by decide) rfl (fun ls hl => ?_)
  refine lv_aload_n hx hb d_L_law_208 rfl (lv_at hl 3 rfl) ?_
  refine lv_aload_n hx hb d_L_law_209 rfl (lv_at hl 1 rfl) ?_
  refine lv_iload hx hb d_L_law_210 (lv_at hl 5 rfl) ?_
  refine lv_iconst (v := (nI 1)) hx hb d_L_law_212 (by decide) ?_
  refine lv_iadd hx hb d_L_law_213 ?_
  refine tp_i (y := (nI (i + 1))) (nI_add _ _) ?_
  refine sc_ld hx hb hXs hbl hon (j := i + 1) (by omega) hL d_L_law_214 ?_
  refine lv_aload_n hx hb d_L_law_215 rfl (lv_at hl 1 rfl) ?_
  refine lv_iload hx hb d_L_law_216 (lv_at hl 5 rfl) ?_
  refine lv_iconst (v := (nI 2)) hx hb d_L_law_218 (by decide) ?_
  refine lv_iadd hx hb d_L_law_219 ?_
  refine tp_i (y := (nI (i + 2))) (nI_add _ _) ?_
  refine sc_ld hx hb hXs hbl hon (j := i + 2) (by omega) hL d_L_law_220 ?_
  refine lv_aload_n hx hb d_L_law_221 rfl (lv_at hl 1 rfl) ?_
  refine lv_iload hx hb d_L_law_222 (lv_at hl 5 rfl) ?_
  refine lv_iconst (v := (nI 3)) hx hb d_L_law_224 (by decide) ?_
  refine lv_iadd hx hb d_L_law_225 ?_
  refine tp_i (y := (nI (i + 3))) (nI_add _ _) ?_
  refine sc_ld hx hb hXs hbl hon (j := i + 3) (by omega) hL d_L_law_226 ?_
  refine lv_aload_n hx hb d_L_law_227 rfl (lv_at hl 1 rfl) ?_
  refine lv_iload hx hb d_L_law_228 (lv_at hl 5 rfl) ?_
  refine lv_iconst (v := (nI 4)) hx hb d_L_law_230 (by decide) ?_
  refine lv_iadd hx hb d_L_law_231 ?_
  refine tp_i (y := (nI (i + 4))) (nI_add _ _) ?_
  refine sc_ld hx hb hXs hbl hon (j := i + 4) (by omega) hL d_L_law_232 ?_
  refine lw_callN hC2 hon (iv_L_law_233 G hx hb hown (State.WarmedH.refl s) hob1 [.int (xs (i + 1)), .int (xs (i + 2)), .int (xs (i + 3)), .int (xs (i + 4))] [] rfl) hml hl.1 (by rw [hb]; exact d_L_law_233) (cd_M_make G (State.WarmedH.refl s)) ⟨Nat.le_of_ble_eq_true rfl, Nat.le_of_ble_eq_true rfl⟩ hcl hsl (Nat.le_of_ble_eq_true rfl) (fun H2 hp2 hon => ?_)
  obtain ⟨hob2, hC4, hLI2⟩ := hC3 H2 hp2
  refine W.eq (g2 := F0 m 236 ls []) rfl ?_
  refine lv_aload_n hx hb d_L_law_236 rfl (lv_at hl 3 rfl) ?_
  refine mx_callR (r := .int (nI k)) hC4 (State.WarmedH.refl s) (iv_L_law_237 G hx hb hown (State.WarmedH.refl s) hob2 [] [] rfl) hml hl.1 (by rw [hb]; exact d_L_law_237) (cd_M_thrown G (State.WarmedH.refl s)) ⟨Nat.le_of_ble_eq_true rfl, Nat.le_of_ble_eq_true rfl⟩ rfl rfl hcl hsl (Nat.le_of_ble_eq_true rfl) ?_
  refine lv_iload hx hb d_L_law_240 (lv_at hl 0 rfl) ?_
  refine lv_icmp_eq (tgt := 247) hx hb d_L_law_242 (by decide) (fun c_242 => ?_) (fun c_242 => absurd (rfl) c_242)
  refine lv_goto (tgt := 1320) hx hb d_L_law_247 (by decide) ?_
  exact hend _ _ hLI2 (lv_sub hl [1, 2, 3, 4, 5] rfl)

set_option maxHeartbeats 4000000 in
set_option maxRecDepth 100000 in
theorem l_add {p : Program} {l : Launch} {e : Env} {s : State} {m : MethodId} {args : Array Value} {below : List Frame} {meth : Method} {c : Code} {Z : State → Prop} {D : va_G} {cI cF cJ : ClassId} (G : Gx l s D cI cF cJ) {b0 L : Nat} {xs : Nat → Int32} (hx : p.tables.exec = Jvm.exec) (hb : c.code = code) (hml : c.maxLocals = 7) (hown : s.vm.findClass "FewBitsLaw" = some m.cls) (hXs : va_X b0 L xs s s.heap) (hbl : b0 < s.heap.size) (hL : L ≤ 3584) {xo fa ma hm a1 a2 a3 a4 a5 a6 a7 a8 a9 a10 a11 oa : Nat} {A0 : Nat → Prop} (hDm : va_D A0 (adM hm a1 a2 a3 a4 a5 a6 a7 a8 a9 a10 a11)) {i cells slots : Nat} {H : Heap} {ls : Array Slot} (hLI : LI s D cI cF cJ xo fa ma hm a1 a2 a3 a4 a5 a6 a7 a8 a9 a10 a11 oa H) (hi : i + 7 ≤ L) (hcl : cells + 4 ≤ room_1.cells) (hsl : slots + 1094 ≤ room_1.slots) (hl : lv_has ls 7 [(0, .ref b0), (1, .ref xo), (2, .ref hm), (3, .ref oa), (4, .int (nI i))]) (hend : ∀ (H2 : Heap) (ls : Array Slot), LI s D cI cF cJ xo fa ma hm a1 a2 a3 a4 a5 a6 a7 a8 a9 a10 a11 oa H2 → lv_has ls 7 [(0, .ref b0), (1, .ref xo), (2, .ref hm), (3, .ref oa), (4, .int (nI i))] → W p l e room_1 s m args below meth c H2 [] (cells + 4) (slots + 1094) Z (F0 m 1320 ls [])) : W p l e room_1 s m args below meth c H [] cells slots Z (F0 m 250 ls []) := by
  have hW : s.WarmedH s.vm := State.WarmedH.refl s
  have hK := G.k (State.WarmedH.refl s)
  have hon := hLI.on
  obtain ⟨k, bv, P1, P2, hk5, hC1, hC2, hC3⟩ := arm_add G xo fa ma hm a1 a2 a3 a4 a5 a6 a7 a8 a9 a10 a11 oa (xs (i + 1)) (jn (xs (i + 2)) (xs (i + 3))) hDm hLI
  refine lv_aload_n hx hb d_L_law_250 rfl (lv_at hl 1 rfl) ?_
  refine lv_aload_n hx hb d_L_law_251 rfl (lv_at hl 0 rfl) ?_
  refine lv_iload hx hb d_L_law_252 (lv_at hl 4 rfl) ?_
  refine lv_iconst (v := (nI 1)) hx hb d_L_law_254 (by decide) ?_
  refine lv_iadd hx hb d_L_law_255 ?_
  refine tp_i (y := (nI (i + 1))) (nI_add _ _) ?_
  refine sc_ld hx hb hXs hbl hon (j := i + 1) (by omega) hL d_L_law_256 ?_
  refine lv_aload_n hx hb d_L_law_257 rfl (lv_at hl 0 rfl) ?_
  refine lv_iload hx hb d_L_law_258 (lv_at hl 4 rfl) ?_
  refine lv_iconst (v := (nI 2)) hx hb d_L_law_260 (by decide) ?_
  refine lv_iadd hx hb d_L_law_261 ?_
  refine tp_i (y := (nI (i + 2))) (nI_add _ _) ?_
  refine sc_ld hx hb hXs hbl hon (j := i + 2) (by omega) hL d_L_law_262 ?_
  refine lv_i2l hx hb d_L_law_263 rfl ?_
  refine lv_bipush (v := (nI 32)) hx hb d_L_law_264 (by decide) ?_
  refine lv_lshl hx hb d_L_law_266 rfl ?_
  refine lv_aload_n hx hb d_L_law_267 rfl (lv_at hl 0 rfl) ?_
  refine lv_iload hx hb d_L_law_268 (lv_at hl 4 rfl) ?_
  refine lv_iconst (v := (nI 3)) hx hb d_L_law_270 (by decide) ?_
  refine lv_iadd hx hb d_L_law_271 ?_
  refine tp_i (y := (nI (i + 3))) (nI_add _ _) ?_
  refine sc_ld hx hb hXs hbl hon (j := i + 3) (by omega) hL d_L_law_272 ?_
  refine lv_i2l hx hb d_L_law_273 rfl ?_
  refine lv_ldc2 (v := 4294967295) hx hb hown (G.1.at 835 rfl rfl _ hW) d_L_law_274 ?_
  refine lv_land hx hb d_L_law_277 ?_
  refine lv_lor hx hb d_L_law_278 ?_
  refine tp_l (y := (jn (xs (i + 2)) (xs (i + 3)))) rfl ?_
  refine lv_aload_n hx hb d_L_law_279 rfl (lv_at hl 3 rfl) ?_
  refine lw_callW hC1 hon (iv_L_law_280 G hx hb hown (State.WarmedH.refl s) [.ref xo, .int (xs (i + 1)), .long (jn (xs (i + 2)) (xs (i + 3))), .ref oa] [] rfl) hml hl.1 (by rw [hb]; exact d_L_law_280) (cd_L_add G (State.WarmedH.refl s)) ⟨Nat.le_of_ble_eq_true rfl, Nat.le_of_ble_eq_true rfl⟩ hcl hsl (Nat.le_of_ble_eq_true rfl) (fun H1 hp1 hon => ?_)
  obtain ⟨-, hob1, hC2⟩ := hC2 H1 hp1
  refine W.eq (g2 := F0 m 283 ls [.int (nI k)]) rfl ?_
  refine lv_istore (lv' := [(5, .int (nI k)), (0, .ref b0), (1, .ref xo), (2, .ref hm), (3, .ref oa), (4, .int (nI i))]) hx hb d_L_law_283 hl (by decide) rfl (fun ls hl => ?_)
  refine lv_aload_n hx hb d_L_law_285 rfl (lv_at hl 3 rfl) ?_
  refine lv_aload_n hx hb d_L_law_286 rfl (lv_at hl 1 rfl) ?_
  refine lv_iload hx hb d_L_law_287 (lv_at hl 5 rfl) ?_
  refine lv_iconst (v := (nI 1)) hx hb d_L_law_289 (by decide) ?_
  refine lv_iadd hx hb d_L_law_290 ?_
  refine tp_i (y := (nI (i + 1))) (nI_add _ _) ?_
  refine sc_ld hx hb hXs hbl hon (j := i + 1) (by omega) hL d_L_law_291 ?_
  refine lv_aload_n hx hb d_L_law_292 rfl (lv_at hl 1 rfl) ?_
  refine lv_iload hx hb d_L_law_293 (lv_at hl 5 rfl) ?_
  refine lv_iconst (v := (nI 2)) hx hb d_L_law_295 (by decide) ?_
  refine lv_iadd hx hb d_L_law_296 ?_
  refine tp_i (y := (nI (i + 2))) (nI_add _ _) ?_
  refine sc_ld hx hb hXs hbl hon (j := i + 2) (by omega) hL d_L_law_297 ?_
  refine lv_i2l hx hb d_L_law_298 rfl ?_
  refine lv_bipush (v := (nI 32)) hx hb d_L_law_299 (by decide) ?_
  refine lv_lshl hx hb d_L_law_301 rfl ?_
  refine lv_aload_n hx hb d_L_law_302 rfl (lv_at hl 1 rfl) ?_
  refine lv_iload hx hb d_L_law_303 (lv_at hl 5 rfl) ?_
  refine lv_iconst (v := (nI 3)) hx hb d_L_law_305 (by decide) ?_
  refine lv_iadd hx hb d_L_law_306 ?_
  refine tp_i (y := (nI (i + 3))) (nI_add _ _) ?_
  refine sc_ld hx hb hXs hbl hon (j := i + 3) (by omega) hL d_L_law_307 ?_
  refine lv_i2l hx hb d_L_law_308 rfl ?_
  refine lv_ldc2 (v := 4294967295) hx hb hown (G.1.at 835 rfl rfl _ hW) d_L_law_309 ?_
  refine lv_land hx hb d_L_law_312 ?_
  refine lv_lor hx hb d_L_law_313 ?_
  refine tp_l (y := (jn (xs (i + 2)) (xs (i + 3)))) rfl ?_
  refine lw_callW hC2 hon (iv_L_law_314 G hx hb hown (State.WarmedH.refl s) hob1 [.int (xs (i + 1)), .long (jn (xs (i + 2)) (xs (i + 3)))] [] rfl) hml hl.1 (by rw [hb]; exact d_L_law_314) (cd_M_add G (State.WarmedH.refl s)) ⟨Nat.le_of_ble_eq_true rfl, Nat.le_of_ble_eq_true rfl⟩ hcl hsl (Nat.le_of_ble_eq_true rfl) (fun H2 hp2 hon => ?_)
  obtain ⟨hob2, hC4, hLI2, g1, hPo2, hg1⟩ := hC3 H2 hp2
  refine W.eq (g2 := F0 m 317 ls [.int bv]) rfl ?_
  refine lv_istore (lv' := [(6, .int bv), (5, .int (nI k)), (0, .ref b0), (1, .ref xo), (2, .ref hm), (3, .ref oa), (4, .int (nI i))]) hx hb d_L_law_317 hl (by decide) rfl (fun ls hl => ?_)
  refine lv_aload_n hx hb d_L_law_319 rfl (lv_at hl 4 rfl) ?_
  refine mx_callR (r := .int (nI k)) hC4 (State.WarmedH.refl s) (iv_L_law_320 G hx hb hown (State.WarmedH.refl s) hob2 [] [] rfl) hml hl.1 (by rw [hb]; exact d_L_law_320) (cd_M_thrown G (State.WarmedH.refl s)) ⟨Nat.le_of_ble_eq_true rfl, Nat.le_of_ble_eq_true rfl⟩ rfl rfl hcl hsl (Nat.le_of_ble_eq_true rfl) ?_
  refine lv_iload hx hb d_L_law_323 (lv_at hl 1 rfl) ?_
  refine lv_icmp_eq (tgt := 330) hx hb d_L_law_325 (by decide) (fun c_325 => ?_) (fun c_325 => absurd (rfl) c_325)
  refine lv_iload hx hb d_L_law_330 (lv_at hl 1 rfl) ?_
  refine lv_if_ne (tgt := 347) hx hb d_L_law_332 (by decide) (fun c_332 => ?_) (fun c_332 => ?_)
  · refine lv_goto (tgt := 1320) hx hb d_L_law_347 (by decide) ?_
    exact hend _ _ hLI2 (lv_sub hl [2, 3, 4, 5, 6] rfl)
  · have hk0 : k = 0 := nI_zero hk5 c_332
    refine lv_aload_n hx hb d_L_law_335 rfl (lv_at hl 5 rfl) ?_
    refine lv_iconst (v := (nI 0)) hx hb d_L_law_336 (by decide) ?_
    refine la_ld (x := Int32.toInt64 bv) hx hb hK hPo2 (hg1 hk0) d_L_law_337 ?_
    refine lv_iload hx hb d_L_law_338 (lv_at hl 0 rfl) ?_
    refine lv_i2l hx hb d_L_law_340 rfl ?_
    refine W.lcmp hx hb d_L_law_341 ?_
    refine lv_if_eq (tgt := 347) hx hb d_L_law_342 (by decide) (fun c_342 => ?_) (fun c_342 => absurd ((lg_cmp_eq _ _).mpr rfl) c_342)
    refine lv_goto (tgt := 1320) hx hb d_L_law_347 (by decide) ?_
    exact hend _ _ hLI2 (lv_sub hl [2, 3, 4, 5, 6] rfl)

set_option maxHeartbeats 4000000 in
set_option maxRecDepth 100000 in
theorem l_addAll {p : Program} {l : Launch} {e : Env} {s : State} {m : MethodId} {args : Array Value} {below : List Frame} {meth : Method} {c : Code} {Z : State → Prop} {D : va_G} {cI cF cJ : ClassId} (G : Gx l s D cI cF cJ) {b0 L : Nat} {xs : Nat → Int32} (hx : p.tables.exec = Jvm.exec) (hb : c.code = code) (hml : c.maxLocals = 7) (hown : s.vm.findClass "FewBitsLaw" = some m.cls) (hXs : va_X b0 L xs s s.heap) (hbl : b0 < s.heap.size) (hL : L ≤ 3584) {xo fa ma hm a1 a2 a3 a4 a5 a6 a7 a8 a9 a10 a11 oa : Nat} {A0 : Nat → Prop} (hDm : va_D A0 (adM hm a1 a2 a3 a4 a5 a6 a7 a8 a9 a10 a11)) {i cells slots : Nat} {H : Heap} {ls : Array Slot} (hLI : LI s D cI cF cJ xo fa ma hm a1 a2 a3 a4 a5 a6 a7 a8 a9 a10 a11 oa H) (hi : i + 7 ≤ L) (hcl : cells + 4 ≤ room_1.cells) (hsl : slots + 1094 ≤ room_1.slots) (hl : lv_has ls 7 [(0, .ref b0), (1, .ref xo), (2, .ref hm), (3, .ref oa), (4, .int (nI i))]) (hend : ∀ (H2 : Heap) (ls : Array Slot), LI s D cI cF cJ xo fa ma hm a1 a2 a3 a4 a5 a6 a7 a8 a9 a10 a11 oa H2 → lv_has ls 7 [(0, .ref b0), (1, .ref xo), (2, .ref hm), (3, .ref oa), (4, .int (nI i))] → W p l e room_1 s m args below meth c H2 [] (cells + 4) (slots + 1094) Z (F0 m 1320 ls [])) : W p l e room_1 s m args below meth c H [] cells slots Z (F0 m 350 ls []) := by
  have hW : s.WarmedH s.vm := State.WarmedH.refl s
  have hK := G.k (State.WarmedH.refl s)
  have hon := hLI.on
  obtain ⟨k, bv, P1, P2, hk5, hC1, hC2, hC3⟩ := arm_addAll G xo fa ma hm a1 a2 a3 a4 a5 a6 a7 a8 a9 a10 a11 oa (xs (i + 1)) (jn (xs (i + 2)) (xs (i + 3))) (jn (xs (i + 4)) (xs (i + 5))) (xs (i + 6)) hDm hLI
  refine lv_aload_n hx hb d_L_law_350 rfl (lv_at hl 1 rfl) ?_
  refine lv_aload_n hx hb d_L_law_351 rfl (lv_at hl 0 rfl) ?_
  refine lv_iload hx hb d_L_law_352 (lv_at hl 4 rfl) ?_
  refine lv_iconst (v := (nI 1)) hx hb d_L_law_354 (by decide) ?_
  refine lv_iadd hx hb d_L_law_355 ?_
  refine tp_i (y := (nI (i + 1))) (nI_add _ _) ?_
  refine sc_ld hx hb hXs hbl hon (j := i + 1) (by omega) hL d_L_law_356 ?_
  refine lv_aload_n hx hb d_L_law_357 rfl (lv_at hl 0 rfl) ?_
  refine lv_iload hx hb d_L_law_358 (lv_at hl 4 rfl) ?_
  refine lv_iconst (v := (nI 2)) hx hb d_L_law_360 (by decide) ?_
  refine lv_iadd hx hb d_L_law_361 ?_
  refine tp_i (y := (nI (i + 2))) (nI_add _ _) ?_
  refine sc_ld hx hb hXs hbl hon (j := i + 2) (by omega) hL d_L_law_362 ?_
  refine lv_i2l hx hb d_L_law_363 rfl ?_
  refine lv_bipush (v := (nI 32)) hx hb d_L_law_364 (by decide) ?_
  refine lv_lshl hx hb d_L_law_366 rfl ?_
  refine lv_aload_n hx hb d_L_law_367 rfl (lv_at hl 0 rfl) ?_
  refine lv_iload hx hb d_L_law_368 (lv_at hl 4 rfl) ?_
  refine lv_iconst (v := (nI 3)) hx hb d_L_law_370 (by decide) ?_
  refine lv_iadd hx hb d_L_law_371 ?_
  refine tp_i (y := (nI (i + 3))) (nI_add _ _) ?_
  refine sc_ld hx hb hXs hbl hon (j := i + 3) (by omega) hL d_L_law_372 ?_
  refine lv_i2l hx hb d_L_law_373 rfl ?_
  refine lv_ldc2 (v := 4294967295) hx hb hown (G.1.at 835 rfl rfl _ hW) d_L_law_374 ?_
  refine lv_land hx hb d_L_law_377 ?_
  refine lv_lor hx hb d_L_law_378 ?_
  refine tp_l (y := (jn (xs (i + 2)) (xs (i + 3)))) rfl ?_
  refine lv_aload_n hx hb d_L_law_379 rfl (lv_at hl 0 rfl) ?_
  refine lv_iload hx hb d_L_law_380 (lv_at hl 4 rfl) ?_
  refine lv_iconst (v := (nI 4)) hx hb d_L_law_382 (by decide) ?_
  refine lv_iadd hx hb d_L_law_383 ?_
  refine tp_i (y := (nI (i + 4))) (nI_add _ _) ?_
  refine sc_ld hx hb hXs hbl hon (j := i + 4) (by omega) hL d_L_law_384 ?_
  refine lv_i2l hx hb d_L_law_385 rfl ?_
  refine lv_bipush (v := (nI 32)) hx hb d_L_law_386 (by decide) ?_
  refine lv_lshl hx hb d_L_law_388 rfl ?_
  refine lv_aload_n hx hb d_L_law_389 rfl (lv_at hl 0 rfl) ?_
  refine lv_iload hx hb d_L_law_390 (lv_at hl 4 rfl) ?_
  refine lv_iconst (v := (nI 5)) hx hb d_L_law_392 (by decide) ?_
  refine lv_iadd hx hb d_L_law_393 ?_
  refine tp_i (y := (nI (i + 5))) (nI_add _ _) ?_
  refine sc_ld hx hb hXs hbl hon (j := i + 5) (by omega) hL d_L_law_394 ?_
  refine lv_i2l hx hb d_L_law_395 rfl ?_
  refine lv_ldc2 (v := 4294967295) hx hb hown (G.1.at 835 rfl rfl _ hW) d_L_law_396 ?_
  refine lv_land hx hb d_L_law_399 ?_
  refine lv_lor hx hb d_L_law_400 ?_
  refine tp_l (y := (jn (xs (i + 4)) (xs (i + 5)))) rfl ?_
  refine lv_aload_n hx hb d_L_law_401 rfl (lv_at hl 0 rfl) ?_
  refine lv_iload hx hb d_L_law_402 (lv_at hl 4 rfl) ?_
  refine lv_bipush (v := (nI 6)) hx hb d_L_law_404 (by decide) ?_
  refine lv_iadd hx hb d_L_law_406 ?_
  refine tp_i (y := (nI (i + 6))) (nI_add _ _) ?_
  refine sc_ld hx hb hXs hbl hon (j := i + 6) (by omega) hL d_L_law_407 ?_
  refine lv_aload_n hx hb d_L_law_408 rfl (lv_at hl 3 rfl) ?_
  refine lw_callW hC1 hon (iv_L_law_409 G hx hb hown (State.WarmedH.refl s) [.ref xo, .int (xs (i + 1)), .long (jn (xs (i + 2)) (xs (i + 3))), .long (jn (xs (i + 4)) (xs (i + 5))), .int (xs (i + 6)), .ref oa] [] rfl) hml hl.1 (by rw [hb]; exact d_L_law_409) (cd_L_addAll G (State.WarmedH.refl s)) ⟨Nat.le_of_ble_eq_true rfl, Nat.le_of_ble_eq_true rfl⟩ hcl hsl (Nat.le_of_ble_eq_true rfl) (fun H1 hp1 hon => ?_)
  obtain ⟨-, hob1, hC2⟩ := hC2 H1 hp1
  refine W.eq (g2 := F0 m 412 ls [.int (nI k)]) rfl ?_
  refine lv_istore (lv' := [(5, .int (nI k)), (0, .ref b0), (1, .ref xo), (2, .ref hm), (3, .ref oa), (4, .int (nI i))]) hx hb d_L_law_412 hl (by decide) rfl (fun ls hl => ?_)
  refine lv_aload_n hx hb d_L_law_414 rfl (lv_at hl 3 rfl) ?_
  refine lv_aload_n hx hb d_L_law_415 rfl (lv_at hl 1 rfl) ?_
  refine lv_iload hx hb d_L_law_416 (lv_at hl 5 rfl) ?_
  refine lv_iconst (v := (nI 1)) hx hb d_L_law_418 (by decide) ?_
  refine lv_iadd hx hb d_L_law_419 ?_
  refine tp_i (y := (nI (i + 1))) (nI_add _ _) ?_
  refine sc_ld hx hb hXs hbl hon (j := i + 1) (by omega) hL d_L_law_420 ?_
  refine lv_aload_n hx hb d_L_law_421 rfl (lv_at hl 1 rfl) ?_
  refine lv_iload hx hb d_L_law_422 (lv_at hl 5 rfl) ?_
  refine lv_iconst (v := (nI 2)) hx hb d_L_law_424 (by decide) ?_
  refine lv_iadd hx hb d_L_law_425 ?_
  refine tp_i (y := (nI (i + 2))) (nI_add _ _) ?_
  refine sc_ld hx hb hXs hbl hon (j := i + 2) (by omega) hL d_L_law_426 ?_
  refine lv_i2l hx hb d_L_law_427 rfl ?_
  refine lv_bipush (v := (nI 32)) hx hb d_L_law_428 (by decide) ?_
  refine lv_lshl hx hb d_L_law_430 rfl ?_
  refine lv_aload_n hx hb d_L_law_431 rfl (lv_at hl 1 rfl) ?_
  refine lv_iload hx hb d_L_law_432 (lv_at hl 5 rfl) ?_
  refine lv_iconst (v := (nI 3)) hx hb d_L_law_434 (by decide) ?_
  refine lv_iadd hx hb d_L_law_435 ?_
  refine tp_i (y := (nI (i + 3))) (nI_add _ _) ?_
  refine sc_ld hx hb hXs hbl hon (j := i + 3) (by omega) hL d_L_law_436 ?_
  refine lv_i2l hx hb d_L_law_437 rfl ?_
  refine lv_ldc2 (v := 4294967295) hx hb hown (G.1.at 835 rfl rfl _ hW) d_L_law_438 ?_
  refine lv_land hx hb d_L_law_441 ?_
  refine lv_lor hx hb d_L_law_442 ?_
  refine tp_l (y := (jn (xs (i + 2)) (xs (i + 3)))) rfl ?_
  refine lv_aload_n hx hb d_L_law_443 rfl (lv_at hl 1 rfl) ?_
  refine lv_iload hx hb d_L_law_444 (lv_at hl 5 rfl) ?_
  refine lv_iconst (v := (nI 4)) hx hb d_L_law_446 (by decide) ?_
  refine lv_iadd hx hb d_L_law_447 ?_
  refine tp_i (y := (nI (i + 4))) (nI_add _ _) ?_
  refine sc_ld hx hb hXs hbl hon (j := i + 4) (by omega) hL d_L_law_448 ?_
  refine lv_i2l hx hb d_L_law_449 rfl ?_
  refine lv_bipush (v := (nI 32)) hx hb d_L_law_450 (by decide) ?_
  refine lv_lshl hx hb d_L_law_452 rfl ?_
  refine lv_aload_n hx hb d_L_law_453 rfl (lv_at hl 1 rfl) ?_
  refine lv_iload hx hb d_L_law_454 (lv_at hl 5 rfl) ?_
  refine lv_iconst (v := (nI 5)) hx hb d_L_law_456 (by decide) ?_
  refine lv_iadd hx hb d_L_law_457 ?_
  refine tp_i (y := (nI (i + 5))) (nI_add _ _) ?_
  refine sc_ld hx hb hXs hbl hon (j := i + 5) (by omega) hL d_L_law_458 ?_
  refine lv_i2l hx hb d_L_law_459 rfl ?_
  refine lv_ldc2 (v := 4294967295) hx hb hown (G.1.at 835 rfl rfl _ hW) d_L_law_460 ?_
  refine lv_land hx hb d_L_law_463 ?_
  refine lv_lor hx hb d_L_law_464 ?_
  refine tp_l (y := (jn (xs (i + 4)) (xs (i + 5)))) rfl ?_
  refine lv_aload_n hx hb d_L_law_465 rfl (lv_at hl 1 rfl) ?_
  refine lv_iload hx hb d_L_law_466 (lv_at hl 5 rfl) ?_
  refine lv_bipush (v := (nI 6)) hx hb d_L_law_468 (by decide) ?_
  refine lv_iadd hx hb d_L_law_470 ?_
  refine tp_i (y := (nI (i + 6))) (nI_add _ _) ?_
  refine sc_ld hx hb hXs hbl hon (j := i + 6) (by omega) hL d_L_law_471 ?_
  refine lw_callW hC2 hon (iv_L_law_472 G hx hb hown (State.WarmedH.refl s) hob1 [.int (xs (i + 1)), .long (jn (xs (i + 2)) (xs (i + 3))), .long (jn (xs (i + 4)) (xs (i + 5))), .int (xs (i + 6))] [] rfl) hml hl.1 (by rw [hb]; exact d_L_law_472) (cd_M_addAll G (State.WarmedH.refl s)) ⟨Nat.le_of_ble_eq_true rfl, Nat.le_of_ble_eq_true rfl⟩ hcl hsl (Nat.le_of_ble_eq_true rfl) (fun H2 hp2 hon => ?_)
  obtain ⟨hob2, hC4, hLI2, g1, hPo2, hg1⟩ := hC3 H2 hp2
  refine W.eq (g2 := F0 m 475 ls [.int bv]) rfl ?_
  refine lv_istore (lv' := [(6, .int bv), (5, .int (nI k)), (0, .ref b0), (1, .ref xo), (2, .ref hm), (3, .ref oa), (4, .int (nI i))]) hx hb d_L_law_475 hl (by decide) rfl (fun ls hl => ?_)
  refine lv_aload_n hx hb d_L_law_477 rfl (lv_at hl 4 rfl) ?_
  refine mx_callR (r := .int (nI k)) hC4 (State.WarmedH.refl s) (iv_L_law_478 G hx hb hown (State.WarmedH.refl s) hob2 [] [] rfl) hml hl.1 (by rw [hb]; exact d_L_law_478) (cd_M_thrown G (State.WarmedH.refl s)) ⟨Nat.le_of_ble_eq_true rfl, Nat.le_of_ble_eq_true rfl⟩ rfl rfl hcl hsl (Nat.le_of_ble_eq_true rfl) ?_
  refine lv_iload hx hb d_L_law_481 (lv_at hl 1 rfl) ?_
  refine lv_icmp_eq (tgt := 488) hx hb d_L_law_483 (by decide) (fun c_483 => ?_) (fun c_483 => absurd (rfl) c_483)
  refine lv_iload hx hb d_L_law_488 (lv_at hl 1 rfl) ?_
  refine lv_if_ne (tgt := 505) hx hb d_L_law_490 (by decide) (fun c_490 => ?_) (fun c_490 => ?_)
  · refine lv_goto (tgt := 1320) hx hb d_L_law_505 (by decide) ?_
    exact hend _ _ hLI2 (lv_sub hl [2, 3, 4, 5, 6] rfl)
  · have hk0 : k = 0 := nI_zero hk5 c_490
    refine lv_aload_n hx hb d_L_law_493 rfl (lv_at hl 5 rfl) ?_
    refine lv_iconst (v := (nI 0)) hx hb d_L_law_494 (by decide) ?_
    refine la_ld (x := Int32.toInt64 bv) hx hb hK hPo2 (hg1 hk0) d_L_law_495 ?_
    refine lv_iload hx hb d_L_law_496 (lv_at hl 0 rfl) ?_
    refine lv_i2l hx hb d_L_law_498 rfl ?_
    refine W.lcmp hx hb d_L_law_499 ?_
    refine lv_if_eq (tgt := 505) hx hb d_L_law_500 (by decide) (fun c_500 => ?_) (fun c_500 => absurd ((lg_cmp_eq _ _).mpr rfl) c_500)
    refine lv_goto (tgt := 1320) hx hb d_L_law_505 (by decide) ?_
    exact hend _ _ hLI2 (lv_sub hl [2, 3, 4, 5, 6] rfl)
