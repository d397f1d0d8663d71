set_option maxHeartbeats 4000000 in
set_option maxRecDepth 100000 in
theorem l_same {p : Program} {l : Launch} {e : Env} {s : State} {m : MethodId} {args : Array Value} {below : List Frame} {meth : Method} {c : Code} {Z : State → Prop} {D : va_G} {cI cF cJ : ClassId} (G : Gx l s D cI cF cJ) {b0 L : Nat} {xs : Nat → Int32} (hx : p.tables.exec = Jvm.exec) (hb : c.code = code) (hml : c.maxLocals = 7) (hown : s.vm.findClass "FewBitsLaw" = some m.cls) (hXs : va_X b0 L xs s s.heap) (hbl : b0 < s.heap.size) (hL : L ≤ 3584) {xo fa ma hm a1 a2 a3 a4 a5 a6 a7 a8 a9 a10 a11 oa : Nat} {A0 : Nat → Prop} (hDm : va_D A0 (adM hm a1 a2 a3 a4 a5 a6 a7 a8 a9 a10 a11)) {i cells slots : Nat} {H : Heap} {ls : Array Slot} (hLI : LI s D cI cF cJ xo fa ma hm a1 a2 a3 a4 a5 a6 a7 a8 a9 a10 a11 oa H) (hi : i + 7 ≤ L) (hcl : cells + 4 ≤ room_1.cells) (hsl : slots + 1094 ≤ room_1.slots) (hl : lv_has ls 7 [(0, .ref b0), (1, .ref xo), (2, .ref hm), (3, .ref oa), (4, .int (nI i))]) (hend : ∀ (H2 : Heap) (ls : Array Slot), LI s D cI cF cJ xo fa ma hm a1 a2 a3 a4 a5 a6 a7 a8 a9 a10 a11 oa H2 → lv_has ls 7 [(0, .ref b0), (1, .ref xo), (2, .ref hm), (3, .ref oa), (4, .int (nI i))] → W p l e room_1 s m args below meth c H2 [] (cells + 4) (slots + 1094) Z (F0 m 1320 ls [])) : W p l e room_1 s m args below meth c H [] cells slots Z (F0 m 873 ls []) := by
  have hW : s.WarmedH s.vm := State.WarmedH.refl s
  have hK := G.k (State.WarmedH.refl s)
  have hon := hLI.on
  obtain ⟨k, bv, P1, P2, hk5, hC1, hC2, hC3⟩ := arm_same G xo fa ma hm a1 a2 a3 a4 a5 a6 a7 a8 a9 a10 a11 oa (xs (i + 1)) (jn (xs (i + 2)) (xs (i + 3))) (jn (xs (i + 4)) (xs (i + 5))) hDm hLI
  refine lv_aload_n hx hb d_L_law_873 rfl (lv_at hl 1 rfl) ?_
  refine lv_aload_n hx hb d_L_law_874 rfl (lv_at hl 0 rfl) ?_
  refine lv_iload hx hb d_L_law_875 (lv_at hl 4 rfl) ?_
  refine lv_iconst (v := (nI 1)) hx hb d_L_law_877 (by decide) ?_
  refine lv_iadd hx hb d_L_law_878 ?_
  refine tp_i (y := (nI (i + 1))) (nI_add _ _) ?_
  refine sc_ld hx hb hXs hbl hon (j := i + 1) (by omega) hL d_L_law_879 ?_
  refine lv_aload_n hx hb d_L_law_880 rfl (lv_at hl 0 rfl) ?_
  refine lv_iload hx hb d_L_law_881 (lv_at hl 4 rfl) ?_
  refine lv_iconst (v := (nI 2)) hx hb d_L_law_883 (by decide) ?_
  refine lv_iadd hx hb d_L_law_884 ?_
  refine tp_i (y := (nI (i + 2))) (nI_add _ _) ?_
  refine sc_ld hx hb hXs hbl hon (j := i + 2) (by omega) hL d_L_law_885 ?_
  refine lv_i2l hx hb d_L_law_886 rfl ?_
  refine lv_bipush (v := (nI 32)) hx hb d_L_law_887 (by decide) ?_
  refine lv_lshl hx hb d_L_law_889 rfl ?_
  refine lv_aload_n hx hb d_L_law_890 rfl (lv_at hl 0 rfl) ?_
  refine lv_iload hx hb d_L_law_891 (lv_at hl 4 rfl) ?_
  refine lv_iconst (v := (nI 3)) hx hb d_L_law_893 (by decide) ?_
  refine lv_iadd hx hb d_L_law_894 ?_
  refine tp_i (y := (nI (i + 3))) (nI_add _ _) ?_
  refine sc_ld hx hb hXs hbl hon (j := i + 3) (by omega) hL d_L_law_895 ?_
  refine lv_i2l hx hb d_L_law_896 rfl ?_
  refine lv_ldc2 (v := 4294967295) hx hb hown (G.1.at 835 rfl rfl _ hW) d_L_law_897 ?_
  refine lv_land hx hb d_L_law_900 ?_
  refine lv_lor hx hb d_L_law_901 ?_
  refine tp_l (y := (jn (xs (i + 2)) (xs (i + 3)))) rfl ?_
  refine lv_aload_n hx hb d_L_law_902 rfl (lv_at hl 0 rfl) ?_
  refine lv_iload hx hb d_L_law_903 (lv_at hl 4 rfl) ?_
  refine lv_iconst (v := (nI 4)) hx hb d_L_law_905 (by decide) ?_
  refine lv_iadd hx hb d_L_law_906 ?_
  refine tp_i (y := (nI (i + 4))) (nI_add _ _) ?_
  refine sc_ld hx hb hXs hbl hon (j := i + 4) (by omega) hL d_L_law_907 ?_
  refine lv_i2l hx hb d_L_law_908 rfl ?_
  refine lv_bipush (v := (nI 32)) hx hb d_L_law_909 (by decide) ?_
  refine lv_lshl hx hb d_L_law_911 rfl ?_
  refine lv_aload_n hx hb d_L_law_912 rfl (lv_at hl 0 rfl) ?_
  refine lv_iload hx hb d_L_law_913 (lv_at hl 4 rfl) ?_
  refine lv_iconst (v := (nI 5)) hx hb d_L_law_915 (by decide) ?_
  refine lv_iadd hx hb d_L_law_916 ?_
  refine tp_i (y := (nI (i + 5))) (nI_add _ _) ?_
  refine sc_ld hx hb hXs hbl hon (j := i + 5) (by omega) hL d_L_law_917 ?_
  refine lv_i2l hx hb d_L_law_918 rfl ?_
  refine lv_ldc2 (v := 4294967295) hx hb hown (G.1.at 835 rfl rfl _ hW) d_L_law_919 ?_
  refine lv_land hx hb d_L_law_922 ?_
  refine lv_lor hx hb d_L_law_923 ?_
  refine tp_l (y := (jn (xs (i + 4)) (xs (i + 5)))) rfl ?_
  refine lv_aload_n hx hb d_L_law_924 rfl (lv_at hl 3 rfl) ?_
  refine lw_callW hC1 hon (iv_L_law_925 G hx hb hown (State.WarmedH.refl s) [.ref xo, .int (xs (i + 1)), .long (jn (xs (i + 2)) (xs (i + 3))), .long (jn (xs (i + 4)) (xs (i + 5))), .ref oa] [] rfl) hml hl.1 (by rw [hb]; exact d_L_law_925) (cd_L_same G (State.WarmedH.refl s)) ⟨Nat.le_of_ble_eq_true rfl, Nat.le_of_ble_eq_true rfl⟩ hcl hsl (Nat.le_of_ble_eq_true rfl) (fun H1 hp1 hon => ?_)
  obtain ⟨-, hob1, hC2⟩ := hC2 H1 hp1
  refine W.eq (g2 := F0 m 928 ls [.int (nI k)]) rfl ?_
  refine lv_istore (lv' := [(5, .int (nI k)), (0, .ref b0), (1, .ref xo), (2, .ref hm), (3, .ref oa), (4, .int (nI i))]) hx hb d_L_law_928 hl (by decide) rfl (fun ls hl => ?_)
  refine lv_aload_n hx hb d_L_law_930 rfl (lv_at hl 3 rfl) ?_
  refine lv_aload_n hx hb d_L_law_931 rfl (lv_at hl 1 rfl) ?_
  refine lv_iload hx hb d_L_law_932 (lv_at hl 5 rfl) ?_
  refine lv_iconst (v := (nI 1)) hx hb d_L_law_934 (by decide) ?_
  refine lv_iadd hx hb d_L_law_935 ?_
  refine tp_i (y := (nI (i + 1))) (nI_add _ _) ?_
  refine sc_ld hx hb hXs hbl hon (j := i + 1) (by omega) hL d_L_law_936 ?_
  refine lv_aload_n hx hb d_L_law_937 rfl (lv_at hl 1 rfl) ?_
  refine lv_iload hx hb d_L_law_938 (lv_at hl 5 rfl) ?_
  refine lv_iconst (v := (nI 2)) hx hb d_L_law_940 (by decide) ?_
  refine lv_iadd hx hb d_L_law_941 ?_
  refine tp_i (y := (nI (i + 2))) (nI_add _ _) ?_
  refine sc_ld hx hb hXs hbl hon (j := i + 2) (by omega) hL d_L_law_942 ?_
  refine lv_i2l hx hb d_L_law_943 rfl ?_
  refine lv_bipush (v := (nI 32)) hx hb d_L_law_944 (by decide) ?_
  refine lv_lshl hx hb d_L_law_946 rfl ?_
  refine lv_aload_n hx hb d_L_law_947 rfl (lv_at hl 1 rfl) ?_
  refine lv_iload hx hb d_L_law_948 (lv_at hl 5 rfl) ?_
  refine lv_iconst (v := (nI 3)) hx hb d_L_law_950 (by decide) ?_
  refine lv_iadd hx hb d_L_law_951 ?_
  refine tp_i (y := (nI (i + 3))) (nI_add _ _) ?_
  refine sc_ld hx hb hXs hbl hon (j := i + 3) (by omega) hL d_L_law_952 ?_
  refine lv_i2l hx hb d_L_law_953 rfl ?_
  refine lv_ldc2 (v := 4294967295) hx hb hown (G.1.at 835 rfl rfl _ hW) d_L_law_954 ?_
  refine lv_land hx hb d_L_law_957 ?_
  refine lv_lor hx hb d_L_law_958 ?_
  refine tp_l (y := (jn (xs (i + 2)) (xs (i + 3)))) rfl ?_
  refine lv_aload_n hx hb d_L_law_959 rfl (lv_at hl 1 rfl) ?_
  refine lv_iload hx hb d_L_law_960 (lv_at hl 5 rfl) ?_
  refine lv_iconst (v := (nI 4)) hx hb d_L_law_962 (by decide) ?_
  refine lv_iadd hx hb d_L_law_963 ?_
  refine tp_i (y := (nI (i + 4))) (nI_add _ _) ?_
  refine sc_ld hx hb hXs hbl hon (j := i + 4) (by omega) hL d_L_law_964 ?_
  refine lv_i2l hx hb d_L_law_965 rfl ?_
  refine lv_bipush (v := (nI 32)) hx hb d_L_law_966 (by decide) ?_
  refine lv_lshl hx hb d_L_law_968 rfl ?_
  refine lv_aload_n hx hb d_L_law_969 rfl (lv_at hl 1 rfl) ?_
  refine lv_iload hx hb d_L_law_970 (lv_at hl 5 rfl) ?_
  refine lv_iconst (v := (nI 5)) hx hb d_L_law_972 (by decide) ?_
  refine lv_iadd hx hb d_L_law_973 ?_
  refine tp_i (y := (nI (i + 5))) (nI_add _ _) ?_
  refine sc_ld hx hb hXs hbl hon (j := i + 5) (by omega) hL d_L_law_974 ?_
  refine lv_i2l hx hb d_L_law_975 rfl ?_
  refine lv_ldc2 (v := 4294967295) hx hb hown (G.1.at 835 rfl rfl _ hW) d_L_law_976 ?_
  refine lv_land hx hb d_L_law_979 ?_
  refine lv_lor hx hb d_L_law_980 ?_
  refine tp_l (y := (jn (xs (i + 4)) (xs (i + 5)))) rfl ?_
  refine lw_callW hC2 hon (iv_L_law_981 G hx hb hown (State.WarmedH.refl s) hob1 [.int (xs (i + 1)), .long (jn (xs (i + 2)) (xs (i + 3))), .long (jn (xs (i + 4)) (xs (i + 5)))] [] rfl) hml hl.1 (by rw [hb]; exact d_L_law_981) (cd_M_same G (State.WarmedH.refl s)) ⟨Nat.le_of_ble_eq_true rfl, Nat.le_of_ble_eq_true rfl⟩ hcl hsl (Nat.le_of_ble_eq_true rfl) (fun H2 hp2 hon => ?_)
  obtain ⟨hob2, hC4, hLI2, g1, hPo2, hg1⟩ := hC3 H2 hp2
  refine W.eq (g2 := F0 m 984 ls [.int bv]) rfl ?_
  refine lv_istore (lv' := [(6, .int bv), (5, .int (nI k)), (0, .ref b0), (1, .ref xo), (2, .ref hm), (3, .ref oa), (4, .int (nI i))]) hx hb d_L_law_984 hl (by decide) rfl (fun ls hl => ?_)
  refine lv_aload_n hx hb d_L_law_986 rfl (lv_at hl 4 rfl) ?_
  refine mx_callR (r := .int (nI k)) hC4 (State.WarmedH.refl s) (iv_L_law_987 G hx hb hown (State.WarmedH.refl s) hob2 [] [] rfl) hml hl.1 (by rw [hb]; exact d_L_law_987) (cd_M_thrown G (State.WarmedH.refl s)) ⟨Nat.le_of_ble_eq_true rfl, Nat.le_of_ble_eq_true rfl⟩ rfl rfl hcl hsl (Nat.le_of_ble_eq_true rfl) ?_
  refine lv_iload hx hb d_L_law_990 (lv_at hl 1 rfl) ?_
  refine lv_icmp_eq (tgt := 997) hx hb d_L_law_992 (by decide) (fun c_992 => ?_) (fun c_992 => absurd (rfl) c_992)
  refine lv_iload hx hb d_L_law_997 (lv_at hl 1 rfl) ?_
  refine lv_if_ne (tgt := 1021) hx hb d_L_law_999 (by decide) (fun c_999 => ?_) (fun c_999 => ?_)
  · refine lv_goto (tgt := 1320) hx hb d_L_law_1021 (by decide) ?_
    exact hend _ _ hLI2 (lv_sub hl [2, 3, 4, 5, 6] rfl)
  · have hk0 : k = 0 := nI_zero hk5 c_999
    refine lv_aload_n hx hb d_L_law_1002 rfl (lv_at hl 5 rfl) ?_
    refine lv_iconst (v := (nI 0)) hx hb d_L_law_1003 (by decide) ?_
    refine la_ld (x := zl bv) hx hb hK hPo2 (hg1 hk0) d_L_law_1004 ?_
    refine lv_iload hx hb d_L_law_1005 (lv_at hl 0 rfl) ?_
    refine lv_if_eq (tgt := 1014) hx hb d_L_law_1007 (by decide) (fun c_1007 => ?_) (fun c_1007 => ?_)
    · refine lv_lconst (v := 0) hx hb d_L_law_1014 (by decide) ?_
      refine W.lcmp hx hb d_L_law_1015 ?_
      refine lv_if_eq (tgt := 1021) hx hb d_L_law_1016 (by decide) (fun c_1016 => ?_) (fun c_1016 => absurd ((lg_cmp_eq _ _).mpr (by unfold zl; rw [if_pos c_1007])) c_1016)
      refine lv_goto (tgt := 1320) hx hb d_L_law_1021 (by decide) ?_
      exact hend _ _ hLI2 (lv_sub hl [2, 3, 4, 5, 6] rfl)
    · refine lv_lconst (v := 1) hx hb d_L_law_1010 (by decide) ?_
      refine lv_goto (tgt := 1015) hx hb d_L_law_1011 (by decide) ?_
      refine W.lcmp hx hb d_L_law_1015 ?_
      refine lv_if_eq (tgt := 1021) hx hb d_L_law_1016 (by decide) (fun c_1016 => ?_) (fun c_1016 => absurd ((lg_cmp_eq _ _).mpr (by unfold zl; rw [if_neg c_1007])) c_1016)
      refine lv_goto (tgt := 1320) hx hb d_L_law_1021 (by decide) ?_
      exact hend _ _ hLI2 (lv_sub hl [2, 3, 4, 5, 6] rfl)

set_option maxHeartbeats 4000000 in
set_option maxRecDepth 100000 in
theorem l_count {p : Program} {l : Launch} {e : Env} {s : State} {m : MethodId} {args : Array Value} {below : List Frame} {meth : Method} {c : Code} {Z : State → Prop} {D : va_G} {cI cF cJ : ClassId} (G : Gx l s D cI cF cJ) {b0 L : Nat} {xs : Nat → Int32} (hx : p.tables.exec = Jvm.exec) (hb : c.code = code) (hml : c.maxLocals = 7) (hown : s.vm.findClass "FewBitsLaw" = some m.cls) (hXs : va_X b0 L xs s s.heap) (hbl : b0 < s.heap.size) (hL : L ≤ 3584) {xo fa ma hm a1 a2 a3 a4 a5 a6 a7 a8 a9 a10 a11 oa : Nat} {A0 : Nat → Prop} (hDm : va_D A0 (adM hm a1 a2 a3 a4 a5 a6 a7 a8 a9 a10 a11)) {i cells slots : Nat} {H : Heap} {ls : Array Slot} (hLI : LI s D cI cF cJ xo fa ma hm a1 a2 a3 a4 a5 a6 a7 a8 a9 a10 a11 oa H) (hi : i + 7 ≤ L) (hcl : cells + 4 ≤ room_1.cells) (hsl : slots + 1094 ≤ room_1.slots) (hl : lv_has ls 7 [(0, .ref b0), (1, .ref xo), (2, .ref hm), (3, .ref oa), (4, .int (nI i))]) (hend : ∀ (H2 : Heap) (ls : Array Slot), LI s D cI cF cJ xo fa ma hm a1 a2 a3 a4 a5 a6 a7 a8 a9 a10 a11 oa H2 → lv_has ls 7 [(0, .ref b0), (1, .ref xo), (2, .ref hm), (3, .ref oa), (4, .int (nI i))] → W p l e room_1 s m args below meth c H2 [] (cells + 4) (slots + 1094) Z (F0 m 1320 ls [])) : W p l e room_1 s m args below meth c H [] cells slots Z (F0 m 1024 ls []) := by
  have hW : s.WarmedH s.vm := State.WarmedH.refl s
  have hK := G.k (State.WarmedH.refl s)
  have hon := hLI.on
  obtain ⟨k, bv, P1, P2, hk5, hC1, hC2, hC3⟩ := arm_count G xo fa ma hm a1 a2 a3 a4 a5 a6 a7 a8 a9 a10 a11 oa (xs (i + 1)) (xs (i + 2)) hDm hLI
  refine lv_aload_n hx hb d_L_law_1024 rfl (lv_at hl 1 rfl) ?_
  refine lv_aload_n hx hb d_L_law_1025 rfl (lv_at hl 0 rfl) ?_
  refine lv_iload hx hb d_L_law_1026 (lv_at hl 4 rfl) ?_
  refine lv_iconst (v := (nI 1)) hx hb d_L_law_1028 (by decide) ?_
  refine lv_iadd hx hb d_L_law_1029 ?_
  refine tp_i (y := (nI (i + 1))) (nI_add _ _) ?_
  refine sc_ld hx hb hXs hbl hon (j := i + 1) (by omega) hL d_L_law_1030 ?_
  refine lv_aload_n hx hb d_L_law_1031 rfl (lv_at hl 0 rfl) ?_
  refine lv_iload hx hb d_L_law_1032 (lv_at hl 4 rfl) ?_
  refine lv_iconst (v := (nI 2)) hx hb d_L_law_1034 (by decide) ?_
  refine lv_iadd hx hb d_L_law_1035 ?_
  refine tp_i (y := (nI (i + 2))) (nI_add _ _) ?_
  refine sc_ld hx hb hXs hbl hon (j := i + 2) (by omega) hL d_L_law_1036 ?_
  refine lv_aload_n hx hb d_L_law_1037 rfl (lv_at hl 3 rfl) ?_
  refine lw_callW hC1 hon (iv_L_law_1038 G hx hb hown (State.WarmedH.refl s) [.ref xo, .int (xs (i + 1)), .int (xs (i + 2)), .ref oa] [] rfl) hml hl.1 (by rw [hb]; exact d_L_law_1038) (cd_L_count G (State.WarmedH.refl s)) ⟨Nat.le_of_ble_eq_true rfl, Nat.le_of_ble_eq_true rfl⟩ hcl hsl (Nat.le_of_ble_eq_true rfl) (fun H1 hp1 hon => ?_)
  obtain ⟨-, hob1, hC2⟩ := hC2 H1 hp1
  refine W.eq (g2 := F0 m 1041 ls [.int (nI k)]) rfl ?_
  refine lv_istore (lv' := [(5, .int (nI k)), (0, .ref b0), (1, .ref xo), (2, .ref hm), (3, .ref oa), (4, .int (nI i))]) hx hb d_L_law_1041 hl (by decide) rfl (fun ls hl => ?_)
  refine lv_aload_n hx hb d_L_law_1043 rfl (lv_at hl 3 rfl) ?_
  refine lv_aload_n hx hb d_L_law_1044 rfl (lv_at hl 1 rfl) ?_
  refine lv_iload hx hb d_L_law_1045 (lv_at hl 5 rfl) ?_
  refine lv_iconst (v := (nI 1)) hx hb d_L_law_1047 (by decide) ?_
  refine lv_iadd hx hb d_L_law_1048 ?_
  refine tp_i (y := (nI (i + 1))) (nI_add _ _) ?_
  refine sc_ld hx hb hXs hbl hon (j := i + 1) (by omega) hL d_L_law_1049 ?_
  refine lv_aload_n hx hb d_L_law_1050 rfl (lv_at hl 1 rfl) ?_
  refine lv_iload hx hb d_L_law_1051 (lv_at hl 5 rfl) ?_
  refine lv_iconst (v := (nI 2)) hx hb d_L_law_1053 (by decide) ?_
  refine lv_iadd hx hb d_L_law_1054 ?_
  refine tp_i (y := (nI (i + 2))) (nI_add _ _) ?_
  refine sc_ld hx hb hXs hbl hon (j := i + 2) (by omega) hL d_L_law_1055 ?_
  refine lw_callW hC2 hon (iv_L_law_1056 G hx hb hown (State.WarmedH.refl s) hob1 [.int (xs (i + 1)), .int (xs (i + 2))] [] rfl) hml hl.1 (by rw [hb]; exact d_L_law_1056) (cd_M_count G (State.WarmedH.refl s)) ⟨Nat.le_of_ble_eq_true rfl, Nat.le_of_ble_eq_true rfl⟩ hcl hsl (Nat.le_of_ble_eq_true rfl) (fun H2 hp2 hon => ?_)
  obtain ⟨hob2, hC4, hLI2, g1, hPo2, hg1⟩ := hC3 H2 hp2
  refine W.eq (g2 := F0 m 1059 ls [.int bv]) rfl ?_
  refine lv_istore (lv' := [(6, .int bv), (5, .int (nI k)), (0, .ref b0), (1, .ref xo), (2, .ref hm), (3, .ref oa), (4, .int (nI i))]) hx hb d_L_law_1059 hl (by decide) rfl (fun ls hl => ?_)
  refine lv_aload_n hx hb d_L_law_1061 rfl (lv_at hl 4 rfl) ?_
  refine mx_callR (r := .int (nI k)) hC4 (State.WarmedH.refl s) (iv_L_law_1062 G hx hb hown (State.WarmedH.refl s) hob2 [] [] rfl) hml hl.1 (by rw [hb]; exact d_L_law_1062) (cd_M_thrown G (State.WarmedH.refl s)) ⟨Nat.le_of_ble_eq_true rfl, Nat.le_of_ble_eq_true rfl⟩ rfl rfl hcl hsl (Nat.le_of_ble_eq_true rfl) ?_
  refine lv_iload hx hb d_L_law_1065 (lv_at hl 1 rfl) ?_
  refine lv_icmp_eq (tgt := 1072) hx hb d_L_law_1067 (by decide) (fun c_1067 => ?_) (fun c_1067 => absurd (rfl) c_1067)
  refine lv_iload hx hb d_L_law_1072 (lv_at hl 1 rfl) ?_
  refine lv_if_ne (tgt := 1089) hx hb d_L_law_1074 (by decide) (fun c_1074 => ?_) (fun c_1074 => ?_)
  · refine lv_goto (tgt := 1320) hx hb d_L_law_1089 (by decide) ?_
    exact hend _ _ hLI2 (lv_sub hl [2, 3, 4, 5, 6] rfl)
  · have hk0 : k = 0 := nI_zero hk5 c_1074
    refine lv_aload_n hx hb d_L_law_1077 rfl (lv_at hl 5 rfl) ?_
    refine lv_iconst (v := (nI 0)) hx hb d_L_law_1078 (by decide) ?_
    refine la_ld (x := Int32.toInt64 bv) hx hb hK hPo2 (hg1 hk0) d_L_law_1079 ?_
    refine lv_iload hx hb d_L_law_1080 (lv_at hl 0 rfl) ?_
    refine lv_i2l hx hb d_L_law_1082 rfl ?_
    refine W.lcmp hx hb d_L_law_1083 ?_
    refine lv_if_eq (tgt := 1089) hx hb d_L_law_1084 (by decide) (fun c_1084 => ?_) (fun c_1084 => absurd ((lg_cmp_eq _ _).mpr rfl) c_1084)
    refine lv_goto (tgt := 1320) hx hb d_L_law_1089 (by decide) ?_
    exact hend _ _ hLI2 (lv_sub hl [2, 3, 4, 5, 6] rfl)

set_option maxHeartbeats 4000000 in
set_option maxRecDepth 100000 in
theorem l_cell {p : Program} {l : Launch} {e : Env} {s : State} {m : MethodId} {args : Array Value} {below : List Frame} {meth : Method} {c : Code} {Z : State → Prop} {D : va_G} {cI cF cJ : ClassId} (G : Gx l s D cI cF cJ) {b0 L : Nat} {xs : Nat → Int32} (hx : p.tables.exec = Jvm.exec) (hb : c.code = code) (hml : c.maxLocals = 7) (hown : s.vm.findClass "FewBitsLaw" = some m.cls) (hXs : va_X b0 L xs s s.heap) (hbl : b0 < s.heap.size) (hL : L ≤ 3584) {xo fa ma hm a1 a2 a3 a4 a5 a6 a7 a8 a9 a10 a11 oa : Nat} {A0 : Nat → Prop} (hDm : va_D A0 (adM hm a1 a2 a3 a4 a5 a6 a7 a8 a9 a10 a11)) {i cells slots : Nat} {H : Heap} {ls : Array Slot} (hLI : LI s D cI cF cJ xo fa ma hm a1 a2 a3 a4 a5 a6 a7 a8 a9 a10 a11 oa H) (hi : i + 7 ≤ L) (hcl : cells + 4 ≤ room_1.cells) (hsl : slots + 1094 ≤ room_1.slots) (hl : lv_has ls 7 [(0, .ref b0), (1, .ref xo), (2, .ref hm), (3, .ref oa), (4, .int (nI i))]) (hend : ∀ (H2 : Heap) (ls : Array Slot), LI s D cI cF cJ xo fa ma hm a1 a2 a3 a4 a5 a6 a7 a8 a9 a10 a11 oa H2 → lv_has ls 7 [(0, .ref b0), (1, .ref xo), (2, .ref hm), (3, .ref oa), (4, .int (nI i))] → W p l e room_1 s m args below meth c H2 [] (cells + 4) (slots + 1094) Z (F0 m 1320 ls [])) : W p l e room_1 s m args below meth c H [] cells slots Z (F0 m 1092 ls []) := by
  have hW : s.WarmedH s.vm := State.WarmedH.refl s
  have hK := G.k (State.WarmedH.refl s)
  have hon := hLI.on
  obtain ⟨k, bv, P1, P2, hk5, hC1, hC2, hC3⟩ := arm_cell G xo fa ma hm a1 a2 a3 a4 a5 a6 a7 a8 a9 a10 a11 oa (xs (i + 1)) (xs (i + 2)) hDm hLI
  refine lv_aload_n hx hb d_L_law_1092 rfl (lv_at hl 1 rfl) ?_
  refine lv_aload_n hx hb d_L_law_1093 rfl (lv_at hl 0 rfl) ?_
  refine lv_iload hx hb d_L_law_1094 (lv_at hl 4 rfl) ?_
  refine lv_iconst (v := (nI 1)) hx hb d_L_law_1096 (by decide) ?_
  refine lv_iadd hx hb d_L_law_1097 ?_
  refine tp_i (y := (nI (i + 1))) (nI_add _ _) ?_
  refine sc_ld hx hb hXs hbl hon (j := i + 1) (by omega) hL d_L_law_1098 ?_
  refine lv_aload_n hx hb d_L_law_1099 rfl (lv_at hl 0 rfl) ?_
  refine lv_iload hx hb d_L_law_1100 (lv_at hl 4 rfl) ?_
  refine lv_iconst (v := (nI 2)) hx hb d_L_law_1102 (by decide) ?_
  refine lv_iadd hx hb d_L_law_1103 ?_
  refine tp_i (y := (nI (i + 2))) (nI_add _ _) ?_
  refine sc_ld hx hb hXs hbl hon (j := i + 2) (by omega) hL d_L_law_1104 ?_
  refine lv_aload_n hx hb d_L_law_1105 rfl (lv_at hl 3 rfl) ?_
  refine lw_callW hC1 hon (iv_L_law_1106 G hx hb hown (State.WarmedH.refl s) [.ref xo, .int (xs (i + 1)), .int (xs (i + 2)), .ref oa] [] rfl) hml hl.1 (by rw [hb]; exact d_L_law_1106) (cd_L_cell G (State.WarmedH.refl s)) ⟨Nat.le_of_ble_eq_true rfl, Nat.le_of_ble_eq_true rfl⟩ hcl hsl (Nat.le_of_ble_eq_true rfl) (fun H1 hp1 hon => ?_)
  obtain ⟨-, hob1, hC2⟩ := hC2 H1 hp1
  refine W.eq (g2 := F0 m 1109 ls [.int (nI k)]) rfl ?_
  refine lv_istore (lv' := [(5, .int (nI k)), (0, .ref b0), (1, .ref xo), (2, .ref hm), (3, .ref oa), (4, .int (nI i))]) hx hb d_L_law_1109 hl (by decide) rfl (fun ls hl => ?_)
  refine lv_aload_n hx hb d_L_law_1111 rfl (lv_at hl 3 rfl) ?_
  refine lv_aload_n hx hb d_L_law_1112 rfl (lv_at hl 1 rfl) ?_
  refine lv_iload hx hb d_L_law_1113 (lv_at hl 5 rfl) ?_
  refine lv_iconst (v := (nI 1)) hx hb d_L_law_1115 (by decide) ?_
  refine lv_iadd hx hb d_L_law_1116 ?_
  refine tp_i (y := (nI (i + 1))) (nI_add _ _) ?_
  refine sc_ld hx hb hXs hbl hon (j := i + 1) (by omega) hL d_L_law_1117 ?_
  refine lv_aload_n hx hb d_L_law_1118 rfl (lv_at hl 1 rfl) ?_
  refine lv_iload hx hb d_L_law_1119 (lv_at hl 5 rfl) ?_
  refine lv_iconst (v := (nI 2)) hx hb d_L_law_1121 (by decide) ?_
  refine lv_iadd hx hb d_L_law_1122 ?_
  refine tp_i (y := (nI (i + 2))) (nI_add _ _) ?_
  refine sc_ld hx hb hXs hbl hon (j := i + 2) (by omega) hL d_L_law_1123 ?_
  refine lw_callW hC2 hon (iv_L_law_1124 G hx hb hown (State.WarmedH.refl s) hob1 [.int (xs (i + 1)), .int (xs (i + 2))] [] rfl) hml hl.1 (by rw [hb]; exact d_L_law_1124) (cd_M_cell G (State.WarmedH.refl s)) ⟨Nat.le_of_ble_eq_true rfl, Nat.le_of_ble_eq_true rfl⟩ hcl hsl (Nat.le_of_ble_eq_true rfl) (fun H2 hp2 hon => ?_)
  obtain ⟨hob2, hC4, hLI2, g1, hPo2, hg1⟩ := hC3 H2 hp2
  refine W.eq (g2 := F0 m 1127 ls [.int bv]) rfl ?_
  refine lv_istore (lv' := [(6, .int bv), (5, .int (nI k)), (0, .ref b0), (1, .ref xo), (2, .ref hm), (3, .ref oa), (4, .int (nI i))]) hx hb d_L_law_1127 hl (by decide) rfl (fun ls hl => ?_)
  refine lv_aload_n hx hb d_L_law_1129 rfl (lv_at hl 4 rfl) ?_
  refine mx_callR (r := .int (nI k)) hC4 (State.WarmedH.refl s) (iv_L_law_1130 G hx hb hown (State.WarmedH.refl s) hob2 [] [] rfl) hml hl.1 (by rw [hb]; exact d_L_law_1130) (cd_M_thrown G (State.WarmedH.refl s)) ⟨Nat.le_of_ble_eq_true rfl, Nat.le_of_ble_eq_true rfl⟩ rfl rfl hcl hsl (Nat.le_of_ble_eq_true rfl) ?_
  refine lv_iload hx hb d_L_law_1133 (lv_at hl 1 rfl) ?_
  refine lv_icmp_eq (tgt := 1140) hx hb d_L_law_1135 (by decide) (fun c_1135 => ?_) (fun c_1135 => absurd (rfl) c_1135)
  refine lv_iload hx hb d_L_law_1140 (lv_at hl 1 rfl) ?_
  refine lv_if_ne (tgt := 1157) hx hb d_L_law_1142 (by decide) (fun c_1142 => ?_) (fun c_1142 => ?_)
  · refine lv_goto (tgt := 1320) hx hb d_L_law_1157 (by decide) ?_
    exact hend _ _ hLI2 (lv_sub hl [2, 3, 4, 5, 6] rfl)
  · have hk0 : k = 0 := nI_zero hk5 c_1142
    refine lv_aload_n hx hb d_L_law_1145 rfl (lv_at hl 5 rfl) ?_
    refine lv_iconst (v := (nI 0)) hx hb d_L_law_1146 (by decide) ?_
    refine la_ld (x := Int32.toInt64 bv) hx hb hK hPo2 (hg1 hk0) d_L_law_1147 ?_
    refine lv_iload hx hb d_L_law_1148 (lv_at hl 0 rfl) ?_
    refine lv_i2l hx hb d_L_law_1150 rfl ?_
    refine W.lcmp hx hb d_L_law_1151 ?_
    refine lv_if_eq (tgt := 1157) hx hb d_L_law_1152 (by decide) (fun c_1152 => ?_) (fun c_1152 => absurd ((lg_cmp_eq _ _).mpr rfl) c_1152)
    refine lv_goto (tgt := 1320) hx hb d_L_law_1157 (by decide) ?_
    exact hend _ _ hLI2 (lv_sub hl [2, 3, 4, 5, 6] rfl)
