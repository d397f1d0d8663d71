set_option maxHeartbeats 4000000 in
set_option maxRecDepth 100000 in
theorem l_remove {p : Program} {l : Launch} {e : Env} {s : State} {m : MethodId} {args : Array Value} {below : List Frame} {meth : Method} {c : Code} {Z : State → Prop} {D : va_G} {cI cF cJ : ClassId} (G : Gx l s D cI cF cJ) {b0 L : Nat} {xs : Nat → Int32} (hx : p.tables.exec = Jvm.exec) (hb : c.code = code) (hml : c.maxLocals = 7) (hown : s.vm.findClass "FewBitsLaw" = some m.cls) (hXs : va_X b0 L xs s s.heap) (hbl : b0 < s.heap.size) (hL : L ≤ 3584) {xo fa ma hm a1 a2 a3 a4 a5 a6 a7 a8 a9 a10 a11 oa : Nat} {A0 : Nat → Prop} (hDm : va_D A0 (adM hm a1 a2 a3 a4 a5 a6 a7 a8 a9 a10 a11)) {i cells slots : Nat} {H : Heap} {ls : Array Slot} (hLI : LI s D cI cF cJ xo fa ma hm a1 a2 a3 a4 a5 a6 a7 a8 a9 a10 a11 oa H) (hi : i + 7 ≤ L) (hcl : cells + 4 ≤ room_1.cells) (hsl : slots + 1094 ≤ room_1.slots) (hl : lv_has ls 7 [(0, .ref b0), (1, .ref xo), (2, .ref hm), (3, .ref oa), (4, .int (nI i))]) (hend : ∀ (H2 : Heap) (ls : Array Slot), LI s D cI cF cJ xo fa ma hm a1 a2 a3 a4 a5 a6 a7 a8 a9 a10 a11 oa H2 → lv_has ls 7 [(0, .ref b0), (1, .ref xo), (2, .ref hm), (3, .ref oa), (4, .int (nI i))] → W p l e room_1 s m args below meth c H2 [] (cells + 4) (slots + 1094) Z (F0 m 1320 ls [])) : W p l e room_1 s m args below meth c H [] cells slots Z (F0 m 508 ls []) := by
  have hW : s.WarmedH s.vm := State.WarmedH.refl s
  have hK := G.k (State.WarmedH.refl s)
  have hon := hLI.on
  obtain ⟨k, bv, P1, P2, hk5, hC1, hC2, hC3⟩ := arm_remove G xo fa ma hm a1 a2 a3 a4 a5 a6 a7 a8 a9 a10 a11 oa (xs (i + 1)) (jn (xs (i + 2)) (xs (i + 3))) hDm hLI
  refine lv_aload_n hx hb d_L_law_508 rfl (lv_at hl 1 rfl) ?_
  refine lv_aload_n hx hb d_L_law_509 rfl (lv_at hl 0 rfl) ?_
  refine lv_iload hx hb d_L_law_510 (lv_at hl 4 rfl) ?_
  refine lv_iconst (v := (nI 1)) hx hb d_L_law_512 (by decide) ?_
  refine lv_iadd hx hb d_L_law_513 ?_
  refine tp_i (y := (nI (i + 1))) (nI_add _ _) ?_
  refine sc_ld hx hb hXs hbl hon (j := i + 1) (by omega) hL d_L_law_514 ?_
  refine lv_aload_n hx hb d_L_law_515 rfl (lv_at hl 0 rfl) ?_
  refine lv_iload hx hb d_L_law_516 (lv_at hl 4 rfl) ?_
  refine lv_iconst (v := (nI 2)) hx hb d_L_law_518 (by decide) ?_
  refine lv_iadd hx hb d_L_law_519 ?_
  refine tp_i (y := (nI (i + 2))) (nI_add _ _) ?_
  refine sc_ld hx hb hXs hbl hon (j := i + 2) (by omega) hL d_L_law_520 ?_
  refine lv_i2l hx hb d_L_law_521 rfl ?_
  refine lv_bipush (v := (nI 32)) hx hb d_L_law_522 (by decide) ?_
  refine lv_lshl hx hb d_L_law_524 rfl ?_
  refine lv_aload_n hx hb d_L_law_525 rfl (lv_at hl 0 rfl) ?_
  refine lv_iload hx hb d_L_law_526 (lv_at hl 4 rfl) ?_
  refine lv_iconst (v := (nI 3)) hx hb d_L_law_528 (by decide) ?_
  refine lv_iadd hx hb d_L_law_529 ?_
  refine tp_i (y := (nI (i + 3))) (nI_add _ _) ?_
  refine sc_ld hx hb hXs hbl hon (j := i + 3) (by omega) hL d_L_law_530 ?_
  refine lv_i2l hx hb d_L_law_531 rfl ?_
  refine lv_ldc2 (v := 4294967295) hx hb hown (G.1.at 835 rfl rfl _ hW) d_L_law_532 ?_
  refine lv_land hx hb d_L_law_535 ?_
  refine lv_lor hx hb d_L_law_536 ?_
  refine tp_l (y := (jn (xs (i + 2)) (xs (i + 3)))) rfl ?_
  refine lv_aload_n hx hb d_L_law_537 rfl (lv_at hl 3 rfl) ?_
  refine lw_callW hC1 hon (iv_L_law_538 G hx hb hown (State.WarmedH.refl s) [.ref xo, .int (xs (i + 1)), .long (jn (xs (i + 2)) (xs (i + 3))), .ref oa] [] rfl) hml hl.1 (by rw [hb]; exact d_L_law_538) (cd_L_remove G (State.WarmedH.refl s)) ⟨Nat.le_of_ble_eq_true rfl, Nat.le_of_ble_eq_true rfl⟩ hcl hsl (Nat.le_of_ble_eq_true rfl) (fun H1 hp1 hon => ?_)
  obtain ⟨-, hob1, hC2⟩ := hC2 H1 hp1
  refine W.eq (g2 := F0 m 541 ls [.int (nI k)]) rfl ?_
  refine lv_istore (lv' := [(5, .int (nI k)), (0, .ref b0), (1, .ref xo), (2, .ref hm), (3, .ref oa), (4, .int (nI i))]) hx hb d_L_law_541 hl (by decide) rfl (fun ls hl => ?_)
  refine lv_aload_n hx hb d_L_law_543 rfl (lv_at hl 3 rfl) ?_
  refine lv_aload_n hx hb d_L_law_544 rfl (lv_at hl 1 rfl) ?_
  refine lv_iload hx hb d_L_law_545 (lv_at hl 5 rfl) ?_
  refine lv_iconst (v := (nI 1)) hx hb d_L_law_547 (by decide) ?_
  refine lv_iadd hx hb d_L_law_548 ?_
  refine tp_i (y := (nI (i + 1))) (nI_add _ _) ?_
  refine sc_ld hx hb hXs hbl hon (j := i + 1) (by omega) hL d_L_law_549 ?_
  refine lv_aload_n hx hb d_L_law_550 rfl (lv_at hl 1 rfl) ?_
  refine lv_iload hx hb d_L_law_551 (lv_at hl 5 rfl) ?_
  refine lv_iconst (v := (nI 2)) hx hb d_L_law_553 (by decide) ?_
  refine lv_iadd hx hb d_L_law_554 ?_
  refine tp_i (y := (nI (i + 2))) (nI_add _ _) ?_
  refine sc_ld hx hb hXs hbl hon (j := i + 2) (by omega) hL d_L_law_555 ?_
  refine lv_i2l hx hb d_L_law_556 rfl ?_
  refine lv_bipush (v := (nI 32)) hx hb d_L_law_557 (by decide) ?_
  refine lv_lshl hx hb d_L_law_559 rfl ?_
  refine lv_aload_n hx hb d_L_law_560 rfl (lv_at hl 1 rfl) ?_
  refine lv_iload hx hb d_L_law_561 (lv_at hl 5 rfl) ?_
  refine lv_iconst (v := (nI 3)) hx hb d_L_law_563 (by decide) ?_
  refine lv_iadd hx hb d_L_law_564 ?_
  refine tp_i (y := (nI (i + 3))) (nI_add _ _) ?_
  refine sc_ld hx hb hXs hbl hon (j := i + 3) (by omega) hL d_L_law_565 ?_
  refine lv_i2l hx hb d_L_law_566 rfl ?_
  refine lv_ldc2 (v := 4294967295) hx hb hown (G.1.at 835 rfl rfl _ hW) d_L_law_567 ?_
  refine lv_land hx hb d_L_law_570 ?_
  refine lv_lor hx hb d_L_law_571 ?_
  refine tp_l (y := (jn (xs (i + 2)) (xs (i + 3)))) rfl ?_
  refine lw_callW hC2 hon (iv_L_law_572 G hx hb hown (State.WarmedH.refl s) hob1 [.int (xs (i + 1)), .long (jn (xs (i + 2)) (xs (i + 3)))] [] rfl) hml hl.1 (by rw [hb]; exact d_L_law_572) (cd_M_remove G (State.WarmedH.refl s)) ⟨Nat.le_of_ble_eq_true rfl, Nat.le_of_ble_eq_true rfl⟩ hcl hsl (Nat.le_of_ble_eq_true rfl) (fun H2 hp2 hon => ?_)
  obtain ⟨hob2, hC4, hLI2, g1, hPo2, hg1⟩ := hC3 H2 hp2
  refine W.eq (g2 := F0 m 575 ls [.int bv]) rfl ?_
  refine lv_istore (lv' := [(6, .int bv), (5, .int (nI k)), (0, .ref b0), (1, .ref xo), (2, .ref hm), (3, .ref oa), (4, .int (nI i))]) hx hb d_L_law_575 hl (by decide) rfl (fun ls hl => ?_)
  refine lv_aload_n hx hb d_L_law_577 rfl (lv_at hl 4 rfl) ?_
  refine mx_callR (r := .int (nI k)) hC4 (State.WarmedH.refl s) (iv_L_law_578 G hx hb hown (State.WarmedH.refl s) hob2 [] [] rfl) hml hl.1 (by rw [hb]; exact d_L_law_578) (cd_M_thrown G (State.WarmedH.refl s)) ⟨Nat.le_of_ble_eq_true rfl, Nat.le_of_ble_eq_true rfl⟩ rfl rfl hcl hsl (Nat.le_of_ble_eq_true rfl) ?_
  refine lv_iload hx hb d_L_law_581 (lv_at hl 1 rfl) ?_
  refine lv_icmp_eq (tgt := 588) hx hb d_L_law_583 (by decide) (fun c_583 => ?_) (fun c_583 => absurd (rfl) c_583)
  refine lv_iload hx hb d_L_law_588 (lv_at hl 1 rfl) ?_
  refine lv_if_ne (tgt := 605) hx hb d_L_law_590 (by decide) (fun c_590 => ?_) (fun c_590 => ?_)
  · refine lv_goto (tgt := 1320) hx hb d_L_law_605 (by decide) ?_
    exact hend _ _ hLI2 (lv_sub hl [2, 3, 4, 5, 6] rfl)
  · have hk0 : k = 0 := nI_zero hk5 c_590
    refine lv_aload_n hx hb d_L_law_593 rfl (lv_at hl 5 rfl) ?_
    refine lv_iconst (v := (nI 0)) hx hb d_L_law_594 (by decide) ?_
    refine la_ld (x := Int32.toInt64 bv) hx hb hK hPo2 (hg1 hk0) d_L_law_595 ?_
    refine lv_iload hx hb d_L_law_596 (lv_at hl 0 rfl) ?_
    refine lv_i2l hx hb d_L_law_598 rfl ?_
    refine W.lcmp hx hb d_L_law_599 ?_
    refine lv_if_eq (tgt := 605) hx hb d_L_law_600 (by decide) (fun c_600 => ?_) (fun c_600 => absurd ((lg_cmp_eq _ _).mpr rfl) c_600)
    refine lv_goto (tgt := 1320) hx hb d_L_law_605 (by decide) ?_
    exact hend _ _ hLI2 (lv_sub hl [2, 3, 4, 5, 6] rfl)

set_option maxHeartbeats 4000000 in
set_option maxRecDepth 100000 in
theorem l_has {p : Program} {l : Launch} {e : Env} {s : State} {m : MethodId} {args : Array Value} {below : List Frame} {meth : Method} {c : Code} {Z : State → Prop} {D : va_G} {cI cF cJ : ClassId} (G : Gx l s D cI cF cJ) {b0 L : Nat} {xs : Nat → Int32} (hx : p.tables.exec = Jvm.exec) (hb : c.code = code) (hml : c.maxLocals = 7) (hown : s.vm.findClass "FewBitsLaw" = some m.cls) (hXs : va_X b0 L xs s s.heap) (hbl : b0 < s.heap.size) (hL : L ≤ 3584) {xo fa ma hm a1 a2 a3 a4 a5 a6 a7 a8 a9 a10 a11 oa : Nat} {A0 : Nat → Prop} (hDm : va_D A0 (adM hm a1 a2 a3 a4 a5 a6 a7 a8 a9 a10 a11)) {i cells slots : Nat} {H : Heap} {ls : Array Slot} (hLI : LI s D cI cF cJ xo fa ma hm a1 a2 a3 a4 a5 a6 a7 a8 a9 a10 a11 oa H) (hi : i + 7 ≤ L) (hcl : cells + 4 ≤ room_1.cells) (hsl : slots + 1094 ≤ room_1.slots) (hl : lv_has ls 7 [(0, .ref b0), (1, .ref xo), (2, .ref hm), (3, .ref oa), (4, .int (nI i))]) (hend : ∀ (H2 : Heap) (ls : Array Slot), LI s D cI cF cJ xo fa ma hm a1 a2 a3 a4 a5 a6 a7 a8 a9 a10 a11 oa H2 → lv_has ls 7 [(0, .ref b0), (1, .ref xo), (2, .ref hm), (3, .ref oa), (4, .int (nI i))] → W p l e room_1 s m args below meth c H2 [] (cells + 4) (slots + 1094) Z (F0 m 1320 ls [])) : W p l e room_1 s m args below meth c H [] cells slots Z (F0 m 608 ls []) := by
  have hW : s.WarmedH s.vm := State.WarmedH.refl s
  have hK := G.k (State.WarmedH.refl s)
  have hon := hLI.on
  obtain ⟨k, bv, P1, P2, hk5, hC1, hC2, hC3⟩ := arm_has G xo fa ma hm a1 a2 a3 a4 a5 a6 a7 a8 a9 a10 a11 oa (xs (i + 1)) (jn (xs (i + 2)) (xs (i + 3))) hDm hLI
  refine lv_aload_n hx hb d_L_law_608 rfl (lv_at hl 1 rfl) ?_
  refine lv_aload_n hx hb d_L_law_609 rfl (lv_at hl 0 rfl) ?_
  refine lv_iload hx hb d_L_law_610 (lv_at hl 4 rfl) ?_
  refine lv_iconst (v := (nI 1)) hx hb d_L_law_612 (by decide) ?_
  refine lv_iadd hx hb d_L_law_613 ?_
  refine tp_i (y := (nI (i + 1))) (nI_add _ _) ?_
  refine sc_ld hx hb hXs hbl hon (j := i + 1) (by omega) hL d_L_law_614 ?_
  refine lv_aload_n hx hb d_L_law_615 rfl (lv_at hl 0 rfl) ?_
  refine lv_iload hx hb d_L_law_616 (lv_at hl 4 rfl) ?_
  refine lv_iconst (v := (nI 2)) hx hb d_L_law_618 (by decide) ?_
  refine lv_iadd hx hb d_L_law_619 ?_
  refine tp_i (y := (nI (i + 2))) (nI_add _ _) ?_
  refine sc_ld hx hb hXs hbl hon (j := i + 2) (by omega) hL d_L_law_620 ?_
  refine lv_i2l hx hb d_L_law_621 rfl ?_
  refine lv_bipush (v := (nI 32)) hx hb d_L_law_622 (by decide) ?_
  refine lv_lshl hx hb d_L_law_624 rfl ?_
  refine lv_aload_n hx hb d_L_law_625 rfl (lv_at hl 0 rfl) ?_
  refine lv_iload hx hb d_L_law_626 (lv_at hl 4 rfl) ?_
  refine lv_iconst (v := (nI 3)) hx hb d_L_law_628 (by decide) ?_
  refine lv_iadd hx hb d_L_law_629 ?_
  refine tp_i (y := (nI (i + 3))) (nI_add _ _) ?_
  refine sc_ld hx hb hXs hbl hon (j := i + 3) (by omega) hL d_L_law_630 ?_
  refine lv_i2l hx hb d_L_law_631 rfl ?_
  refine lv_ldc2 (v := 4294967295) hx hb hown (G.1.at 835 rfl rfl _ hW) d_L_law_632 ?_
  refine lv_land hx hb d_L_law_635 ?_
  refine lv_lor hx hb d_L_law_636 ?_
  refine tp_l (y := (jn (xs (i + 2)) (xs (i + 3)))) rfl ?_
  refine lv_aload_n hx hb d_L_law_637 rfl (lv_at hl 3 rfl) ?_
  refine lw_callW hC1 hon (iv_L_law_638 G hx hb hown (State.WarmedH.refl s) [.ref xo, .int (xs (i + 1)), .long (jn (xs (i + 2)) (xs (i + 3))), .ref oa] [] rfl) hml hl.1 (by rw [hb]; exact d_L_law_638) (cd_L_has G (State.WarmedH.refl s)) ⟨Nat.le_of_ble_eq_true rfl, Nat.le_of_ble_eq_true rfl⟩ hcl hsl (Nat.le_of_ble_eq_true rfl) (fun H1 hp1 hon => ?_)
  obtain ⟨-, hob1, hC2⟩ := hC2 H1 hp1
  refine W.eq (g2 := F0 m 641 ls [.int (nI k)]) rfl ?_
  refine lv_istore (lv' := [(5, .int (nI k)), (0, .ref b0), (1, .ref xo), (2, .ref hm), (3, .ref oa), (4, .int (nI i))]) hx hb d_L_law_641 hl (by decide) rfl (fun ls hl => ?_)
  refine lv_aload_n hx hb d_L_law_643 rfl (lv_at hl 3 rfl) ?_
  refine lv_aload_n hx hb d_L_law_644 rfl (lv_at hl 1 rfl) ?_
  refine lv_iload hx hb d_L_law_645 (lv_at hl 5 rfl) ?_
  refine lv_iconst (v := (nI 1)) hx hb d_L_law_647 (by decide) ?_
  refine lv_iadd hx hb d_L_law_648 ?_
  refine tp_i (y := (nI (i + 1))) (nI_add _ _) ?_
  refine sc_ld hx hb hXs hbl hon (j := i + 1) (by omega) hL d_L_law_649 ?_
  refine lv_aload_n hx hb d_L_law_650 rfl (lv_at hl 1 rfl) ?_
  refine lv_iload hx hb d_L_law_651 (lv_at hl 5 rfl) ?_
  refine lv_iconst (v := (nI 2)) hx hb d_L_law_653 (by decide) ?_
  refine lv_iadd hx hb d_L_law_654 ?_
  refine tp_i (y := (nI (i + 2))) (nI_add _ _) ?_
  refine sc_ld hx hb hXs hbl hon (j := i + 2) (by omega) hL d_L_law_655 ?_
  refine lv_i2l hx hb d_L_law_656 rfl ?_
  refine lv_bipush (v := (nI 32)) hx hb d_L_law_657 (by decide) ?_
  refine lv_lshl hx hb d_L_law_659 rfl ?_
  refine lv_aload_n hx hb d_L_law_660 rfl (lv_at hl 1 rfl) ?_
  refine lv_iload hx hb d_L_law_661 (lv_at hl 5 rfl) ?_
  refine lv_iconst (v := (nI 3)) hx hb d_L_law_663 (by decide) ?_
  refine lv_iadd hx hb d_L_law_664 ?_
  refine tp_i (y := (nI (i + 3))) (nI_add _ _) ?_
  refine sc_ld hx hb hXs hbl hon (j := i + 3) (by omega) hL d_L_law_665 ?_
  refine lv_i2l hx hb d_L_law_666 rfl ?_
  refine lv_ldc2 (v := 4294967295) hx hb hown (G.1.at 835 rfl rfl _ hW) d_L_law_667 ?_
  refine lv_land hx hb d_L_law_670 ?_
  refine lv_lor hx hb d_L_law_671 ?_
  refine tp_l (y := (jn (xs (i + 2)) (xs (i + 3)))) rfl ?_
  refine lw_callW hC2 hon (iv_L_law_672 G hx hb hown (State.WarmedH.refl s) hob1 [.int (xs (i + 1)), .long (jn (xs (i + 2)) (xs (i + 3)))] [] rfl) hml hl.1 (by rw [hb]; exact d_L_law_672) (cd_M_has G (State.WarmedH.refl s)) ⟨Nat.le_of_ble_eq_true rfl, Nat.le_of_ble_eq_true rfl⟩ hcl hsl (Nat.le_of_ble_eq_true rfl) (fun H2 hp2 hon => ?_)
  obtain ⟨hob2, hC4, hLI2, g1, hPo2, hg1⟩ := hC3 H2 hp2
  refine W.eq (g2 := F0 m 675 ls [.int bv]) rfl ?_
  refine lv_istore (lv' := [(6, .int bv), (5, .int (nI k)), (0, .ref b0), (1, .ref xo), (2, .ref hm), (3, .ref oa), (4, .int (nI i))]) hx hb d_L_law_675 hl (by decide) rfl (fun ls hl => ?_)
  refine lv_aload_n hx hb d_L_law_677 rfl (lv_at hl 4 rfl) ?_
  refine mx_callR (r := .int (nI k)) hC4 (State.WarmedH.refl s) (iv_L_law_678 G hx hb hown (State.WarmedH.refl s) hob2 [] [] rfl) hml hl.1 (by rw [hb]; exact d_L_law_678) (cd_M_thrown G (State.WarmedH.refl s)) ⟨Nat.le_of_ble_eq_true rfl, Nat.le_of_ble_eq_true rfl⟩ rfl rfl hcl hsl (Nat.le_of_ble_eq_true rfl) ?_
  refine lv_iload hx hb d_L_law_681 (lv_at hl 1 rfl) ?_
  refine lv_icmp_eq (tgt := 688) hx hb d_L_law_683 (by decide) (fun c_683 => ?_) (fun c_683 => absurd (rfl) c_683)
  refine lv_iload hx hb d_L_law_688 (lv_at hl 1 rfl) ?_
  refine lv_if_ne (tgt := 712) hx hb d_L_law_690 (by decide) (fun c_690 => ?_) (fun c_690 => ?_)
  · refine lv_goto (tgt := 1320) hx hb d_L_law_712 (by decide) ?_
    exact hend _ _ hLI2 (lv_sub hl [2, 3, 4, 5, 6] rfl)
  · have hk0 : k = 0 := nI_zero hk5 c_690
    refine lv_aload_n hx hb d_L_law_693 rfl (lv_at hl 5 rfl) ?_
    refine lv_iconst (v := (nI 0)) hx hb d_L_law_694 (by decide) ?_
    refine la_ld (x := zl bv) hx hb hK hPo2 (hg1 hk0) d_L_law_695 ?_
    refine lv_iload hx hb d_L_law_696 (lv_at hl 0 rfl) ?_
    refine lv_if_eq (tgt := 705) hx hb d_L_law_698 (by decide) (fun c_698 => ?_) (fun c_698 => ?_)
    · refine lv_lconst (v := 0) hx hb d_L_law_705 (by decide) ?_
      refine W.lcmp hx hb d_L_law_706 ?_
      refine lv_if_eq (tgt := 712) hx hb d_L_law_707 (by decide) (fun c_707 => ?_) (fun c_707 => absurd ((lg_cmp_eq _ _).mpr (by unfold zl; rw [if_pos c_698])) c_707)
      refine lv_goto (tgt := 1320) hx hb d_L_law_712 (by decide) ?_
      exact hend _ _ hLI2 (lv_sub hl [2, 3, 4, 5, 6] rfl)
    · refine lv_lconst (v := 1) hx hb d_L_law_701 (by decide) ?_
      refine lv_goto (tgt := 706) hx hb d_L_law_702 (by decide) ?_
      refine W.lcmp hx hb d_L_law_706 ?_
      refine lv_if_eq (tgt := 712) hx hb d_L_law_707 (by decide) (fun c_707 => ?_) (fun c_707 => absurd ((lg_cmp_eq _ _).mpr (by unfold zl; rw [if_neg c_698])) c_707)
      refine lv_goto (tgt := 1320) hx hb d_L_law_712 (by decide) ?_
      exact hend _ _ hLI2 (lv_sub hl [2, 3, 4, 5, 6] rfl)

set_option maxHeartbeats 4000000 in
set_option maxRecDepth 100000 in
theorem l_hasAll {p : Program} {l : Launch} {e : Env} {s : State} {m : MethodId} {args : Array Value} {below : List Frame} {meth : Method} {c : Code} {Z : State → Prop} {D : va_G} {cI cF cJ : ClassId} (G : Gx l s D cI cF cJ) {b0 L : Nat} {xs : Nat → Int32} (hx : p.tables.exec = Jvm.exec) (hb : c.code = code) (hml : c.maxLocals = 7) (hown : s.vm.findClass "FewBitsLaw" = some m.cls) (hXs : va_X b0 L xs s s.heap) (hbl : b0 < s.heap.size) (hL : L ≤ 3584) {xo fa ma hm a1 a2 a3 a4 a5 a6 a7 a8 a9 a10 a11 oa : Nat} {A0 : Nat → Prop} (hDm : va_D A0 (adM hm a1 a2 a3 a4 a5 a6 a7 a8 a9 a10 a11)) {i cells slots : Nat} {H : Heap} {ls : Array Slot} (hLI : LI s D cI cF cJ xo fa ma hm a1 a2 a3 a4 a5 a6 a7 a8 a9 a10 a11 oa H) (hi : i + 7 ≤ L) (hcl : cells + 4 ≤ room_1.cells) (hsl : slots + 1094 ≤ room_1.slots) (hl : lv_has ls 7 [(0, .ref b0), (1, .ref xo), (2, .ref hm), (3, .ref oa), (4, .int (nI i))]) (hend : ∀ (H2 : Heap) (ls : Array Slot), LI s D cI cF cJ xo fa ma hm a1 a2 a3 a4 a5 a6 a7 a8 a9 a10 a11 oa H2 → lv_has ls 7 [(0, .ref b0), (1, .ref xo), (2, .ref hm), (3, .ref oa), (4, .int (nI i))] → W p l e room_1 s m args below meth c H2 [] (cells + 4) (slots + 1094) Z (F0 m 1320 ls [])) : W p l e room_1 s m args below meth c H [] cells slots Z (F0 m 715 ls []) := by
  have hW : s.WarmedH s.vm := State.WarmedH.refl s
  have hK := G.k (State.WarmedH.refl s)
  have hon := hLI.on
  obtain ⟨k, bv, P1, P2, hk5, hC1, hC2, hC3⟩ := arm_hasAll G xo fa ma hm a1 a2 a3 a4 a5 a6 a7 a8 a9 a10 a11 oa (xs (i + 1)) (jn (xs (i + 2)) (xs (i + 3))) (jn (xs (i + 4)) (xs (i + 5))) (xs (i + 6)) hDm hLI
  refine lv_aload_n hx hb d_L_law_715 rfl (lv_at hl 1 rfl) ?_
  refine lv_aload_n hx hb d_L_law_716 rfl (lv_at hl 0 rfl) ?_
  refine lv_iload hx hb d_L_law_717 (lv_at hl 4 rfl) ?_
  refine lv_iconst (v := (nI 1)) hx hb d_L_law_719 (by decide) ?_
  refine lv_iadd hx hb d_L_law_720 ?_
  refine tp_i (y := (nI (i + 1))) (nI_add _ _) ?_
  refine sc_ld hx hb hXs hbl hon (j := i + 1) (by omega) hL d_L_law_721 ?_
  refine lv_aload_n hx hb d_L_law_722 rfl (lv_at hl 0 rfl) ?_
  refine lv_iload hx hb d_L_law_723 (lv_at hl 4 rfl) ?_
  refine lv_iconst (v := (nI 2)) hx hb d_L_law_725 (by decide) ?_
  refine lv_iadd hx hb d_L_law_726 ?_
  refine tp_i (y := (nI (i + 2))) (nI_add _ _) ?_
  refine sc_ld hx hb hXs hbl hon (j := i + 2) (by omega) hL d_L_law_727 ?_
  refine lv_i2l hx hb d_L_law_728 rfl ?_
  refine lv_bipush (v := (nI 32)) hx hb d_L_law_729 (by decide) ?_
  refine lv_lshl hx hb d_L_law_731 rfl ?_
  refine lv_aload_n hx hb d_L_law_732 rfl (lv_at hl 0 rfl) ?_
  refine lv_iload hx hb d_L_law_733 (lv_at hl 4 rfl) ?_
  refine lv_iconst (v := (nI 3)) hx hb d_L_law_735 (by decide) ?_
  refine lv_iadd hx hb d_L_law_736 ?_
  refine tp_i (y := (nI (i + 3))) (nI_add _ _) ?_
  refine sc_ld hx hb hXs hbl hon (j := i + 3) (by omega) hL d_L_law_737 ?_
  refine lv_i2l hx hb d_L_law_738 rfl ?_
  refine lv_ldc2 (v := 4294967295) hx hb hown (G.1.at 835 rfl rfl _ hW) d_L_law_739 ?_
  refine lv_land hx hb d_L_law_742 ?_
  refine lv_lor hx hb d_L_law_743 ?_
  refine tp_l (y := (jn (xs (i + 2)) (xs (i + 3)))) rfl ?_
  refine lv_aload_n hx hb d_L_law_744 rfl (lv_at hl 0 rfl) ?_
  refine lv_iload hx hb d_L_law_745 (lv_at hl 4 rfl) ?_
  refine lv_iconst (v := (nI 4)) hx hb d_L_law_747 (by decide) ?_
  refine lv_iadd hx hb d_L_law_748 ?_
  refine tp_i (y := (nI (i + 4))) (nI_add _ _) ?_
  refine sc_ld hx hb hXs hbl hon (j := i + 4) (by omega) hL d_L_law_749 ?_
  refine lv_i2l hx hb d_L_law_750 rfl ?_
  refine lv_bipush (v := (nI 32)) hx hb d_L_law_751 (by decide) ?_
  refine lv_lshl hx hb d_L_law_753 rfl ?_
  refine lv_aload_n hx hb d_L_law_754 rfl (lv_at hl 0 rfl) ?_
  refine lv_iload hx hb d_L_law_755 (lv_at hl 4 rfl) ?_
  refine lv_iconst (v := (nI 5)) hx hb d_L_law_757 (by decide) ?_
  refine lv_iadd hx hb d_L_law_758 ?_
  refine tp_i (y := (nI (i + 5))) (nI_add _ _) ?_
  refine sc_ld hx hb hXs hbl hon (j := i + 5) (by omega) hL d_L_law_759 ?_
  refine lv_i2l hx hb d_L_law_760 rfl ?_
  refine lv_ldc2 (v := 4294967295) hx hb hown (G.1.at 835 rfl rfl _ hW) d_L_law_761 ?_
  refine lv_land hx hb d_L_law_764 ?_
  refine lv_lor hx hb d_L_law_765 ?_
  refine tp_l (y := (jn (xs (i + 4)) (xs (i + 5)))) rfl ?_
  refine lv_aload_n hx hb d_L_law_766 rfl (lv_at hl 0 rfl) ?_
  refine lv_iload hx hb d_L_law_767 (lv_at hl 4 rfl) ?_
  refine lv_bipush (v := (nI 6)) hx hb d_L_law_769 (by decide) ?_
  refine lv_iadd hx hb d_L_law_771 ?_
  refine tp_i (y := (nI (i + 6))) (nI_add _ _) ?_
  refine sc_ld hx hb hXs hbl hon (j := i + 6) (by omega) hL d_L_law_772 ?_
  refine lv_aload_n hx hb d_L_law_773 rfl (lv_at hl 3 rfl) ?_
  refine lw_callW hC1 hon (iv_L_law_774 G hx hb hown (State.WarmedH.refl s) [.ref xo, .int (xs (i + 1)), .long (jn (xs (i + 2)) (xs (i + 3))), .long (jn (xs (i + 4)) (xs (i + 5))), .int (xs (i + 6)), .ref oa] [] rfl) hml hl.1 (by rw [hb]; exact d_L_law_774) (cd_L_hasAll G (State.WarmedH.refl s)) ⟨Nat.le_of_ble_eq_true rfl, Nat.le_of_ble_eq_true rfl⟩ hcl hsl (Nat.le_of_ble_eq_true rfl) (fun H1 hp1 hon => ?_)
  obtain ⟨-, hob1, hC2⟩ := hC2 H1 hp1
  refine W.eq (g2 := F0 m 777 ls [.int (nI k)]) rfl ?_
  refine lv_istore (lv' := [(5, .int (nI k)), (0, .ref b0), (1, .ref xo), (2, .ref hm), (3, .ref oa), (4, .int (nI i))]) hx hb d_L_law_777 hl (by decide) rfl (fun ls hl => ?_)
  refine lv_aload_n hx hb d_L_law_779 rfl (lv_at hl 3 rfl) ?_
  refine lv_aload_n hx hb d_L_law_780 rfl (lv_at hl 1 rfl) ?_
  refine lv_iload hx hb d_L_law_781 (lv_at hl 5 rfl) ?_
  refine lv_iconst (v := (nI 1)) hx hb d_L_law_783 (by decide) ?_
  refine lv_iadd hx hb d_L_law_784 ?_
  refine tp_i (y := (nI (i + 1))) (nI_add _ _) ?_
  refine sc_ld hx hb hXs hbl hon (j := i + 1) (by omega) hL d_L_law_785 ?_
  refine lv_aload_n hx hb d_L_law_786 rfl (lv_at hl 1 rfl) ?_
  refine lv_iload hx hb d_L_law_787 (lv_at hl 5 rfl) ?_
  refine lv_iconst (v := (nI 2)) hx hb d_L_law_789 (by decide) ?_
  refine lv_iadd hx hb d_L_law_790 ?_
  refine tp_i (y := (nI (i + 2))) (nI_add _ _) ?_
  refine sc_ld hx hb hXs hbl hon (j := i + 2) (by omega) hL d_L_law_791 ?_
  refine lv_i2l hx hb d_L_law_792 rfl ?_
  refine lv_bipush (v := (nI 32)) hx hb d_L_law_793 (by decide) ?_
  refine lv_lshl hx hb d_L_law_795 rfl ?_
  refine lv_aload_n hx hb d_L_law_796 rfl (lv_at hl 1 rfl) ?_
  refine lv_iload hx hb d_L_law_797 (lv_at hl 5 rfl) ?_
  refine lv_iconst (v := (nI 3)) hx hb d_L_law_799 (by decide) ?_
  refine lv_iadd hx hb d_L_law_800 ?_
  refine tp_i (y := (nI (i + 3))) (nI_add _ _) ?_
  refine sc_ld hx hb hXs hbl hon (j := i + 3) (by omega) hL d_L_law_801 ?_
  refine lv_i2l hx hb d_L_law_802 rfl ?_
  refine lv_ldc2 (v := 4294967295) hx hb hown (G.1.at 835 rfl rfl _ hW) d_L_law_803 ?_
  refine lv_land hx hb d_L_law_806 ?_
  refine lv_lor hx hb d_L_law_807 ?_
  refine tp_l (y := (jn (xs (i + 2)) (xs (i + 3)))) rfl ?_
  refine lv_aload_n hx hb d_L_law_808 rfl (lv_at hl 1 rfl) ?_
  refine lv_iload hx hb d_L_law_809 (lv_at hl 5 rfl) ?_
  refine lv_iconst (v := (nI 4)) hx hb d_L_law_811 (by decide) ?_
  refine lv_iadd hx hb d_L_law_812 ?_
  refine tp_i (y := (nI (i + 4))) (nI_add _ _) ?_
  refine sc_ld hx hb hXs hbl hon (j := i + 4) (by omega) hL d_L_law_813 ?_
  refine lv_i2l hx hb d_L_law_814 rfl ?_
  refine lv_bipush (v := (nI 32)) hx hb d_L_law_815 (by decide) ?_
  refine lv_lshl hx hb d_L_law_817 rfl ?_
  refine lv_aload_n hx hb d_L_law_818 rfl (lv_at hl 1 rfl) ?_
  refine lv_iload hx hb d_L_law_819 (lv_at hl 5 rfl) ?_
  refine lv_iconst (v := (nI 5)) hx hb d_L_law_821 (by decide) ?_
  refine lv_iadd hx hb d_L_law_822 ?_
  refine tp_i (y := (nI (i + 5))) (nI_add _ _) ?_
  refine sc_ld hx hb hXs hbl hon (j := i + 5) (by omega) hL d_L_law_823 ?_
  refine lv_i2l hx hb d_L_law_824 rfl ?_
  refine lv_ldc2 (v := 4294967295) hx hb hown (G.1.at 835 rfl rfl _ hW) d_L_law_825 ?_
  refine lv_land hx hb d_L_law_828 ?_
  refine lv_lor hx hb d_L_law_829 ?_
  refine tp_l (y := (jn (xs (i + 4)) (xs (i + 5)))) rfl ?_
  refine lv_aload_n hx hb d_L_law_830 rfl (lv_at hl 1 rfl) ?_
  refine lv_iload hx hb d_L_law_831 (lv_at hl 5 rfl) ?_
  refine lv_bipush (v := (nI 6)) hx hb d_L_law_833 (by decide) ?_
  refine lv_iadd hx hb d_L_law_835 ?_
  refine tp_i (y := (nI (i + 6))) (nI_add _ _) ?_
  refine sc_ld hx hb hXs hbl hon (j := i + 6) (by omega) hL d_L_law_836 ?_
  refine lw_callW hC2 hon (iv_L_law_837 G hx hb hown (State.WarmedH.refl s) hob1 [.int (xs (i + 1)), .long (jn (xs (i + 2)) (xs (i + 3))), .long (jn (xs (i + 4)) (xs (i + 5))), .int (xs (i + 6))] [] rfl) hml hl.1 (by rw [hb]; exact d_L_law_837) (cd_M_hasAll G (State.WarmedH.refl s)) ⟨Nat.le_of_ble_eq_true rfl, Nat.le_of_ble_eq_true rfl⟩ hcl hsl (Nat.le_of_ble_eq_true rfl) (fun H2 hp2 hon => ?_)
  obtain ⟨hob2, hC4, hLI2, g1, hPo2, hg1⟩ := hC3 H2 hp2
  refine W.eq (g2 := F0 m 840 ls [.int bv]) rfl ?_
  refine lv_istore (lv' := [(6, .int bv), (5, .int (nI k)), (0, .ref b0), (1, .ref xo), (2, .ref hm), (3, .ref oa), (4, .int (nI i))]) hx hb d_L_law_840 hl (by decide) rfl (fun ls hl => ?_)
  refine lv_aload_n hx hb d_L_law_842 rfl (lv_at hl 4 rfl) ?_
  refine mx_callR (r := .int (nI k)) hC4 (State.WarmedH.refl s) (iv_L_law_843 G hx hb hown (State.WarmedH.refl s) hob2 [] [] rfl) hml hl.1 (by rw [hb]; exact d_L_law_843) (cd_M_thrown G (State.WarmedH.refl s)) ⟨Nat.le_of_ble_eq_true rfl, Nat.le_of_ble_eq_true rfl⟩ rfl rfl hcl hsl (Nat.le_of_ble_eq_true rfl) ?_
  refine lv_iload hx hb d_L_law_846 (lv_at hl 1 rfl) ?_
  refine lv_icmp_eq (tgt := 853) hx hb d_L_law_848 (by decide) (fun c_848 => ?_) (fun c_848 => absurd (rfl) c_848)
  refine lv_iload hx hb d_L_law_853 (lv_at hl 1 rfl) ?_
  refine lv_if_ne (tgt := 870) hx hb d_L_law_855 (by decide) (fun c_855 => ?_) (fun c_855 => ?_)
  · refine lv_goto (tgt := 1320) hx hb d_L_law_870 (by decide) ?_
    exact hend _ _ hLI2 (lv_sub hl [2, 3, 4, 5, 6] rfl)
  · have hk0 : k = 0 := nI_zero hk5 c_855
    refine lv_aload_n hx hb d_L_law_858 rfl (lv_at hl 5 rfl) ?_
    refine lv_iconst (v := (nI 0)) hx hb d_L_law_859 (by decide) ?_
    refine la_ld (x := Int32.toInt64 bv) hx hb hK hPo2 (hg1 hk0) d_L_law_860 ?_
    refine lv_iload hx hb d_L_law_861 (lv_at hl 0 rfl) ?_
    refine lv_i2l hx hb d_L_law_863 rfl ?_
    refine W.lcmp hx hb d_L_law_864 ?_
    refine lv_if_eq (tgt := 870) hx hb d_L_law_865 (by decide) (fun c_865 => ?_) (fun c_865 => absurd ((lg_cmp_eq _ _).mpr rfl) c_865)
    refine lv_goto (tgt := 1320) hx hb d_L_law_870 (by decide) ?_
    exact hend _ _ hLI2 (lv_sub hl [2, 3, 4, 5, 6] rfl)
