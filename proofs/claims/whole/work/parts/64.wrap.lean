/-! the law's wrappers: a call of the class, its refusal as a number -/
theorem kept1 {D : va_G} {cl : List vw_C} {a : Nat} {e : va_E} {H H1 : Heap} (hP : va_P D cl [(a, e)] H) (h : a < H.size → H1[a]? = H[a]?) : va_P D cl [(a, e)] H1 := by
  refine hP.kept (fun k x hx => ?_)
  have h0 := (hP k x hx).lt
  rcases k with _ | k
  · cases hx; exact h h0
  · simp at hx
section ROWSL
variable {p : Program} {l : Launch} {e : Env} {R : Room} {s : State} {m : MethodId} {args : Array Value} {below : List Frame} {meth : Method} {c : Code} {H : Heap} {locs : List Loc} {cells slots : Nat} {Q : State → Prop}
variable {cc : ByteArray} {pc : Nat} {ls : Array Slot} {rest : List Value} {D : va_G} {cI cF cJ : ClassId} {a : Nat}
/-- out[0] = x -/
theorem la_st (hx : p.tables.exec = Jvm.exec) (hb : c.code = cc) (hK : va_K D vcl (tys cI cF cJ) s) {g : Nat → Int64} {x : Int64} (hP : va_P D vcl [(a, aJ cJ 1 g)] H) (hdg : decode cc pc = .ok (.lastore, 1))
    (kk : ∀ (H1 : Heap) (L : List Loc) (g1 : Nat → Int64), g1 0 = x → va_P D vcl [(a, aJ cJ 1 g1)] H1 → H1.size = H.size → (∀ q : Nat, q ≠ a → H1[q]? = H[q]?) → (∀ q ∈ L, q.base = a) → W p l e R s m args below meth c H1 (locs ++ L) cells slots Q (F0 m (pc + 1) ls rest)) :
    W p l e R s m args below meth c H locs cells slots Q (F0 m pc ls (.long x :: .int (nI 0) :: .ref a :: rest)) := by
  have h0 : (nI 0).toNatClampNeg = 0 := by decide
  have hD : va_D (fun _ => True) [(a, aJ cJ 1 g)] := ⟨fun i j p q hi hj _ => by
    rcases i with _ | i
    · rcases j with _ | j
      · rfl
      · simp at hj
    · simp at hi, fun _ _ _ => trivial⟩
  refine W.last hx hb (hP 0 _ rfl) ((hK.2 2 _ rfl).1 1 (fun j => .long (g j))) (fun q => by cases q) (by show ¬ (nI 0 < 0 ∨ (arrV _ _ _).slots.size ≤ _); rw [arrV_size]; exact nI_in (c := 0) (N := 1) (by decide) (by decide)) rfl rfl hdg fun H1 e9 z oq => ?_
  refine kk H1 _ (vp_updL g (nI 0).toNatClampNeg x) (by rw [h0]; simp [vp_updL]) (hP.set (p := 0) hD rfl ?_ oq) z oq (fun q hq => by rw [List.mem_singleton.mp hq])
  show H1[a]? = some (vp_cell _ _)
  rw [e9]
  rw [vp_cell_l, vp_cell_l, arrV_store]
  congr 2
  funext q
  by_cases hq : q = (nI 0).toNatClampNeg
  · subst hq
    simp [updV, vp_updL]
  · simp [updV, vp_updL, hq]
end ROWSL
/-- what out gets of a yes or no -/
def zl (w : Int32) : Int64 := if w = 0 then 0 else 1

set_option maxHeartbeats 4000000 in
set_option maxRecDepth 100000 in
theorem w_make {l : Launch} {s0 : State} {D : va_G} {cI cF cJ : ClassId} (G : Gx l s0 D cI cF cJ) (xo fa ma : Nat) (v : Int32) (k9 : Int32) (a : Int32) (b : Int32) {c0 : Option String} {k0 : Nat} {P : Heap → Prop} {F : Nat → Prop} {H0 : Heap} (hck : (c0, k0) ∈ [(none, 0), (some E_I, 1), (some E_A, 2)]) (hC : Mx l s0 y_F_make (.code y_F_make b_F_make 6 none) { frames := 8, cells := 4, slots := 1094, locals := 180 } [.ref xo, .int v, .int k9, .int a, .int b] H0 F (Rq s0 c0 none P)) (hPx : va_P D vcl [(xo, .inr (3, [.ref fa, .ref ma]))] H0) : Mx l s0 y_L_make (.codeWith y_L_make b_L_make 6 (some .int) [(0, 9, 12, 13), (0, 9, 16, 15)]) { frames := 9, cells := 4, slots := 1094, locals := 215 } [.ref xo, .int v, .int k9, .int a, .int b] H0 F (Rw (.int (nI k0)) P) := by
  refine Mx.ofWH (own := "FewBitsLaw") rfl rfl ?_
  rintro p e s m below meth c ⟨hx, hb, hml, hr, hown, hW, hlk⟩ het hH
  have hK := G.k hW
  have hl := lv_entry ([.ref xo, .int v, .int k9, .int a, .int b]) (n := 6) (Nat.le_of_ble_eq_true rfl)
  rw [lg_entry_eq]
  generalize (lg_sl ([.ref xo, .int v, .int k9, .int a, .int b]) ++ List.replicate (6 - (lg_sl ([.ref xo, .int v, .int k9, .int a, .int b])).length) Slot.unset).toArray = ls at hl ⊢
  have hl : lv_has ls 6 [(0, .ref xo), (1, .int v), (2, .int k9), (3, .int a), (4, .int b)] := hl
  refine lv_aload_n hx hb d_L_make_0 rfl (lv_at hl 0 rfl) ?_
  refine lv_iload_n hx hb d_L_make_1 rfl (lv_at hl 1 rfl) ?_
  refine lv_iload_n hx hb d_L_make_2 rfl (lv_at hl 2 rfl) ?_
  refine lv_iload_n hx hb d_L_make_3 rfl (lv_at hl 3 rfl) ?_
  refine lv_iload hx hb d_L_make_4 (lv_at hl 4 rfl) ?_
  refine mx_call hC hW (iv_L_make_6 G hx hb hown hW (va_recv hK hPx (ci := 3) (q0 := 0) rfl rfl) [.int v, .int k9, .int a, .int b] [] rfl) hml hl.1 (by rw [hb]; exact d_L_make_6) (cd_F_make G hW) ⟨Nat.le_of_ble_eq_true rfl, Nat.le_of_ble_eq_true rfl⟩ (Nat.le_of_ble_eq_true rfl) (Nat.le_of_ble_eq_true rfl) (Nat.le_of_ble_eq_true rfl) (fun v9 H1 L hq hz hk hL => ?_) (fun q H1 L hq hz hk hL => ?_)
  · obtain ⟨hs9, hp⟩ := hq
    cases c0 with
    | some E => obtain ⟨q, h9, -⟩ := hs9; cases h9
    | none =>
      have hk0 : k0 = 0 := by simpa using hck
      subst hk0
      have hs9 : Outcome.returned v9 = .returned none := hs9
      cases hs9
      refine W.eq (g2 := F0 m 9 ls []) rfl ?_
      refine lv_goto (tgt := 20) hx hb d_L_make_9 (by decide) ?_
      refine lv_iconst (v := (nI 0)) hx hb d_L_make_20 (by decide) ?_
      exact mx_iret hx hb hr hlk d_L_make_21 (Nat.le_of_ble_eq_true rfl) (Nat.le_of_ble_eq_true rfl) (fun q9 h9 => hL q9 h9) (⟨rfl, hp⟩)
  · obtain ⟨hs9, hp⟩ := hq
    cases c0 with
    | none => exact absurd (show Outcome.threw q = .returned none from hs9) (fun h => by cases h)
    | some E =>
      obtain ⟨q2, h9, ho⟩ := hs9
      cases h9
      rcases List.mem_cons.mp hck with h9 | hck
      · cases h9
      rcases List.mem_cons.mp hck with h9 | hck
      · cases h9
        refine mx_catch (own := "FewBitsLaw") (E := E_I) (nx := E_I) hW hown [] ⟨0, 9, 12, 13⟩ [⟨0, 9, 16, 15⟩] het (fun y hy => ?_) (by decide) (by decide) (G.1.at 48 rfl rfl _ hW) (G.1.tab 65 rfl rfl _ hW) ho ?_
        · exact absurd hy List.not_mem_nil
        · refine W.eq (g2 := F0 m 12 ls [.ref q]) rfl ?_
          refine lv_astore (lv' := [(5, .ref q), (0, .ref xo), (1, .int v), (2, .int k9), (3, .int a), (4, .int b)]) hx hb d_L_make_12 hl (by decide) rfl (fun ls hl => ?_)
          refine lv_iconst (v := (nI 1)) hx hb d_L_make_14 (by decide) ?_
          exact mx_iret hx hb hr hlk d_L_make_15 (Nat.le_of_ble_eq_true rfl) (Nat.le_of_ble_eq_true rfl) (fun q9 h9 => hL q9 h9) (⟨rfl, hp⟩)
      rcases List.mem_cons.mp hck with h9 | hck
      · cases h9
        refine mx_catch (own := "FewBitsLaw") (E := E_A) (nx := E_A) hW hown [⟨0, 9, 12, 13⟩] ⟨0, 9, 16, 15⟩ [] het (fun y hy => ?_) (by decide) (by decide) (G.1.at 49 rfl rfl _ hW) (G.1.tab 138 rfl rfl _ hW) ho ?_
        · rcases List.mem_cons.mp hy with rfl | hy
          · exact ⟨by decide, by decide, E_I, G.1.at 48 rfl rfl _ hW, nc_AI G hW⟩
          exact absurd hy List.not_mem_nil
        · refine W.eq (g2 := F0 m 16 ls [.ref q]) rfl ?_
          refine lv_astore (lv' := [(5, .ref q), (0, .ref xo), (1, .int v), (2, .int k9), (3, .int a), (4, .int b)]) hx hb d_L_make_16 hl (by decide) rfl (fun ls hl => ?_)
          refine lv_iconst (v := (nI 2)) hx hb d_L_make_18 (by decide) ?_
          exact mx_iret hx hb hr hlk d_L_make_19 (Nat.le_of_ble_eq_true rfl) (Nat.le_of_ble_eq_true rfl) (fun q9 h9 => hL q9 h9) (⟨rfl, hp⟩)
      exact absurd hck List.not_mem_nil

set_option maxHeartbeats 4000000 in
set_option maxRecDepth 100000 in
theorem w_add {l : Launch} {s0 : State} {D : va_G} {cI cF cJ : ClassId} (G : Gx l s0 D cI cF cJ) (xo fa ma oa : Nat) (v : Int32) (x : Int64) {c0 : Option String} {k0 : Nat} {w : Int32} {P : Heap → Prop} {F : Nat → Prop} {g : Nat → Int64} {H0 : Heap} (hck : (c0, k0) ∈ [(none, 0), (some E_I, 1), (some E_S, 2), (some E_U, 3)]) (hC : Mx l s0 y_F_add (.code y_F_add b_F_add 5 (some .int)) { frames := 8, cells := 4, slots := 1094, locals := 180 } [.ref xo, .int v, .long x] H0 F (Rq s0 c0 (some (.int w)) P)) (hPx : va_P D vcl [(xo, .inr (3, [.ref fa, .ref ma]))] H0) (hPo : va_P D vcl [(oa, aJ cJ 1 g)] H0) (hFo : ¬ F oa) (hPs : ∀ H1 H2 : Heap, P H1 → H2.size = H1.size → (∀ q : Nat, q ≠ oa → H2[q]? = H1[q]?) → P H2) : Mx l s0 y_L_add (.codeWith y_L_add b_L_add 6 (some .int) [(0, 11, 14, 13), (0, 11, 18, 21), (0, 11, 22, 23)]) { frames := 9, cells := 4, slots := 1094, locals := 215 } [.ref xo, .int v, .long x, .ref oa] H0 (fun q => F q ∨ q = oa) (Rw (.int (nI k0)) (fun H1 => P H1 ∧ ∃ g1 : Nat → Int64, va_P D vcl [(oa, aJ cJ 1 g1)] H1 ∧ (k0 = 0 → g1 0 = Int32.toInt64 w))) := by
  refine Mx.ofWH (own := "FewBitsLaw") rfl rfl ?_
  rintro p e s m below meth c ⟨hx, hb, hml, hr, hown, hW, hlk⟩ het hH
  have hK := G.k hW
  have hl := lv_entry ([.ref xo, .int v, .long x, .ref oa]) (n := 6) (Nat.le_of_ble_eq_true rfl)
  rw [lg_entry_eq]
  generalize (lg_sl ([.ref xo, .int v, .long x, .ref oa]) ++ List.replicate (6 - (lg_sl ([.ref xo, .int v, .long x, .ref oa])).length) Slot.unset).toArray = ls at hl ⊢
  have hl : lv_has ls 6 [(0, .ref xo), (1, .int v), (2, .long x), (4, .ref oa)] := hl
  refine lv_aload hx hb d_L_add_0 (lv_at hl 3 rfl) ?_
  refine lv_iconst (v := (nI 0)) hx hb d_L_add_2 (by decide) ?_
  refine lv_aload_n hx hb d_L_add_3 rfl (lv_at hl 0 rfl) ?_
  refine lv_iload_n hx hb d_L_add_4 rfl (lv_at hl 1 rfl) ?_
  refine lv_lload_n hx hb d_L_add_5 rfl (lv_at hl 2 rfl) ?_
  refine mx_call hC hW (iv_L_add_6 G hx hb hown hW (va_recv hK hPx (ci := 3) (q0 := 0) rfl rfl) [.int v, .long x] [.int (nI 0), .ref oa] rfl) hml hl.1 (by rw [hb]; exact d_L_add_6) (cd_F_add G hW) ⟨Nat.le_of_ble_eq_true rfl, Nat.le_of_ble_eq_true rfl⟩ (Nat.le_of_ble_eq_true rfl) (Nat.le_of_ble_eq_true rfl) (Nat.le_of_ble_eq_true rfl) (fun v9 H1 L hq hz hk hL => ?_) (fun q H1 L hq hz hk hL => ?_)
  · obtain ⟨hs9, hp⟩ := hq
    have hPo1 : va_P D vcl [(oa, aJ cJ 1 g)] H1 := kept1 hPo (fun h9 => hk oa h9 hFo)
    cases c0 with
    | some E => obtain ⟨q, h9, -⟩ := hs9; cases h9
    | none =>
      have hk0 : k0 = 0 := by simpa using hck
      subst hk0
      have hs9 : Outcome.returned v9 = .returned (some (.int w)) := hs9
      cases hs9
      refine W.eq (g2 := F0 m 9 ls [.int w, .int (nI 0), .ref oa]) rfl ?_
      refine lv_i2l hx hb d_L_add_9 rfl ?_
      refine la_st hx hb hK hPo1 d_L_add_10 (fun H2 L2 g1 hg1 hP2 hz2 hoq hL2 => ?_)
      refine lv_goto (tgt := 26) hx hb d_L_add_11 (by decide) ?_
      refine lv_iconst (v := (nI 0)) hx hb d_L_add_26 (by decide) ?_
      exact mx_iret hx hb hr hlk d_L_add_27 (Nat.le_of_ble_eq_true rfl) (Nat.le_of_ble_eq_true rfl) (fun q9 h9 => (List.mem_append.mp h9).elim (fun h8 => Or.inl (hL q9 h8)) (fun h8 => Or.inr (hL2 q9 h8))) (⟨rfl, hPs _ _ hp hz2 hoq, g1, hP2, fun _ => hg1⟩)
  · obtain ⟨hs9, hp⟩ := hq
    have hPo1 : va_P D vcl [(oa, aJ cJ 1 g)] H1 := kept1 hPo (fun h9 => hk oa h9 hFo)
    cases c0 with
    | none => exact absurd (show Outcome.threw q = .returned (some (.int w)) from hs9) (fun h => by cases h)
    | some E =>
      obtain ⟨q2, h9, ho⟩ := hs9
      cases h9
      rcases List.mem_cons.mp hck with h9 | hck
      · cases h9
      rcases List.mem_cons.mp hck with h9 | hck
      · cases h9
        refine mx_catch (own := "FewBitsLaw") (E := E_I) (nx := E_I) hW hown [] ⟨0, 11, 14, 13⟩ [⟨0, 11, 18, 21⟩, ⟨0, 11, 22, 23⟩] het (fun y hy => ?_) (by decide) (by decide) (G.1.at 48 rfl rfl _ hW) (G.1.tab 65 rfl rfl _ hW) ho ?_
        · exact absurd hy List.not_mem_nil
        · refine W.eq (g2 := F0 m 14 ls [.ref q]) rfl ?_
          refine lv_astore (lv' := [(5, .ref q), (0, .ref xo), (1, .int v), (2, .long x), (4, .ref oa)]) hx hb d_L_add_14 hl (by decide) rfl (fun ls hl => ?_)
          refine lv_iconst (v := (nI 1)) hx hb d_L_add_16 (by decide) ?_
          exact mx_iret hx hb hr hlk d_L_add_17 (Nat.le_of_ble_eq_true rfl) (Nat.le_of_ble_eq_true rfl) (fun q9 h9 => Or.inl (hL q9 h9)) (⟨rfl, hp, g, hPo1, fun h => absurd h (by decide)⟩)
      rcases List.mem_cons.mp hck with h9 | hck
      · cases h9
        refine mx_catch (own := "FewBitsLaw") (E := E_S) (nx := E_S) hW hown [⟨0, 11, 14, 13⟩] ⟨0, 11, 18, 21⟩ [⟨0, 11, 22, 23⟩] het (fun y hy => ?_) (by decide) (by decide) (G.1.at 265 rfl rfl _ hW) (G.1.tab 277 rfl rfl _ hW) ho ?_
        · rcases List.mem_cons.mp hy with rfl | hy
          · exact ⟨by decide, by decide, E_I, G.1.at 48 rfl rfl _ hW, nc_SI G hW⟩
          exact absurd hy List.not_mem_nil
        · refine W.eq (g2 := F0 m 18 ls [.ref q]) rfl ?_
          refine lv_astore (lv' := [(5, .ref q), (0, .ref xo), (1, .int v), (2, .long x), (4, .ref oa)]) hx hb d_L_add_18 hl (by decide) rfl (fun ls hl => ?_)
          refine lv_iconst (v := (nI 2)) hx hb d_L_add_20 (by decide) ?_
          exact mx_iret hx hb hr hlk d_L_add_21 (Nat.le_of_ble_eq_true rfl) (Nat.le_of_ble_eq_true rfl) (fun q9 h9 => Or.inl (hL q9 h9)) (⟨rfl, hp, g, hPo1, fun h => absurd h (by decide)⟩)
      rcases List.mem_cons.mp hck with h9 | hck
      · cases h9
        refine mx_catch (own := "FewBitsLaw") (E := E_U) (nx := E_U) hW hown [⟨0, 11, 14, 13⟩, ⟨0, 11, 18, 21⟩] ⟨0, 11, 22, 23⟩ [] het (fun y hy => ?_) (by decide) (by decide) (G.1.at 266 rfl rfl _ hW) (G.1.tab 390 rfl rfl _ hW) ho ?_
        · rcases List.mem_cons.mp hy with rfl | hy
          · exact ⟨by decide, by decide, E_I, G.1.at 48 rfl rfl _ hW, nc_UI G hW⟩
          rcases List.mem_cons.mp hy with rfl | hy
          · exact ⟨by decide, by decide, E_S, G.1.at 265 rfl rfl _ hW, nc_US G hW⟩
          exact absurd hy List.not_mem_nil
        · refine W.eq (g2 := F0 m 22 ls [.ref q]) rfl ?_
          refine lv_astore (lv' := [(5, .ref q), (0, .ref xo), (1, .int v), (2, .long x), (4, .ref oa)]) hx hb d_L_add_22 hl (by decide) rfl (fun ls hl => ?_)
          refine lv_iconst (v := (nI 3)) hx hb d_L_add_24 (by decide) ?_
          exact mx_iret hx hb hr hlk d_L_add_25 (Nat.le_of_ble_eq_true rfl) (Nat.le_of_ble_eq_true rfl) (fun q9 h9 => Or.inl (hL q9 h9)) (⟨rfl, hp, g, hPo1, fun h => absurd h (by decide)⟩)
      exact absurd hck List.not_mem_nil

set_option maxHeartbeats 4000000 in
set_option maxRecDepth 100000 in
theorem w_addAll {l : Launch} {s0 : State} {D : va_G} {cI cF cJ : ClassId} (G : Gx l s0 D cI cF cJ) (xo fa ma oa : Nat) (v : Int32) (x : Int64) (st : Int64) (nv : Int32) {c0 : Option String} {k0 : Nat} {w : Int32} {P : Heap → Prop} {F : Nat → Prop} {g : Nat → Int64} {H0 : Heap} (hck : (c0, k0) ∈ [(none, 0), (some E_I, 1), (some E_S, 2), (some E_A, 3)]) (hC : Mx l s0 y_F_addAll (.code y_F_addAll b_F_addAll 11 (some .int)) { frames := 8, cells := 4, slots := 1094, locals := 180 } [.ref xo, .int v, .long x, .long st, .int nv] H0 F (Rq s0 c0 (some (.int w)) P)) (hPx : va_P D vcl [(xo, .inr (3, [.ref fa, .ref ma]))] H0) (hPo : va_P D vcl [(oa, aJ cJ 1 g)] H0) (hFo : ¬ F oa) (hPs : ∀ H1 H2 : Heap, P H1 → H2.size = H1.size → (∀ q : Nat, q ≠ oa → H2[q]? = H1[q]?) → P H2) : Mx l s0 y_L_addAll (.codeWith y_L_addAll b_L_addAll 9 (some .int) [(0, 15, 18, 13), (0, 15, 22, 21), (0, 15, 26, 15)]) { frames := 9, cells := 4, slots := 1094, locals := 215 } [.ref xo, .int v, .long x, .long st, .int nv, .ref oa] H0 (fun q => F q ∨ q = oa) (Rw (.int (nI k0)) (fun H1 => P H1 ∧ ∃ g1 : Nat → Int64, va_P D vcl [(oa, aJ cJ 1 g1)] H1 ∧ (k0 = 0 → g1 0 = Int32.toInt64 w))) := by
  refine Mx.ofWH (own := "FewBitsLaw") rfl rfl ?_
  rintro p e s m below meth c ⟨hx, hb, hml, hr, hown, hW, hlk⟩ het hH
  have hK := G.k hW
  have hl := lv_entry ([.ref xo, .int v, .long x, .long st, .int nv, .ref oa]) (n := 9) (Nat.le_of_ble_eq_true rfl)
  rw [lg_entry_eq]
  generalize (lg_sl ([.ref xo, .int v, .long x, .long st, .int nv, .ref oa]) ++ List.replicate (9 - (lg_sl ([.ref xo, .int v, .long x, .long st, .int nv, .ref oa])).length) Slot.unset).toArray = ls at hl ⊢
  have hl : lv_has ls 9 [(0, .ref xo), (1, .int v), (2, .long x), (4, .long st), (6, .int nv), (7, .ref oa)] := hl
  refine lv_aload hx hb d_L_addAll_0 (lv_at hl 5 rfl) ?_
  refine lv_iconst (v := (nI 0)) hx hb d_L_addAll_2 (by decide) ?_
  refine lv_aload_n hx hb d_L_addAll_3 rfl (lv_at hl 0 rfl) ?_
  refine lv_iload_n hx hb d_L_addAll_4 rfl (lv_at hl 1 rfl) ?_
  refine lv_lload_n hx hb d_L_addAll_5 rfl (lv_at hl 2 rfl) ?_
  refine lv_lload hx hb d_L_addAll_6 (lv_at hl 3 rfl) ?_
  refine lv_iload hx hb d_L_addAll_8 (lv_at hl 4 rfl) ?_
  refine mx_call hC hW (iv_L_addAll_10 G hx hb hown hW (va_recv hK hPx (ci := 3) (q0 := 0) rfl rfl) [.int v, .long x, .long st, .int nv] [.int (nI 0), .ref oa] rfl) hml hl.1 (by rw [hb]; exact d_L_addAll_10) (cd_F_addAll G hW) ⟨Nat.le_of_ble_eq_true rfl, Nat.le_of_ble_eq_true rfl⟩ (Nat.le_of_ble_eq_true rfl) (Nat.le_of_ble_eq_true rfl) (Nat.le_of_ble_eq_true rfl) (fun v9 H1 L hq hz hk hL => ?_) (fun q H1 L hq hz hk hL => ?_)
  · obtain ⟨hs9, hp⟩ := hq
    have hPo1 : va_P D vcl [(oa, aJ cJ 1 g)] H1 := kept1 hPo (fun h9 => hk oa h9 hFo)
    cases c0 with
    | some E => obtain ⟨q, h9, -⟩ := hs9; cases h9
    | none =>
      have hk0 : k0 = 0 := by simpa using hck
      subst hk0
      have hs9 : Outcome.returned v9 = .returned (some (.int w)) := hs9
      cases hs9
      refine W.eq (g2 := F0 m 13 ls [.int w, .int (nI 0), .ref oa]) rfl ?_
      refine lv_i2l hx hb d_L_addAll_13 rfl ?_
      refine la_st hx hb hK hPo1 d_L_addAll_14 (fun H2 L2 g1 hg1 hP2 hz2 hoq hL2 => ?_)
      refine lv_goto (tgt := 30) hx hb d_L_addAll_15 (by decide) ?_
      refine lv_iconst (v := (nI 0)) hx hb d_L_addAll_30 (by decide) ?_
      exact mx_iret hx hb hr hlk d_L_addAll_31 (Nat.le_of_ble_eq_true rfl) (Nat.le_of_ble_eq_true rfl) (fun q9 h9 => (List.mem_append.mp h9).elim (fun h8 => Or.inl (hL q9 h8)) (fun h8 => Or.inr (hL2 q9 h8))) (⟨rfl, hPs _ _ hp hz2 hoq, g1, hP2, fun _ => hg1⟩)
  · obtain ⟨hs9, hp⟩ := hq
    have hPo1 : va_P D vcl [(oa, aJ cJ 1 g)] H1 := kept1 hPo (fun h9 => hk oa h9 hFo)
    cases c0 with
    | none => exact absurd (show Outcome.threw q = .returned (some (.int w)) from hs9) (fun h => by cases h)
    | some E =>
      obtain ⟨q2, h9, ho⟩ := hs9
      cases h9
      rcases List.mem_cons.mp hck with h9 | hck
      · cases h9
      rcases List.mem_cons.mp hck with h9 | hck
      · cases h9
        refine mx_catch (own := "FewBitsLaw") (E := E_I) (nx := E_I) hW hown [] ⟨0, 15, 18, 13⟩ [⟨0, 15, 22, 21⟩, ⟨0, 15, 26, 15⟩] het (fun y hy => ?_) (by decide) (by decide) (G.1.at 48 rfl rfl _ hW) (G.1.tab 65 rfl rfl _ hW) ho ?_
        · exact absurd hy List.not_mem_nil
        · refine W.eq (g2 := F0 m 18 ls [.ref q]) rfl ?_
          refine lv_astore (lv' := [(8, .ref q), (0, .ref xo), (1, .int v), (2, .long x), (4, .long st), (6, .int nv), (7, .ref oa)]) hx hb d_L_addAll_18 hl (by decide) rfl (fun ls hl => ?_)
          refine lv_iconst (v := (nI 1)) hx hb d_L_addAll_20 (by decide) ?_
          exact mx_iret hx hb hr hlk d_L_addAll_21 (Nat.le_of_ble_eq_true rfl) (Nat.le_of_ble_eq_true rfl) (fun q9 h9 => Or.inl (hL q9 h9)) (⟨rfl, hp, g, hPo1, fun h => absurd h (by decide)⟩)
      rcases List.mem_cons.mp hck with h9 | hck
      · cases h9
        refine mx_catch (own := "FewBitsLaw") (E := E_S) (nx := E_S) hW hown [⟨0, 15, 18, 13⟩] ⟨0, 15, 22, 21⟩ [⟨0, 15, 26, 15⟩] het (fun y hy => ?_) (by decide) (by decide) (G.1.at 265 rfl rfl _ hW) (G.1.tab 277 rfl rfl _ hW) ho ?_
        · rcases List.mem_cons.mp hy with rfl | hy
          · exact ⟨by decide, by decide, E_I, G.1.at 48 rfl rfl _ hW, nc_SI G hW⟩
          exact absurd hy List.not_mem_nil
        · refine W.eq (g2 := F0 m 22 ls [.ref q]) rfl ?_
          refine lv_astore (lv' := [(8, .ref q), (0, .ref xo), (1, .int v), (2, .long x), (4, .long st), (6, .int nv), (7, .ref oa)]) hx hb d_L_addAll_22 hl (by decide) rfl (fun ls hl => ?_)
          refine lv_iconst (v := (nI 2)) hx hb d_L_addAll_24 (by decide) ?_
          exact mx_iret hx hb hr hlk d_L_addAll_25 (Nat.le_of_ble_eq_true rfl) (Nat.le_of_ble_eq_true rfl) (fun q9 h9 => Or.inl (hL q9 h9)) (⟨rfl, hp, g, hPo1, fun h => absurd h (by decide)⟩)
      rcases List.mem_cons.mp hck with h9 | hck
      · cases h9
        refine mx_catch (own := "FewBitsLaw") (E := E_A) (nx := E_A) hW hown [⟨0, 15, 18, 13⟩, ⟨0, 15, 22, 21⟩] ⟨0, 15, 26, 15⟩ [] het (fun y hy => ?_) (by decide) (by decide) (G.1.at 49 rfl rfl _ hW) (G.1.tab 138 rfl rfl _ hW) ho ?_
        · rcases List.mem_cons.mp hy with rfl | hy
          · exact ⟨by decide, by decide, E_I, G.1.at 48 rfl rfl _ hW, nc_AI G hW⟩
          rcases List.mem_cons.mp hy with rfl | hy
          · exact ⟨by decide, by decide, E_S, G.1.at 265 rfl rfl _ hW, nc_AS G hW⟩
          exact absurd hy List.not_mem_nil
        · refine W.eq (g2 := F0 m 26 ls [.ref q]) rfl ?_
          refine lv_astore (lv' := [(8, .ref q), (0, .ref xo), (1, .int v), (2, .long x), (4, .long st), (6, .int nv), (7, .ref oa)]) hx hb d_L_addAll_26 hl (by decide) rfl (fun ls hl => ?_)
          refine lv_iconst (v := (nI 3)) hx hb d_L_addAll_28 (by decide) ?_
          exact mx_iret hx hb hr hlk d_L_addAll_29 (Nat.le_of_ble_eq_true rfl) (Nat.le_of_ble_eq_true rfl) (fun q9 h9 => Or.inl (hL q9 h9)) (⟨rfl, hp, g, hPo1, fun h => absurd h (by decide)⟩)
      exact absurd hck List.not_mem_nil

set_option maxHeartbeats 4000000 in
set_option maxRecDepth 100000 in
theorem w_remove {l : Launch} {s0 : State} {D : va_G} {cI cF cJ : ClassId} (G : Gx l s0 D cI cF cJ) (xo fa ma oa : Nat) (v : Int32) (x : Int64) {c0 : Option String} {k0 : Nat} {w : Int32} {P : Heap → Prop} {F : Nat → Prop} {g : Nat → Int64} {H0 : Heap} (hck : (c0, k0) ∈ [(none, 0), (some E_I, 1), (some E_S, 2), (some E_N, 3)]) (hC : Mx l s0 y_F_remove (.code y_F_remove b_F_remove 5 (some .int)) { frames := 8, cells := 4, slots := 1094, locals := 180 } [.ref xo, .int v, .long x] H0 F (Rq s0 c0 (some (.int w)) P)) (hPx : va_P D vcl [(xo, .inr (3, [.ref fa, .ref ma]))] H0) (hPo : va_P D vcl [(oa, aJ cJ 1 g)] H0) (hFo : ¬ F oa) (hPs : ∀ H1 H2 : Heap, P H1 → H2.size = H1.size → (∀ q : Nat, q ≠ oa → H2[q]? = H1[q]?) → P H2) : Mx l s0 y_L_remove (.codeWith y_L_remove b_L_remove 6 (some .int) [(0, 11, 14, 13), (0, 11, 18, 21), (0, 11, 22, 32)]) { frames := 9, cells := 4, slots := 1094, locals := 215 } [.ref xo, .int v, .long x, .ref oa] H0 (fun q => F q ∨ q = oa) (Rw (.int (nI k0)) (fun H1 => P H1 ∧ ∃ g1 : Nat → Int64, va_P D vcl [(oa, aJ cJ 1 g1)] H1 ∧ (k0 = 0 → g1 0 = Int32.toInt64 w))) := by
  refine Mx.ofWH (own := "FewBitsLaw") rfl rfl ?_
  rintro p e s m below meth c ⟨hx, hb, hml, hr, hown, hW, hlk⟩ het hH
  have hK := G.k hW
  have hl := lv_entry ([.ref xo, .int v, .long x, .ref oa]) (n := 6) (Nat.le_of_ble_eq_true rfl)
  rw [lg_entry_eq]
  generalize (lg_sl ([.ref xo, .int v, .long x, .ref oa]) ++ List.replicate (6 - (lg_sl ([.ref xo, .int v, .long x, .ref oa])).length) Slot.unset).toArray = ls at hl ⊢
  have hl : lv_has ls 6 [(0, .ref xo), (1, .int v), (2, .long x), (4, .ref oa)] := hl
  refine lv_aload hx hb d_L_remove_0 (lv_at hl 3 rfl) ?_
  refine lv_iconst (v := (nI 0)) hx hb d_L_remove_2 (by decide) ?_
  refine lv_aload_n hx hb d_L_remove_3 rfl (lv_at hl 0 rfl) ?_
  refine lv_iload_n hx hb d_L_remove_4 rfl (lv_at hl 1 rfl) ?_
  refine lv_lload_n hx hb d_L_remove_5 rfl (lv_at hl 2 rfl) ?_
  refine mx_call hC hW (iv_L_remove_6 G hx hb hown hW (va_recv hK hPx (ci := 3) (q0 := 0) rfl rfl) [.int v, .long x] [.int (nI 0), .ref oa] rfl) hml hl.1 (by rw [hb]; exact d_L_remove_6) (cd_F_remove G hW) ⟨Nat.le_of_ble_eq_true rfl, Nat.le_of_ble_eq_true rfl⟩ (Nat.le_of_ble_eq_true rfl) (Nat.le_of_ble_eq_true rfl) (Nat.le_of_ble_eq_true rfl) (fun v9 H1 L hq hz hk hL => ?_) (fun q H1 L hq hz hk hL => ?_)
  · obtain ⟨hs9, hp⟩ := hq
    have hPo1 : va_P D vcl [(oa, aJ cJ 1 g)] H1 := kept1 hPo (fun h9 => hk oa h9 hFo)
    cases c0 with
    | some E => obtain ⟨q, h9, -⟩ := hs9; cases h9
    | none =>
      have hk0 : k0 = 0 := by simpa using hck
      subst hk0
      have hs9 : Outcome.returned v9 = .returned (some (.int w)) := hs9
      cases hs9
      refine W.eq (g2 := F0 m 9 ls [.int w, .int (nI 0), .ref oa]) rfl ?_
      refine lv_i2l hx hb d_L_remove_9 rfl ?_
      refine la_st hx hb hK hPo1 d_L_remove_10 (fun H2 L2 g1 hg1 hP2 hz2 hoq hL2 => ?_)
      refine lv_goto (tgt := 26) hx hb d_L_remove_11 (by decide) ?_
      refine lv_iconst (v := (nI 0)) hx hb d_L_remove_26 (by decide) ?_
      exact mx_iret hx hb hr hlk d_L_remove_27 (Nat.le_of_ble_eq_true rfl) (Nat.le_of_ble_eq_true rfl) (fun q9 h9 => (List.mem_append.mp h9).elim (fun h8 => Or.inl (hL q9 h8)) (fun h8 => Or.inr (hL2 q9 h8))) (⟨rfl, hPs _ _ hp hz2 hoq, g1, hP2, fun _ => hg1⟩)
  · obtain ⟨hs9, hp⟩ := hq
    have hPo1 : va_P D vcl [(oa, aJ cJ 1 g)] H1 := kept1 hPo (fun h9 => hk oa h9 hFo)
    cases c0 with
    | none => exact absurd (show Outcome.threw q = .returned (some (.int w)) from hs9) (fun h => by cases h)
    | some E =>
      obtain ⟨q2, h9, ho⟩ := hs9
      cases h9
      rcases List.mem_cons.mp hck with h9 | hck
      · cases h9
      rcases List.mem_cons.mp hck with h9 | hck
      · cases h9
        refine mx_catch (own := "FewBitsLaw") (E := E_I) (nx := E_I) hW hown [] ⟨0, 11, 14, 13⟩ [⟨0, 11, 18, 21⟩, ⟨0, 11, 22, 32⟩] het (fun y hy => ?_) (by decide) (by decide) (G.1.at 48 rfl rfl _ hW) (G.1.tab 65 rfl rfl _ hW) ho ?_
        · exact absurd hy List.not_mem_nil
        · refine W.eq (g2 := F0 m 14 ls [.ref q]) rfl ?_
          refine lv_astore (lv' := [(5, .ref q), (0, .ref xo), (1, .int v), (2, .long x), (4, .ref oa)]) hx hb d_L_remove_14 hl (by decide) rfl (fun ls hl => ?_)
          refine lv_iconst (v := (nI 1)) hx hb d_L_remove_16 (by decide) ?_
          exact mx_iret hx hb hr hlk d_L_remove_17 (Nat.le_of_ble_eq_true rfl) (Nat.le_of_ble_eq_true rfl) (fun q9 h9 => Or.inl (hL q9 h9)) (⟨rfl, hp, g, hPo1, fun h => absurd h (by decide)⟩)
      rcases List.mem_cons.mp hck with h9 | hck
      · cases h9
        refine mx_catch (own := "FewBitsLaw") (E := E_S) (nx := E_S) hW hown [⟨0, 11, 14, 13⟩] ⟨0, 11, 18, 21⟩ [⟨0, 11, 22, 32⟩] het (fun y hy => ?_) (by decide) (by decide) (G.1.at 265 rfl rfl _ hW) (G.1.tab 277 rfl rfl _ hW) ho ?_
        · rcases List.mem_cons.mp hy with rfl | hy
          · exact ⟨by decide, by decide, E_I, G.1.at 48 rfl rfl _ hW, nc_SI G hW⟩
          exact absurd hy List.not_mem_nil
        · refine W.eq (g2 := F0 m 18 ls [.ref q]) rfl ?_
          refine lv_astore (lv' := [(5, .ref q), (0, .ref xo), (1, .int v), (2, .long x), (4, .ref oa)]) hx hb d_L_remove_18 hl (by decide) rfl (fun ls hl => ?_)
          refine lv_iconst (v := (nI 2)) hx hb d_L_remove_20 (by decide) ?_
          exact mx_iret hx hb hr hlk d_L_remove_21 (Nat.le_of_ble_eq_true rfl) (Nat.le_of_ble_eq_true rfl) (fun q9 h9 => Or.inl (hL q9 h9)) (⟨rfl, hp, g, hPo1, fun h => absurd h (by decide)⟩)
      rcases List.mem_cons.mp hck with h9 | hck
      · cases h9
        refine mx_catch (own := "FewBitsLaw") (E := E_N) (nx := E_N) hW hown [⟨0, 11, 14, 13⟩, ⟨0, 11, 18, 21⟩] ⟨0, 11, 22, 32⟩ [] het (fun y hy => ?_) (by decide) (by decide) (G.1.at 418 rfl rfl _ hW) (G.1.tab 448 rfl rfl _ hW) ho ?_
        · rcases List.mem_cons.mp hy with rfl | hy
          · exact ⟨by decide, by decide, E_I, G.1.at 48 rfl rfl _ hW, nc_NI G hW⟩
          rcases List.mem_cons.mp hy with rfl | hy
          · exact ⟨by decide, by decide, E_S, G.1.at 265 rfl rfl _ hW, nc_NS G hW⟩
          exact absurd hy List.not_mem_nil
        · refine W.eq (g2 := F0 m 22 ls [.ref q]) rfl ?_
          refine lv_astore (lv' := [(5, .ref q), (0, .ref xo), (1, .int v), (2, .long x), (4, .ref oa)]) hx hb d_L_remove_22 hl (by decide) rfl (fun ls hl => ?_)
          refine lv_iconst (v := (nI 3)) hx hb d_L_remove_24 (by decide) ?_
          exact mx_iret hx hb hr hlk d_L_remove_25 (Nat.le_of_ble_eq_true rfl) (Nat.le_of_ble_eq_true rfl) (fun q9 h9 => Or.inl (hL q9 h9)) (⟨rfl, hp, g, hPo1, fun h => absurd h (by decide)⟩)
      exact absurd hck List.not_mem_nil

set_option maxHeartbeats 4000000 in
set_option maxRecDepth 100000 in
theorem w_has {l : Launch} {s0 : State} {D : va_G} {cI cF cJ : ClassId} (G : Gx l s0 D cI cF cJ) (xo fa ma oa : Nat) (v : Int32) (x : Int64) {c0 : Option String} {k0 : Nat} {w : Int32} {P : Heap → Prop} {F : Nat → Prop} {g : Nat → Int64} {H0 : Heap} (hck : (c0, k0) ∈ [(none, 0), (some E_I, 1), (some E_S, 2)]) (hC : Mx l s0 y_F_has (.code y_F_has b_F_has 4 (some .boolean)) { frames := 8, cells := 4, slots := 1094, locals := 180 } [.ref xo, .int v, .long x] H0 F (Rq s0 c0 (some (.int w)) P)) (hPx : va_P D vcl [(xo, .inr (3, [.ref fa, .ref ma]))] H0) (hPo : va_P D vcl [(oa, aJ cJ 1 g)] H0) (hFo : ¬ F oa) (hPs : ∀ H1 H2 : Heap, P H1 → H2.size = H1.size → (∀ q : Nat, q ≠ oa → H2[q]? = H1[q]?) → P H2) : Mx l s0 y_L_has (.codeWith y_L_has b_L_has 6 (some .int) [(0, 18, 21, 13), (0, 18, 25, 21)]) { frames := 9, cells := 4, slots := 1094, locals := 215 } [.ref xo, .int v, .long x, .ref oa] H0 (fun q => F q ∨ q = oa) (Rw (.int (nI k0)) (fun H1 => P H1 ∧ ∃ g1 : Nat → Int64, va_P D vcl [(oa, aJ cJ 1 g1)] H1 ∧ (k0 = 0 → g1 0 = zl w))) := by
  refine Mx.ofWH (own := "FewBitsLaw") rfl rfl ?_
  rintro p e s m below meth c ⟨hx, hb, hml, hr, hown, hW, hlk⟩ het hH
  have hK := G.k hW
  have hl := lv_entry ([.ref xo, .int v, .long x, .ref oa]) (n := 6) (Nat.le_of_ble_eq_true rfl)
  rw [lg_entry_eq]
  generalize (lg_sl ([.ref xo, .int v, .long x, .ref oa]) ++ List.replicate (6 - (lg_sl ([.ref xo, .int v, .long x, .ref oa])).length) Slot.unset).toArray = ls at hl ⊢
  have hl : lv_has ls 6 [(0, .ref xo), (1, .int v), (2, .long x), (4, .ref oa)] := hl
  refine lv_aload hx hb d_L_has_0 (lv_at hl 3 rfl) ?_
  refine lv_iconst (v := (nI 0)) hx hb d_L_has_2 (by decide) ?_
  refine lv_aload_n hx hb d_L_has_3 rfl (lv_at hl 0 rfl) ?_
  refine lv_iload_n hx hb d_L_has_4 rfl (lv_at hl 1 rfl) ?_
  refine lv_lload_n hx hb d_L_has_5 rfl (lv_at hl 2 rfl) ?_
  refine mx_call hC hW (iv_L_has_6 G hx hb hown hW (va_recv hK hPx (ci := 3) (q0 := 0) rfl rfl) [.int v, .long x] [.int (nI 0), .ref oa] rfl) hml hl.1 (by rw [hb]; exact d_L_has_6) (cd_F_has G hW) ⟨Nat.le_of_ble_eq_true rfl, Nat.le_of_ble_eq_true rfl⟩ (Nat.le_of_ble_eq_true rfl) (Nat.le_of_ble_eq_true rfl) (Nat.le_of_ble_eq_true rfl) (fun v9 H1 L hq hz hk hL => ?_) (fun q H1 L hq hz hk hL => ?_)
  · obtain ⟨hs9, hp⟩ := hq
    have hPo1 : va_P D vcl [(oa, aJ cJ 1 g)] H1 := kept1 hPo (fun h9 => hk oa h9 hFo)
    cases c0 with
    | some E => obtain ⟨q, h9, -⟩ := hs9; cases h9
    | none =>
      have hk0 : k0 = 0 := by simpa using hck
      subst hk0
      have hs9 : Outcome.returned v9 = .returned (some (.int w)) := hs9
      cases hs9
      refine W.eq (g2 := F0 m 9 ls [.int w, .int (nI 0), .ref oa]) rfl ?_
      refine lv_if_eq (tgt := 16) hx hb d_L_has_9 (by decide) (fun c_9 => ?_) (fun c_9 => ?_)
      · refine lv_lconst (v := 0) hx hb d_L_has_16 (by decide) ?_
        refine la_st hx hb hK hPo1 d_L_has_17 (fun H2 L2 g1 hg1 hP2 hz2 hoq hL2 => ?_)
        refine lv_goto (tgt := 29) hx hb d_L_has_18 (by decide) ?_
        refine lv_iconst (v := (nI 0)) hx hb d_L_has_29 (by decide) ?_
        exact mx_iret hx hb hr hlk d_L_has_30 (Nat.le_of_ble_eq_true rfl) (Nat.le_of_ble_eq_true rfl) (fun q9 h9 => (List.mem_append.mp h9).elim (fun h8 => Or.inl (hL q9 h8)) (fun h8 => Or.inr (hL2 q9 h8))) (⟨rfl, hPs _ _ hp hz2 hoq, g1, hP2, fun _ => hg1.trans (by unfold zl; first | rw [if_pos c_9] | rw [if_neg c_9])⟩)
      · refine lv_lconst (v := 1) hx hb d_L_has_12 (by decide) ?_
        refine lv_goto (tgt := 17) hx hb d_L_has_13 (by decide) ?_
        refine la_st hx hb hK hPo1 d_L_has_17 (fun H2 L2 g1 hg1 hP2 hz2 hoq hL2 => ?_)
        refine lv_goto (tgt := 29) hx hb d_L_has_18 (by decide) ?_
        refine lv_iconst (v := (nI 0)) hx hb d_L_has_29 (by decide) ?_
        exact mx_iret hx hb hr hlk d_L_has_30 (Nat.le_of_ble_eq_true rfl) (Nat.le_of_ble_eq_true rfl) (fun q9 h9 => (List.mem_append.mp h9).elim (fun h8 => Or.inl (hL q9 h8)) (fun h8 => Or.inr (hL2 q9 h8))) (⟨rfl, hPs _ _ hp hz2 hoq, g1, hP2, fun _ => hg1.trans (by unfold zl; first | rw [if_pos c_9] | rw [if_neg c_9])⟩)
  · obtain ⟨hs9, hp⟩ := hq
    have hPo1 : va_P D vcl [(oa, aJ cJ 1 g)] H1 := kept1 hPo (fun h9 => hk oa h9 hFo)
    cases c0 with
    | none => exact absurd (show Outcome.threw q = .returned (some (.int w)) from hs9) (fun h => by cases h)
    | some E =>
      obtain ⟨q2, h9, ho⟩ := hs9
      cases h9
      rcases List.mem_cons.mp hck with h9 | hck
      · cases h9
      rcases List.mem_cons.mp hck with h9 | hck
      · cases h9
        refine mx_catch (own := "FewBitsLaw") (E := E_I) (nx := E_I) hW hown [] ⟨0, 18, 21, 13⟩ [⟨0, 18, 25, 21⟩] het (fun y hy => ?_) (by decide) (by decide) (G.1.at 48 rfl rfl _ hW) (G.1.tab 65 rfl rfl _ hW) ho ?_
        · exact absurd hy List.not_mem_nil
        · refine W.eq (g2 := F0 m 21 ls [.ref q]) rfl ?_
          refine lv_astore (lv' := [(5, .ref q), (0, .ref xo), (1, .int v), (2, .long x), (4, .ref oa)]) hx hb d_L_has_21 hl (by decide) rfl (fun ls hl => ?_)
          refine lv_iconst (v := (nI 1)) hx hb d_L_has_23 (by decide) ?_
          exact mx_iret hx hb hr hlk d_L_has_24 (Nat.le_of_ble_eq_true rfl) (Nat.le_of_ble_eq_true rfl) (fun q9 h9 => Or.inl (hL q9 h9)) (⟨rfl, hp, g, hPo1, fun h => absurd h (by decide)⟩)
      rcases List.mem_cons.mp hck with h9 | hck
      · cases h9
        refine mx_catch (own := "FewBitsLaw") (E := E_S) (nx := E_S) hW hown [⟨0, 18, 21, 13⟩] ⟨0, 18, 25, 21⟩ [] het (fun y hy => ?_) (by decide) (by decide) (G.1.at 265 rfl rfl _ hW) (G.1.tab 277 rfl rfl _ hW) ho ?_
        · rcases List.mem_cons.mp hy with rfl | hy
          · exact ⟨by decide, by decide, E_I, G.1.at 48 rfl rfl _ hW, nc_SI G hW⟩
          exact absurd hy List.not_mem_nil
        · refine W.eq (g2 := F0 m 25 ls [.ref q]) rfl ?_
          refine lv_astore (lv' := [(5, .ref q), (0, .ref xo), (1, .int v), (2, .long x), (4, .ref oa)]) hx hb d_L_has_25 hl (by decide) rfl (fun ls hl => ?_)
          refine lv_iconst (v := (nI 2)) hx hb d_L_has_27 (by decide) ?_
          exact mx_iret hx hb hr hlk d_L_has_28 (Nat.le_of_ble_eq_true rfl) (Nat.le_of_ble_eq_true rfl) (fun q9 h9 => Or.inl (hL q9 h9)) (⟨rfl, hp, g, hPo1, fun h => absurd h (by decide)⟩)
      exact absurd hck List.not_mem_nil

set_option maxHeartbeats 4000000 in
set_option maxRecDepth 100000 in
theorem w_hasAll {l : Launch} {s0 : State} {D : va_G} {cI cF cJ : ClassId} (G : Gx l s0 D cI cF cJ) (xo fa ma oa : Nat) (v : Int32) (x : Int64) (st : Int64) (nv : Int32) {c0 : Option String} {k0 : Nat} {w : Int32} {P : Heap → Prop} {F : Nat → Prop} {g : Nat → Int64} {H0 : Heap} (hck : (c0, k0) ∈ [(none, 0), (some E_I, 1), (some E_S, 2), (some E_A, 3)]) (hC : Mx l s0 y_F_hasAll (.code y_F_hasAll b_F_hasAll 12 (some .int)) { frames := 8, cells := 4, slots := 1094, locals := 180 } [.ref xo, .int v, .long x, .long st, .int nv] H0 F (Rq s0 c0 (some (.int w)) P)) (hPx : va_P D vcl [(xo, .inr (3, [.ref fa, .ref ma]))] H0) (hPo : va_P D vcl [(oa, aJ cJ 1 g)] H0) (hFo : ¬ F oa) (hPs : ∀ H1 H2 : Heap, P H1 → H2.size = H1.size → (∀ q : Nat, q ≠ oa → H2[q]? = H1[q]?) → P H2) : Mx l s0 y_L_hasAll (.codeWith y_L_hasAll b_L_hasAll 9 (some .int) [(0, 15, 18, 13), (0, 15, 22, 21), (0, 15, 26, 15)]) { frames := 9, cells := 4, slots := 1094, locals := 215 } [.ref xo, .int v, .long x, .long st, .int nv, .ref oa] H0 (fun q => F q ∨ q = oa) (Rw (.int (nI k0)) (fun H1 => P H1 ∧ ∃ g1 : Nat → Int64, va_P D vcl [(oa, aJ cJ 1 g1)] H1 ∧ (k0 = 0 → g1 0 = Int32.toInt64 w))) := by
  refine Mx.ofWH (own := "FewBitsLaw") rfl rfl ?_
  rintro p e s m below meth c ⟨hx, hb, hml, hr, hown, hW, hlk⟩ het hH
  have hK := G.k hW
  have hl := lv_entry ([.ref xo, .int v, .long x, .long st, .int nv, .ref oa]) (n := 9) (Nat.le_of_ble_eq_true rfl)
  rw [lg_entry_eq]
  generalize (lg_sl ([.ref xo, .int v, .long x, .long st, .int nv, .ref oa]) ++ List.replicate (9 - (lg_sl ([.ref xo, .int v, .long x, .long st, .int nv, .ref oa])).length) Slot.unset).toArray = ls at hl ⊢
  have hl : lv_has ls 9 [(0, .ref xo), (1, .int v), (2, .long x), (4, .long st), (6, .int nv), (7, .ref oa)] := hl
  refine lv_aload hx hb d_L_hasAll_0 (lv_at hl 5 rfl) ?_
  refine lv_iconst (v := (nI 0)) hx hb d_L_hasAll_2 (by decide) ?_
  refine lv_aload_n hx hb d_L_hasAll_3 rfl (lv_at hl 0 rfl) ?_
  refine lv_iload_n hx hb d_L_hasAll_4 rfl (lv_at hl 1 rfl) ?_
  refine lv_lload_n hx hb d_L_hasAll_5 rfl (lv_at hl 2 rfl) ?_
  refine lv_lload hx hb d_L_hasAll_6 (lv_at hl 3 rfl) ?_
  refine lv_iload hx hb d_L_hasAll_8 (lv_at hl 4 rfl) ?_
  refine mx_call hC hW (iv_L_hasAll_10 G hx hb hown hW (va_recv hK hPx (ci := 3) (q0 := 0) rfl rfl) [.int v, .long x, .long st, .int nv] [.int (nI 0), .ref oa] rfl) hml hl.1 (by rw [hb]; exact d_L_hasAll_10) (cd_F_hasAll G hW) ⟨Nat.le_of_ble_eq_true rfl, Nat.le_of_ble_eq_true rfl⟩ (Nat.le_of_ble_eq_true rfl) (Nat.le_of_ble_eq_true rfl) (Nat.le_of_ble_eq_true rfl) (fun v9 H1 L hq hz hk hL => ?_) (fun q H1 L hq hz hk hL => ?_)
  · obtain ⟨hs9, hp⟩ := hq
    have hPo1 : va_P D vcl [(oa, aJ cJ 1 g)] H1 := kept1 hPo (fun h9 => hk oa h9 hFo)
    cases c0 with
    | some E => obtain ⟨q, h9, -⟩ := hs9; cases h9
    | none =>
      have hk0 : k0 = 0 := by simpa using hck
      subst hk0
      have hs9 : Outcome.returned v9 = .returned (some (.int w)) := hs9
      cases hs9
      refine W.eq (g2 := F0 m 13 ls [.int w, .int (nI 0), .ref oa]) rfl ?_
      refine lv_i2l hx hb d_L_hasAll_13 rfl ?_
      refine la_st hx hb hK hPo1 d_L_hasAll_14 (fun H2 L2 g1 hg1 hP2 hz2 hoq hL2 => ?_)
      refine lv_goto (tgt := 30) hx hb d_L_hasAll_15 (by decide) ?_
      refine lv_iconst (v := (nI 0)) hx hb d_L_hasAll_30 (by decide) ?_
      exact mx_iret hx hb hr hlk d_L_hasAll_31 (Nat.le_of_ble_eq_true rfl) (Nat.le_of_ble_eq_true rfl) (fun q9 h9 => (List.mem_append.mp h9).elim (fun h8 => Or.inl (hL q9 h8)) (fun h8 => Or.inr (hL2 q9 h8))) (⟨rfl, hPs _ _ hp hz2 hoq, g1, hP2, fun _ => hg1⟩)
  · obtain ⟨hs9, hp⟩ := hq
    have hPo1 : va_P D vcl [(oa, aJ cJ 1 g)] H1 := kept1 hPo (fun h9 => hk oa h9 hFo)
    cases c0 with
    | none => exact absurd (show Outcome.threw q = .returned (some (.int w)) from hs9) (fun h => by cases h)
    | some E =>
      obtain ⟨q2, h9, ho⟩ := hs9
      cases h9
      rcases List.mem_cons.mp hck with h9 | hck
      · cases h9
      rcases List.mem_cons.mp hck with h9 | hck
      · cases h9
        refine mx_catch (own := "FewBitsLaw") (E := E_I) (nx := E_I) hW hown [] ⟨0, 15, 18, 13⟩ [⟨0, 15, 22, 21⟩, ⟨0, 15, 26, 15⟩] het (fun y hy => ?_) (by decide) (by decide) (G.1.at 48 rfl rfl _ hW) (G.1.tab 65 rfl rfl _ hW) ho ?_
        · exact absurd hy List.not_mem_nil
        · refine W.eq (g2 := F0 m 18 ls [.ref q]) rfl ?_
          refine lv_astore (lv' := [(8, .ref q), (0, .ref xo), (1, .int v), (2, .long x), (4, .long st), (6, .int nv), (7, .ref oa)]) hx hb d_L_hasAll_18 hl (by decide) rfl (fun ls hl => ?_)
          refine lv_iconst (v := (nI 1)) hx hb d_L_hasAll_20 (by decide) ?_
          exact mx_iret hx hb hr hlk d_L_hasAll_21 (Nat.le_of_ble_eq_true rfl) (Nat.le_of_ble_eq_true rfl) (fun q9 h9 => Or.inl (hL q9 h9)) (⟨rfl, hp, g, hPo1, fun h => absurd h (by decide)⟩)
      rcases List.mem_cons.mp hck with h9 | hck
      · cases h9
        refine mx_catch (own := "FewBitsLaw") (E := E_S) (nx := E_S) hW hown [⟨0, 15, 18, 13⟩] ⟨0, 15, 22, 21⟩ [⟨0, 15, 26, 15⟩] het (fun y hy => ?_) (by decide) (by decide) (G.1.at 265 rfl rfl _ hW) (G.1.tab 277 rfl rfl _ hW) ho ?_
        · rcases List.mem_cons.mp hy with rfl | hy
          · exact ⟨by decide, by decide, E_I, G.1.at 48 rfl rfl _ hW, nc_SI G hW⟩
          exact absurd hy List.not_mem_nil
        · refine W.eq (g2 := F0 m 22 ls [.ref q]) rfl ?_
          refine lv_astore (lv' := [(8, .ref q), (0, .ref xo), (1, .int v), (2, .long x), (4, .long st), (6, .int nv), (7, .ref oa)]) hx hb d_L_hasAll_22 hl (by decide) rfl (fun ls hl => ?_)
          refine lv_iconst (v := (nI 2)) hx hb d_L_hasAll_24 (by decide) ?_
          exact mx_iret hx hb hr hlk d_L_hasAll_25 (Nat.le_of_ble_eq_true rfl) (Nat.le_of_ble_eq_true rfl) (fun q9 h9 => Or.inl (hL q9 h9)) (⟨rfl, hp, g, hPo1, fun h => absurd h (by decide)⟩)
      rcases List.mem_cons.mp hck with h9 | hck
      · cases h9
        refine mx_catch (own := "FewBitsLaw") (E := E_A) (nx := E_A) hW hown [⟨0, 15, 18, 13⟩, ⟨0, 15, 22, 21⟩] ⟨0, 15, 26, 15⟩ [] het (fun y hy => ?_) (by decide) (by decide) (G.1.at 49 rfl rfl _ hW) (G.1.tab 138 rfl rfl _ hW) ho ?_
        · rcases List.mem_cons.mp hy with rfl | hy
          · exact ⟨by decide, by decide, E_I, G.1.at 48 rfl rfl _ hW, nc_AI G hW⟩
          rcases List.mem_cons.mp hy with rfl | hy
          · exact ⟨by decide, by decide, E_S, G.1.at 265 rfl rfl _ hW, nc_AS G hW⟩
          exact absurd hy List.not_mem_nil
        · refine W.eq (g2 := F0 m 26 ls [.ref q]) rfl ?_
          refine lv_astore (lv' := [(8, .ref q), (0, .ref xo), (1, .int v), (2, .long x), (4, .long st), (6, .int nv), (7, .ref oa)]) hx hb d_L_hasAll_26 hl (by decide) rfl (fun ls hl => ?_)
          refine lv_iconst (v := (nI 3)) hx hb d_L_hasAll_28 (by decide) ?_
          exact mx_iret hx hb hr hlk d_L_hasAll_29 (Nat.le_of_ble_eq_true rfl) (Nat.le_of_ble_eq_true rfl) (fun q9 h9 => Or.inl (hL q9 h9)) (⟨rfl, hp, g, hPo1, fun h => absurd h (by decide)⟩)
      exact absurd hck List.not_mem_nil

set_option maxHeartbeats 4000000 in
set_option maxRecDepth 100000 in
theorem w_same {l : Launch} {s0 : State} {D : va_G} {cI cF cJ : ClassId} (G : Gx l s0 D cI cF cJ) (xo fa ma oa : Nat) (v : Int32) (x : Int64) (y : Int64) {c0 : Option String} {k0 : Nat} {w : Int32} {P : Heap → Prop} {F : Nat → Prop} {g : Nat → Int64} {H0 : Heap} (hck : (c0, k0) ∈ [(none, 0), (some E_I, 1), (some E_S, 2)]) (hC : Mx l s0 y_F_same (.code y_F_same b_F_same 6 (some .boolean)) { frames := 8, cells := 4, slots := 1094, locals := 180 } [.ref xo, .int v, .long x, .long y] H0 F (Rq s0 c0 (some (.int w)) P)) (hPx : va_P D vcl [(xo, .inr (3, [.ref fa, .ref ma]))] H0) (hPo : va_P D vcl [(oa, aJ cJ 1 g)] H0) (hFo : ¬ F oa) (hPs : ∀ H1 H2 : Heap, P H1 → H2.size = H1.size → (∀ q : Nat, q ≠ oa → H2[q]? = H1[q]?) → P H2) : Mx l s0 y_L_same (.codeWith y_L_same b_L_same 8 (some .int) [(0, 20, 23, 13), (0, 20, 27, 21)]) { frames := 9, cells := 4, slots := 1094, locals := 215 } [.ref xo, .int v, .long x, .long y, .ref oa] H0 (fun q => F q ∨ q = oa) (Rw (.int (nI k0)) (fun H1 => P H1 ∧ ∃ g1 : Nat → Int64, va_P D vcl [(oa, aJ cJ 1 g1)] H1 ∧ (k0 = 0 → g1 0 = zl w))) := by
  refine Mx.ofWH (own := "FewBitsLaw") rfl rfl ?_
  rintro p e s m below meth c ⟨hx, hb, hml, hr, hown, hW, hlk⟩ het hH
  have hK := G.k hW
  have hl := lv_entry ([.ref xo, .int v, .long x, .long y, .ref oa]) (n := 8) (Nat.le_of_ble_eq_true rfl)
  rw [lg_entry_eq]
  generalize (lg_sl ([.ref xo, .int v, .long x, .long y, .ref oa]) ++ List.replicate (8 - (lg_sl ([.ref xo, .int v, .long x, .long y, .ref oa])).length) Slot.unset).toArray = ls at hl ⊢
  have hl : lv_has ls 8 [(0, .ref xo), (1, .int v), (2, .long x), (4, .long y), (6, .ref oa)] := hl
  refine lv_aload hx hb d_L_same_0 (lv_at hl 4 rfl) ?_
  refine lv_iconst (v := (nI 0)) hx hb d_L_same_2 (by decide) ?_
  refine lv_aload_n hx hb d_L_same_3 rfl (lv_at hl 0 rfl) ?_
  refine lv_iload_n hx hb d_L_same_4 rfl (lv_at hl 1 rfl) ?_
  refine lv_lload_n hx hb d_L_same_5 rfl (lv_at hl 2 rfl) ?_
  refine lv_lload hx hb d_L_same_6 (lv_at hl 3 rfl) ?_
  refine mx_call hC hW (iv_L_same_8 G hx hb hown hW (va_recv hK hPx (ci := 3) (q0 := 0) rfl rfl) [.int v, .long x, .long y] [.int (nI 0), .ref oa] rfl) hml hl.1 (by rw [hb]; exact d_L_same_8) (cd_F_same G hW) ⟨Nat.le_of_ble_eq_true rfl, Nat.le_of_ble_eq_true rfl⟩ (Nat.le_of_ble_eq_true rfl) (Nat.le_of_ble_eq_true rfl) (Nat.le_of_ble_eq_true rfl) (fun v9 H1 L hq hz hk hL => ?_) (fun q H1 L hq hz hk hL => ?_)
  · obtain ⟨hs9, hp⟩ := hq
    have hPo1 : va_P D vcl [(oa, aJ cJ 1 g)] H1 := kept1 hPo (fun h9 => hk oa h9 hFo)
    cases c0 with
    | some E => obtain ⟨q, h9, -⟩ := hs9; cases h9
    | none =>
      have hk0 : k0 = 0 := by simpa using hck
      subst hk0
      have hs9 : Outcome.returned v9 = .returned (some (.int w)) := hs9
      cases hs9
      refine W.eq (g2 := F0 m 11 ls [.int w, .int (nI 0), .ref oa]) rfl ?_
      refine lv_if_eq (tgt := 18) hx hb d_L_same_11 (by decide) (fun c_11 => ?_) (fun c_11 => ?_)
      · refine lv_lconst (v := 0) hx hb d_L_same_18 (by decide) ?_
        refine la_st hx hb hK hPo1 d_L_same_19 (fun H2 L2 g1 hg1 hP2 hz2 hoq hL2 => ?_)
        refine lv_goto (tgt := 31) hx hb d_L_same_20 (by decide) ?_
        refine lv_iconst (v := (nI 0)) hx hb d_L_same_31 (by decide) ?_
        exact mx_iret hx hb hr hlk d_L_same_32 (Nat.le_of_ble_eq_true rfl) (Nat.le_of_ble_eq_true rfl) (fun q9 h9 => (List.mem_append.mp h9).elim (fun h8 => Or.inl (hL q9 h8)) (fun h8 => Or.inr (hL2 q9 h8))) (⟨rfl, hPs _ _ hp hz2 hoq, g1, hP2, fun _ => hg1.trans (by unfold zl; first | rw [if_pos c_11] | rw [if_neg c_11])⟩)
      · refine lv_lconst (v := 1) hx hb d_L_same_14 (by decide) ?_
        refine lv_goto (tgt := 19) hx hb d_L_same_15 (by decide) ?_
        refine la_st hx hb hK hPo1 d_L_same_19 (fun H2 L2 g1 hg1 hP2 hz2 hoq hL2 => ?_)
        refine lv_goto (tgt := 31) hx hb d_L_same_20 (by decide) ?_
        refine lv_iconst (v := (nI 0)) hx hb d_L_same_31 (by decide) ?_
        exact mx_iret hx hb hr hlk d_L_same_32 (Nat.le_of_ble_eq_true rfl) (Nat.le_of_ble_eq_true rfl) (fun q9 h9 => (List.mem_append.mp h9).elim (fun h8 => Or.inl (hL q9 h8)) (fun h8 => Or.inr (hL2 q9 h8))) (⟨rfl, hPs _ _ hp hz2 hoq, g1, hP2, fun _ => hg1.trans (by unfold zl; first | rw [if_pos c_11] | rw [if_neg c_11])⟩)
  · obtain ⟨hs9, hp⟩ := hq
    have hPo1 : va_P D vcl [(oa, aJ cJ 1 g)] H1 := kept1 hPo (fun h9 => hk oa h9 hFo)
    cases c0 with
    | none => exact absurd (show Outcome.threw q = .returned (some (.int w)) from hs9) (fun h => by cases h)
    | some E =>
      obtain ⟨q2, h9, ho⟩ := hs9
      cases h9
      rcases List.mem_cons.mp hck with h9 | hck
      · cases h9
      rcases List.mem_cons.mp hck with h9 | hck
      · cases h9
        refine mx_catch (own := "FewBitsLaw") (E := E_I) (nx := E_I) hW hown [] ⟨0, 20, 23, 13⟩ [⟨0, 20, 27, 21⟩] het (fun y hy => ?_) (by decide) (by decide) (G.1.at 48 rfl rfl _ hW) (G.1.tab 65 rfl rfl _ hW) ho ?_
        · exact absurd hy List.not_mem_nil
        · refine W.eq (g2 := F0 m 23 ls [.ref q]) rfl ?_
          refine lv_astore (lv' := [(7, .ref q), (0, .ref xo), (1, .int v), (2, .long x), (4, .long y), (6, .ref oa)]) hx hb d_L_same_23 hl (by decide) rfl (fun ls hl => ?_)
          refine lv_iconst (v := (nI 1)) hx hb d_L_same_25 (by decide) ?_
          exact mx_iret hx hb hr hlk d_L_same_26 (Nat.le_of_ble_eq_true rfl) (Nat.le_of_ble_eq_true rfl) (fun q9 h9 => Or.inl (hL q9 h9)) (⟨rfl, hp, g, hPo1, fun h => absurd h (by decide)⟩)
      rcases List.mem_cons.mp hck with h9 | hck
      · cases h9
        refine mx_catch (own := "FewBitsLaw") (E := E_S) (nx := E_S) hW hown [⟨0, 20, 23, 13⟩] ⟨0, 20, 27, 21⟩ [] het (fun y hy => ?_) (by decide) (by decide) (G.1.at 265 rfl rfl _ hW) (G.1.tab 277 rfl rfl _ hW) ho ?_
        · rcases List.mem_cons.mp hy with rfl | hy
          · exact ⟨by decide, by decide, E_I, G.1.at 48 rfl rfl _ hW, nc_SI G hW⟩
          exact absurd hy List.not_mem_nil
        · refine W.eq (g2 := F0 m 27 ls [.ref q]) rfl ?_
          refine lv_astore (lv' := [(7, .ref q), (0, .ref xo), (1, .int v), (2, .long x), (4, .long y), (6, .ref oa)]) hx hb d_L_same_27 hl (by decide) rfl (fun ls hl => ?_)
          refine lv_iconst (v := (nI 2)) hx hb d_L_same_29 (by decide) ?_
          exact mx_iret hx hb hr hlk d_L_same_30 (Nat.le_of_ble_eq_true rfl) (Nat.le_of_ble_eq_true rfl) (fun q9 h9 => Or.inl (hL q9 h9)) (⟨rfl, hp, g, hPo1, fun h => absurd h (by decide)⟩)
      exact absurd hck List.not_mem_nil

set_option maxHeartbeats 4000000 in
set_option maxRecDepth 100000 in
theorem w_count {l : Launch} {s0 : State} {D : va_G} {cI cF cJ : ClassId} (G : Gx l s0 D cI cF cJ) (xo fa ma oa : Nat) (v : Int32) (wv : Int32) {c0 : Option String} {k0 : Nat} {w : Int32} {P : Heap → Prop} {F : Nat → Prop} {g : Nat → Int64} {H0 : Heap} (hck : (c0, k0) ∈ [(none, 0), (some E_I, 1), (some E_S, 2), (some E_A, 3)]) (hC : Mx l s0 y_F_count (.code y_F_count b_F_count 4 (some .int)) { frames := 8, cells := 4, slots := 1094, locals := 180 } [.ref xo, .int v, .int wv] H0 F (Rq s0 c0 (some (.int w)) P)) (hPx : va_P D vcl [(xo, .inr (3, [.ref fa, .ref ma]))] H0) (hPo : va_P D vcl [(oa, aJ cJ 1 g)] H0) (hFo : ¬ F oa) (hPs : ∀ H1 H2 : Heap, P H1 → H2.size = H1.size → (∀ q : Nat, q ≠ oa → H2[q]? = H1[q]?) → P H2) : Mx l s0 y_L_count (.codeWith y_L_count b_L_count 5 (some .int) [(0, 10, 13, 13), (0, 10, 17, 21), (0, 10, 21, 15)]) { frames := 9, cells := 4, slots := 1094, locals := 215 } [.ref xo, .int v, .int wv, .ref oa] H0 (fun q => F q ∨ q = oa) (Rw (.int (nI k0)) (fun H1 => P H1 ∧ ∃ g1 : Nat → Int64, va_P D vcl [(oa, aJ cJ 1 g1)] H1 ∧ (k0 = 0 → g1 0 = Int32.toInt64 w))) := by
  refine Mx.ofWH (own := "FewBitsLaw") rfl rfl ?_
  rintro p e s m below meth c ⟨hx, hb, hml, hr, hown, hW, hlk⟩ het hH
  have hK := G.k hW
  have hl := lv_entry ([.ref xo, .int v, .int wv, .ref oa]) (n := 5) (Nat.le_of_ble_eq_true rfl)
  rw [lg_entry_eq]
  generalize (lg_sl ([.ref xo, .int v, .int wv, .ref oa]) ++ List.replicate (5 - (lg_sl ([.ref xo, .int v, .int wv, .ref oa])).length) Slot.unset).toArray = ls at hl ⊢
  have hl : lv_has ls 5 [(0, .ref xo), (1, .int v), (2, .int wv), (3, .ref oa)] := hl
  refine lv_aload_n hx hb d_L_count_0 rfl (lv_at hl 3 rfl) ?_
  refine lv_iconst (v := (nI 0)) hx hb d_L_count_1 (by decide) ?_
  refine lv_aload_n hx hb d_L_count_2 rfl (lv_at hl 0 rfl) ?_
  refine lv_iload_n hx hb d_L_count_3 rfl (lv_at hl 1 rfl) ?_
  refine lv_iload_n hx hb d_L_count_4 rfl (lv_at hl 2 rfl) ?_
  refine mx_call hC hW (iv_L_count_5 G hx hb hown hW (va_recv hK hPx (ci := 3) (q0 := 0) rfl rfl) [.int v, .int wv] [.int (nI 0), .ref oa] rfl) hml hl.1 (by rw [hb]; exact d_L_count_5) (cd_F_count G hW) ⟨Nat.le_of_ble_eq_true rfl, Nat.le_of_ble_eq_true rfl⟩ (Nat.le_of_ble_eq_true rfl) (Nat.le_of_ble_eq_true rfl) (Nat.le_of_ble_eq_true rfl) (fun v9 H1 L hq hz hk hL => ?_) (fun q H1 L hq hz hk hL => ?_)
  · obtain ⟨hs9, hp⟩ := hq
    have hPo1 : va_P D vcl [(oa, aJ cJ 1 g)] H1 := kept1 hPo (fun h9 => hk oa h9 hFo)
    cases c0 with
    | some E => obtain ⟨q, h9, -⟩ := hs9; cases h9
    | none =>
      have hk0 : k0 = 0 := by simpa using hck
      subst hk0
      have hs9 : Outcome.returned v9 = .returned (some (.int w)) := hs9
      cases hs9
      refine W.eq (g2 := F0 m 8 ls [.int w, .int (nI 0), .ref oa]) rfl ?_
      refine lv_i2l hx hb d_L_count_8 rfl ?_
      refine la_st hx hb hK hPo1 d_L_count_9 (fun H2 L2 g1 hg1 hP2 hz2 hoq hL2 => ?_)
      refine lv_goto (tgt := 25) hx hb d_L_count_10 (by decide) ?_
      refine lv_iconst (v := (nI 0)) hx hb d_L_count_25 (by decide) ?_
      exact mx_iret hx hb hr hlk d_L_count_26 (Nat.le_of_ble_eq_true rfl) (Nat.le_of_ble_eq_true rfl) (fun q9 h9 => (List.mem_append.mp h9).elim (fun h8 => Or.inl (hL q9 h8)) (fun h8 => Or.inr (hL2 q9 h8))) (⟨rfl, hPs _ _ hp hz2 hoq, g1, hP2, fun _ => hg1⟩)
  · obtain ⟨hs9, hp⟩ := hq
    have hPo1 : va_P D vcl [(oa, aJ cJ 1 g)] H1 := kept1 hPo (fun h9 => hk oa h9 hFo)
    cases c0 with
    | none => exact absurd (show Outcome.threw q = .returned (some (.int w)) from hs9) (fun h => by cases h)
    | some E =>
      obtain ⟨q2, h9, ho⟩ := hs9
      cases h9
      rcases List.mem_cons.mp hck with h9 | hck
      · cases h9
      rcases List.mem_cons.mp hck with h9 | hck
      · cases h9
        refine mx_catch (own := "FewBitsLaw") (E := E_I) (nx := E_I) hW hown [] ⟨0, 10, 13, 13⟩ [⟨0, 10, 17, 21⟩, ⟨0, 10, 21, 15⟩] het (fun y hy => ?_) (by decide) (by decide) (G.1.at 48 rfl rfl _ hW) (G.1.tab 65 rfl rfl _ hW) ho ?_
        · exact absurd hy List.not_mem_nil
        · refine W.eq (g2 := F0 m 13 ls [.ref q]) rfl ?_
          refine lv_astore (lv' := [(4, .ref q), (0, .ref xo), (1, .int v), (2, .int wv), (3, .ref oa)]) hx hb d_L_count_13 hl (by decide) rfl (fun ls hl => ?_)
          refine lv_iconst (v := (nI 1)) hx hb d_L_count_15 (by decide) ?_
          exact mx_iret hx hb hr hlk d_L_count_16 (Nat.le_of_ble_eq_true rfl) (Nat.le_of_ble_eq_true rfl) (fun q9 h9 => Or.inl (hL q9 h9)) (⟨rfl, hp, g, hPo1, fun h => absurd h (by decide)⟩)
      rcases List.mem_cons.mp hck with h9 | hck
      · cases h9
        refine mx_catch (own := "FewBitsLaw") (E := E_S) (nx := E_S) hW hown [⟨0, 10, 13, 13⟩] ⟨0, 10, 17, 21⟩ [⟨0, 10, 21, 15⟩] het (fun y hy => ?_) (by decide) (by decide) (G.1.at 265 rfl rfl _ hW) (G.1.tab 277 rfl rfl _ hW) ho ?_
        · rcases List.mem_cons.mp hy with rfl | hy
          · exact ⟨by decide, by decide, E_I, G.1.at 48 rfl rfl _ hW, nc_SI G hW⟩
          exact absurd hy List.not_mem_nil
        · refine W.eq (g2 := F0 m 17 ls [.ref q]) rfl ?_
          refine lv_astore (lv' := [(4, .ref q), (0, .ref xo), (1, .int v), (2, .int wv), (3, .ref oa)]) hx hb d_L_count_17 hl (by decide) rfl (fun ls hl => ?_)
          refine lv_iconst (v := (nI 2)) hx hb d_L_count_19 (by decide) ?_
          exact mx_iret hx hb hr hlk d_L_count_20 (Nat.le_of_ble_eq_true rfl) (Nat.le_of_ble_eq_true rfl) (fun q9 h9 => Or.inl (hL q9 h9)) (⟨rfl, hp, g, hPo1, fun h => absurd h (by decide)⟩)
      rcases List.mem_cons.mp hck with h9 | hck
      · cases h9
        refine mx_catch (own := "FewBitsLaw") (E := E_A) (nx := E_A) hW hown [⟨0, 10, 13, 13⟩, ⟨0, 10, 17, 21⟩] ⟨0, 10, 21, 15⟩ [] het (fun y hy => ?_) (by decide) (by decide) (G.1.at 49 rfl rfl _ hW) (G.1.tab 138 rfl rfl _ hW) ho ?_
        · rcases List.mem_cons.mp hy with rfl | hy
          · exact ⟨by decide, by decide, E_I, G.1.at 48 rfl rfl _ hW, nc_AI G hW⟩
          rcases List.mem_cons.mp hy with rfl | hy
          · exact ⟨by decide, by decide, E_S, G.1.at 265 rfl rfl _ hW, nc_AS G hW⟩
          exact absurd hy List.not_mem_nil
        · refine W.eq (g2 := F0 m 21 ls [.ref q]) rfl ?_
          refine lv_astore (lv' := [(4, .ref q), (0, .ref xo), (1, .int v), (2, .int wv), (3, .ref oa)]) hx hb d_L_count_21 hl (by decide) rfl (fun ls hl => ?_)
          refine lv_iconst (v := (nI 3)) hx hb d_L_count_23 (by decide) ?_
          exact mx_iret hx hb hr hlk d_L_count_24 (Nat.le_of_ble_eq_true rfl) (Nat.le_of_ble_eq_true rfl) (fun q9 h9 => Or.inl (hL q9 h9)) (⟨rfl, hp, g, hPo1, fun h => absurd h (by decide)⟩)
      exact absurd hck List.not_mem_nil

set_option maxHeartbeats 4000000 in
set_option maxRecDepth 100000 in
theorem w_cell {l : Launch} {s0 : State} {D : va_G} {cI cF cJ : ClassId} (G : Gx l s0 D cI cF cJ) (xo fa ma oa : Nat) (v : Int32) (iv : Int32) {c0 : Option String} {k0 : Nat} {w : Int32} {P : Heap → Prop} {F : Nat → Prop} {g : Nat → Int64} {H0 : Heap} (hck : (c0, k0) ∈ [(none, 0), (some E_S, 1), (some E_I, 2)]) (hC : Mx l s0 y_F_cell (.code y_F_cell b_F_cell 4 (some .int)) { frames := 8, cells := 4, slots := 1094, locals := 180 } [.ref xo, .int v, .int iv] H0 F (Rq s0 c0 (some (.int w)) P)) (hPx : va_P D vcl [(xo, .inr (3, [.ref fa, .ref ma]))] H0) (hPo : va_P D vcl [(oa, aJ cJ 1 g)] H0) (hFo : ¬ F oa) (hPs : ∀ H1 H2 : Heap, P H1 → H2.size = H1.size → (∀ q : Nat, q ≠ oa → H2[q]? = H1[q]?) → P H2) : Mx l s0 y_L_cell (.codeWith y_L_cell b_L_cell 5 (some .int) [(0, 10, 13, 21), (0, 10, 17, 13)]) { frames := 9, cells := 4, slots := 1094, locals := 215 } [.ref xo, .int v, .int iv, .ref oa] H0 (fun q => F q ∨ q = oa) (Rw (.int (nI k0)) (fun H1 => P H1 ∧ ∃ g1 : Nat → Int64, va_P D vcl [(oa, aJ cJ 1 g1)] H1 ∧ (k0 = 0 → g1 0 = Int32.toInt64 w))) := by
  refine Mx.ofWH (own := "FewBitsLaw") rfl rfl ?_
  rintro p e s m below meth c ⟨hx, hb, hml, hr, hown, hW, hlk⟩ het hH
  have hK := G.k hW
  have hl := lv_entry ([.ref xo, .int v, .int iv, .ref oa]) (n := 5) (Nat.le_of_ble_eq_true rfl)
  rw [lg_entry_eq]
  generalize (lg_sl ([.ref xo, .int v, .int iv, .ref oa]) ++ List.replicate (5 - (lg_sl ([.ref xo, .int v, .int iv, .ref oa])).length) Slot.unset).toArray = ls at hl ⊢
  have hl : lv_has ls 5 [(0, .ref xo), (1, .int v), (2, .int iv), (3, .ref oa)] := hl
  refine lv_aload_n hx hb d_L_cell_0 rfl (lv_at hl 3 rfl) ?_
  refine lv_iconst (v := (nI 0)) hx hb d_L_cell_1 (by decide) ?_
  refine lv_aload_n hx hb d_L_cell_2 rfl (lv_at hl 0 rfl) ?_
  refine lv_iload_n hx hb d_L_cell_3 rfl (lv_at hl 1 rfl) ?_
  refine lv_iload_n hx hb d_L_cell_4 rfl (lv_at hl 2 rfl) ?_
  refine mx_call hC hW (iv_L_cell_5 G hx hb hown hW (va_recv hK hPx (ci := 3) (q0 := 0) rfl rfl) [.int v, .int iv] [.int (nI 0), .ref oa] rfl) hml hl.1 (by rw [hb]; exact d_L_cell_5) (cd_F_cell G hW) ⟨Nat.le_of_ble_eq_true rfl, Nat.le_of_ble_eq_true rfl⟩ (Nat.le_of_ble_eq_true rfl) (Nat.le_of_ble_eq_true rfl) (Nat.le_of_ble_eq_true rfl) (fun v9 H1 L hq hz hk hL => ?_) (fun q H1 L hq hz hk hL => ?_)
  · obtain ⟨hs9, hp⟩ := hq
    have hPo1 : va_P D vcl [(oa, aJ cJ 1 g)] H1 := kept1 hPo (fun h9 => hk oa h9 hFo)
    cases c0 with
    | some E => obtain ⟨q, h9, -⟩ := hs9; cases h9
    | none =>
      have hk0 : k0 = 0 := by simpa using hck
      subst hk0
      have hs9 : Outcome.returned v9 = .returned (some (.int w)) := hs9
      cases hs9
      refine W.eq (g2 := F0 m 8 ls [.int w, .int (nI 0), .ref oa]) rfl ?_
      refine lv_i2l hx hb d_L_cell_8 rfl ?_
      refine la_st hx hb hK hPo1 d_L_cell_9 (fun H2 L2 g1 hg1 hP2 hz2 hoq hL2 => ?_)
      refine lv_goto (tgt := 21) hx hb d_L_cell_10 (by decide) ?_
      refine lv_iconst (v := (nI 0)) hx hb d_L_cell_21 (by decide) ?_
      exact mx_iret hx hb hr hlk d_L_cell_22 (Nat.le_of_ble_eq_true rfl) (Nat.le_of_ble_eq_true rfl) (fun q9 h9 => (List.mem_append.mp h9).elim (fun h8 => Or.inl (hL q9 h8)) (fun h8 => Or.inr (hL2 q9 h8))) (⟨rfl, hPs _ _ hp hz2 hoq, g1, hP2, fun _ => hg1⟩)
  · obtain ⟨hs9, hp⟩ := hq
    have hPo1 : va_P D vcl [(oa, aJ cJ 1 g)] H1 := kept1 hPo (fun h9 => hk oa h9 hFo)
    cases c0 with
    | none => exact absurd (show Outcome.threw q = .returned (some (.int w)) from hs9) (fun h => by cases h)
    | some E =>
      obtain ⟨q2, h9, ho⟩ := hs9
      cases h9
      rcases List.mem_cons.mp hck with h9 | hck
      · cases h9
      rcases List.mem_cons.mp hck with h9 | hck
      · cases h9
        refine mx_catch (own := "FewBitsLaw") (E := E_S) (nx := E_S) hW hown [] ⟨0, 10, 13, 21⟩ [⟨0, 10, 17, 13⟩] het (fun y hy => ?_) (by decide) (by decide) (G.1.at 265 rfl rfl _ hW) (G.1.tab 277 rfl rfl _ hW) ho ?_
        · exact absurd hy List.not_mem_nil
        · refine W.eq (g2 := F0 m 13 ls [.ref q]) rfl ?_
          refine lv_astore (lv' := [(4, .ref q), (0, .ref xo), (1, .int v), (2, .int iv), (3, .ref oa)]) hx hb d_L_cell_13 hl (by decide) rfl (fun ls hl => ?_)
          refine lv_iconst (v := (nI 1)) hx hb d_L_cell_15 (by decide) ?_
          exact mx_iret hx hb hr hlk d_L_cell_16 (Nat.le_of_ble_eq_true rfl) (Nat.le_of_ble_eq_true rfl) (fun q9 h9 => Or.inl (hL q9 h9)) (⟨rfl, hp, g, hPo1, fun h => absurd h (by decide)⟩)
      rcases List.mem_cons.mp hck with h9 | hck
      · cases h9
        refine mx_catch (own := "FewBitsLaw") (E := E_I) (nx := E_I) hW hown [⟨0, 10, 13, 21⟩] ⟨0, 10, 17, 13⟩ [] het (fun y hy => ?_) (by decide) (by decide) (G.1.at 48 rfl rfl _ hW) (G.1.tab 65 rfl rfl _ hW) ho ?_
        · rcases List.mem_cons.mp hy with rfl | hy
          · exact ⟨by decide, by decide, E_S, G.1.at 265 rfl rfl _ hW, nc_IS G hW⟩
          exact absurd hy List.not_mem_nil
        · refine W.eq (g2 := F0 m 17 ls [.ref q]) rfl ?_
          refine lv_astore (lv' := [(4, .ref q), (0, .ref xo), (1, .int v), (2, .int iv), (3, .ref oa)]) hx hb d_L_cell_17 hl (by decide) rfl (fun ls hl => ?_)
          refine lv_iconst (v := (nI 2)) hx hb d_L_cell_19 (by decide) ?_
          exact mx_iret hx hb hr hlk d_L_cell_20 (Nat.le_of_ble_eq_true rfl) (Nat.le_of_ble_eq_true rfl) (fun q9 h9 => Or.inl (hL q9 h9)) (⟨rfl, hp, g, hPo1, fun h => absurd h (by decide)⟩)
      exact absurd hck List.not_mem_nil

set_option maxHeartbeats 4000000 in
set_option maxRecDepth 100000 in
theorem w_merge {l : Launch} {s0 : State} {D : va_G} {cI cF cJ : ClassId} (G : Gx l s0 D cI cF cJ) (xo fa ma oa : Nat) (v : Int32) (u : Int32) {c0 : Option String} {k0 : Nat} {w : Int32} {P : Heap → Prop} {F : Nat → Prop} {g : Nat → Int64} {H0 : Heap} (hck : (c0, k0) ∈ [(none, 0), (some E_I, 1), (some E_S, 2), (some E_A, 3), (some E_U, 4)]) (hC : Mx l s0 y_F_merge (.code y_F_merge b_F_merge 7 (some .int)) { frames := 8, cells := 4, slots := 1094, locals := 180 } [.ref xo, .int v, .int u] H0 F (Rq s0 c0 (some (.int w)) P)) (hPx : va_P D vcl [(xo, .inr (3, [.ref fa, .ref ma]))] H0) (hPo : va_P D vcl [(oa, aJ cJ 1 g)] H0) (hFo : ¬ F oa) (hPs : ∀ H1 H2 : Heap, P H1 → H2.size = H1.size → (∀ q : Nat, q ≠ oa → H2[q]? = H1[q]?) → P H2) : Mx l s0 y_L_merge (.codeWith y_L_merge b_L_merge 5 (some .int) [(0, 10, 13, 13), (0, 10, 17, 21), (0, 10, 21, 15), (0, 10, 25, 23)]) { frames := 9, cells := 4, slots := 1094, locals := 215 } [.ref xo, .int v, .int u, .ref oa] H0 (fun q => F q ∨ q = oa) (Rw (.int (nI k0)) (fun H1 => P H1 ∧ ∃ g1 : Nat → Int64, va_P D vcl [(oa, aJ cJ 1 g1)] H1 ∧ (k0 = 0 → g1 0 = Int32.toInt64 w))) := by
  refine Mx.ofWH (own := "FewBitsLaw") rfl rfl ?_
  rintro p e s m below meth c ⟨hx, hb, hml, hr, hown, hW, hlk⟩ het hH
  have hK := G.k hW
  have hl := lv_entry ([.ref xo, .int v, .int u, .ref oa]) (n := 5) (Nat.le_of_ble_eq_true rfl)
  rw [lg_entry_eq]
  generalize (lg_sl ([.ref xo, .int v, .int u, .ref oa]) ++ List.replicate (5 - (lg_sl ([.ref xo, .int v, .int u, .ref oa])).length) Slot.unset).toArray = ls at hl ⊢
  have hl : lv_has ls 5 [(0, .ref xo), (1, .int v), (2, .int u), (3, .ref oa)] := hl
  refine lv_aload_n hx hb d_L_merge_0 rfl (lv_at hl 3 rfl) ?_
  refine lv_iconst (v := (nI 0)) hx hb d_L_merge_1 (by decide) ?_
  refine lv_aload_n hx hb d_L_merge_2 rfl (lv_at hl 0 rfl) ?_
  refine lv_iload_n hx hb d_L_merge_3 rfl (lv_at hl 1 rfl) ?_
  refine lv_iload_n hx hb d_L_merge_4 rfl (lv_at hl 2 rfl) ?_
  refine mx_call hC hW (iv_L_merge_5 G hx hb hown hW (va_recv hK hPx (ci := 3) (q0 := 0) rfl rfl) [.int v, .int u] [.int (nI 0), .ref oa] rfl) hml hl.1 (by rw [hb]; exact d_L_merge_5) (cd_F_merge G hW) ⟨Nat.le_of_ble_eq_true rfl, Nat.le_of_ble_eq_true rfl⟩ (Nat.le_of_ble_eq_true rfl) (Nat.le_of_ble_eq_true rfl) (Nat.le_of_ble_eq_true rfl) (fun v9 H1 L hq hz hk hL => ?_) (fun q H1 L hq hz hk hL => ?_)
  · obtain ⟨hs9, hp⟩ := hq
    have hPo1 : va_P D vcl [(oa, aJ cJ 1 g)] H1 := kept1 hPo (fun h9 => hk oa h9 hFo)
    cases c0 with
    | some E => obtain ⟨q, h9, -⟩ := hs9; cases h9
    | none =>
      have hk0 : k0 = 0 := by simpa using hck
      subst hk0
      have hs9 : Outcome.returned v9 = .returned (some (.int w)) := hs9
      cases hs9
      refine W.eq (g2 := F0 m 8 ls [.int w, .int (nI 0), .ref oa]) rfl ?_
      refine lv_i2l hx hb d_L_merge_8 rfl ?_
      refine la_st hx hb hK hPo1 d_L_merge_9 (fun H2 L2 g1 hg1 hP2 hz2 hoq hL2 => ?_)
      refine lv_goto (tgt := 29) hx hb d_L_merge_10 (by decide) ?_
      refine lv_iconst (v := (nI 0)) hx hb d_L_merge_29 (by decide) ?_
      exact mx_iret hx hb hr hlk d_L_merge_30 (Nat.le_of_ble_eq_true rfl) (Nat.le_of_ble_eq_true rfl) (fun q9 h9 => (List.mem_append.mp h9).elim (fun h8 => Or.inl (hL q9 h8)) (fun h8 => Or.inr (hL2 q9 h8))) (⟨rfl, hPs _ _ hp hz2 hoq, g1, hP2, fun _ => hg1⟩)
  · obtain ⟨hs9, hp⟩ := hq
    have hPo1 : va_P D vcl [(oa, aJ cJ 1 g)] H1 := kept1 hPo (fun h9 => hk oa h9 hFo)
    cases c0 with
    | none => exact absurd (show Outcome.threw q = .returned (some (.int w)) from hs9) (fun h => by cases h)
    | some E =>
      obtain ⟨q2, h9, ho⟩ := hs9
      cases h9
      rcases List.mem_cons.mp hck with h9 | hck
      · cases h9
      rcases List.mem_cons.mp hck with h9 | hck
      · cases h9
        refine mx_catch (own := "FewBitsLaw") (E := E_I) (nx := E_I) hW hown [] ⟨0, 10, 13, 13⟩ [⟨0, 10, 17, 21⟩, ⟨0, 10, 21, 15⟩, ⟨0, 10, 25, 23⟩] het (fun y hy => ?_) (by decide) (by decide) (G.1.at 48 rfl rfl _ hW) (G.1.tab 65 rfl rfl _ hW) ho ?_
        · exact absurd hy List.not_mem_nil
        · refine W.eq (g2 := F0 m 13 ls [.ref q]) rfl ?_
          refine lv_astore (lv' := [(4, .ref q), (0, .ref xo), (1, .int v), (2, .int u), (3, .ref oa)]) hx hb d_L_merge_13 hl (by decide) rfl (fun ls hl => ?_)
          refine lv_iconst (v := (nI 1)) hx hb d_L_merge_15 (by decide) ?_
          exact mx_iret hx hb hr hlk d_L_merge_16 (Nat.le_of_ble_eq_true rfl) (Nat.le_of_ble_eq_true rfl) (fun q9 h9 => Or.inl (hL q9 h9)) (⟨rfl, hp, g, hPo1, fun h => absurd h (by decide)⟩)
      rcases List.mem_cons.mp hck with h9 | hck
      · cases h9
        refine mx_catch (own := "FewBitsLaw") (E := E_S) (nx := E_S) hW hown [⟨0, 10, 13, 13⟩] ⟨0, 10, 17, 21⟩ [⟨0, 10, 21, 15⟩, ⟨0, 10, 25, 23⟩] het (fun y hy => ?_) (by decide) (by decide) (G.1.at 265 rfl rfl _ hW) (G.1.tab 277 rfl rfl _ hW) ho ?_
        · rcases List.mem_cons.mp hy with rfl | hy
          · exact ⟨by decide, by decide, E_I, G.1.at 48 rfl rfl _ hW, nc_SI G hW⟩
          exact absurd hy List.not_mem_nil
        · refine W.eq (g2 := F0 m 17 ls [.ref q]) rfl ?_
          refine lv_astore (lv' := [(4, .ref q), (0, .ref xo), (1, .int v), (2, .int u), (3, .ref oa)]) hx hb d_L_merge_17 hl (by decide) rfl (fun ls hl => ?_)
          refine lv_iconst (v := (nI 2)) hx hb d_L_merge_19 (by decide) ?_
          exact mx_iret hx hb hr hlk d_L_merge_20 (Nat.le_of_ble_eq_true rfl) (Nat.le_of_ble_eq_true rfl) (fun q9 h9 => Or.inl (hL q9 h9)) (⟨rfl, hp, g, hPo1, fun h => absurd h (by decide)⟩)
      rcases List.mem_cons.mp hck with h9 | hck
      · cases h9
        refine mx_catch (own := "FewBitsLaw") (E := E_A) (nx := E_A) hW hown [⟨0, 10, 13, 13⟩, ⟨0, 10, 17, 21⟩] ⟨0, 10, 21, 15⟩ [⟨0, 10, 25, 23⟩] het (fun y hy => ?_) (by decide) (by decide) (G.1.at 49 rfl rfl _ hW) (G.1.tab 138 rfl rfl _ hW) ho ?_
        · rcases List.mem_cons.mp hy with rfl | hy
          · exact ⟨by decide, by decide, E_I, G.1.at 48 rfl rfl _ hW, nc_AI G hW⟩
          rcases List.mem_cons.mp hy with rfl | hy
          · exact ⟨by decide, by decide, E_S, G.1.at 265 rfl rfl _ hW, nc_AS G hW⟩
          exact absurd hy List.not_mem_nil
        · refine W.eq (g2 := F0 m 21 ls [.ref q]) rfl ?_
          refine lv_astore (lv' := [(4, .ref q), (0, .ref xo), (1, .int v), (2, .int u), (3, .ref oa)]) hx hb d_L_merge_21 hl (by decide) rfl (fun ls hl => ?_)
          refine lv_iconst (v := (nI 3)) hx hb d_L_merge_23 (by decide) ?_
          exact mx_iret hx hb hr hlk d_L_merge_24 (Nat.le_of_ble_eq_true rfl) (Nat.le_of_ble_eq_true rfl) (fun q9 h9 => Or.inl (hL q9 h9)) (⟨rfl, hp, g, hPo1, fun h => absurd h (by decide)⟩)
      rcases List.mem_cons.mp hck with h9 | hck
      · cases h9
        refine mx_catch (own := "FewBitsLaw") (E := E_U) (nx := E_U) hW hown [⟨0, 10, 13, 13⟩, ⟨0, 10, 17, 21⟩, ⟨0, 10, 21, 15⟩] ⟨0, 10, 25, 23⟩ [] het (fun y hy => ?_) (by decide) (by decide) (G.1.at 266 rfl rfl _ hW) (G.1.tab 390 rfl rfl _ hW) ho ?_
        · rcases List.mem_cons.mp hy with rfl | hy
          · exact ⟨by decide, by decide, E_I, G.1.at 48 rfl rfl _ hW, nc_UI G hW⟩
          rcases List.mem_cons.mp hy with rfl | hy
          · exact ⟨by decide, by decide, E_S, G.1.at 265 rfl rfl _ hW, nc_US G hW⟩
          rcases List.mem_cons.mp hy with rfl | hy
          · exact ⟨by decide, by decide, E_A, G.1.at 49 rfl rfl _ hW, nc_UA G hW⟩
          exact absurd hy List.not_mem_nil
        · refine W.eq (g2 := F0 m 25 ls [.ref q]) rfl ?_
          refine lv_astore (lv' := [(4, .ref q), (0, .ref xo), (1, .int v), (2, .int u), (3, .ref oa)]) hx hb d_L_merge_25 hl (by decide) rfl (fun ls hl => ?_)
          refine lv_iconst (v := (nI 4)) hx hb d_L_merge_27 (by decide) ?_
          exact mx_iret hx hb hr hlk d_L_merge_28 (Nat.le_of_ble_eq_true rfl) (Nat.le_of_ble_eq_true rfl) (fun q9 h9 => Or.inl (hL q9 h9)) (⟨rfl, hp, g, hPo1, fun h => absurd h (by decide)⟩)
      exact absurd hck List.not_mem_nil

set_option maxHeartbeats 4000000 in
set_option maxRecDepth 100000 in
theorem w_grow {l : Launch} {s0 : State} {D : va_G} {cI cF cJ : ClassId} (G : Gx l s0 D cI cF cJ) (xo fa ma : Nat) (v : Int32) {c0 : Option String} {k0 : Nat} {P : Heap → Prop} {F : Nat → Prop} {H0 : Heap} (hck : (c0, k0) ∈ [(none, 0), (some E_I, 1), (some E_S, 2), (some E_A, 3)]) (hC : Mx l s0 y_F_grow (.code y_F_grow b_F_grow 3 none) { frames := 8, cells := 4, slots := 1094, locals := 180 } [.ref xo, .int v] H0 F (Rq s0 c0 none P)) (hPx : va_P D vcl [(xo, .inr (3, [.ref fa, .ref ma]))] H0) : Mx l s0 y_L_grow (.codeWith y_L_grow b_L_grow 3 (some .int) [(0, 5, 8, 13), (0, 5, 11, 21), (0, 5, 14, 15)]) { frames := 9, cells := 4, slots := 1094, locals := 215 } [.ref xo, .int v] H0 F (Rw (.int (nI k0)) P) := by
  refine Mx.ofWH (own := "FewBitsLaw") rfl rfl ?_
  rintro p e s m below meth c ⟨hx, hb, hml, hr, hown, hW, hlk⟩ het hH
  have hK := G.k hW
  have hl := lv_entry ([.ref xo, .int v]) (n := 3) (Nat.le_of_ble_eq_true rfl)
  rw [lg_entry_eq]
  generalize (lg_sl ([.ref xo, .int v]) ++ List.replicate (3 - (lg_sl ([.ref xo, .int v])).length) Slot.unset).toArray = ls at hl ⊢
  have hl : lv_has ls 3 [(0, .ref xo), (1, .int v)] := hl
  refine lv_aload_n hx hb d_L_grow_0 rfl (lv_at hl 0 rfl) ?_
  refine lv_iload_n hx hb d_L_grow_1 rfl (lv_at hl 1 rfl) ?_
  refine mx_call hC hW (iv_L_grow_2 G hx hb hown hW (va_recv hK hPx (ci := 3) (q0 := 0) rfl rfl) [.int v] [] rfl) hml hl.1 (by rw [hb]; exact d_L_grow_2) (cd_F_grow G hW) ⟨Nat.le_of_ble_eq_true rfl, Nat.le_of_ble_eq_true rfl⟩ (Nat.le_of_ble_eq_true rfl) (Nat.le_of_ble_eq_true rfl) (Nat.le_of_ble_eq_true rfl) (fun v9 H1 L hq hz hk hL => ?_) (fun q H1 L hq hz hk hL => ?_)
  · obtain ⟨hs9, hp⟩ := hq
    cases c0 with
    | some E => obtain ⟨q, h9, -⟩ := hs9; cases h9
    | none =>
      have hk0 : k0 = 0 := by simpa using hck
      subst hk0
      have hs9 : Outcome.returned v9 = .returned none := hs9
      cases hs9
      refine W.eq (g2 := F0 m 5 ls []) rfl ?_
      refine lv_goto (tgt := 17) hx hb d_L_grow_5 (by decide) ?_
      refine lv_iconst (v := (nI 0)) hx hb d_L_grow_17 (by decide) ?_
      exact mx_iret hx hb hr hlk d_L_grow_18 (Nat.le_of_ble_eq_true rfl) (Nat.le_of_ble_eq_true rfl) (fun q9 h9 => hL q9 h9) (⟨rfl, hp⟩)
  · obtain ⟨hs9, hp⟩ := hq
    cases c0 with
    | none => exact absurd (show Outcome.threw q = .returned none from hs9) (fun h => by cases h)
    | some E =>
      obtain ⟨q2, h9, ho⟩ := hs9
      cases h9
      rcases List.mem_cons.mp hck with h9 | hck
      · cases h9
      rcases List.mem_cons.mp hck with h9 | hck
      · cases h9
        refine mx_catch (own := "FewBitsLaw") (E := E_I) (nx := E_I) hW hown [] ⟨0, 5, 8, 13⟩ [⟨0, 5, 11, 21⟩, ⟨0, 5, 14, 15⟩] het (fun y hy => ?_) (by decide) (by decide) (G.1.at 48 rfl rfl _ hW) (G.1.tab 65 rfl rfl _ hW) ho ?_
        · exact absurd hy List.not_mem_nil
        · refine W.eq (g2 := F0 m 8 ls [.ref q]) rfl ?_
          refine lv_astore_n (lv' := [(2, .ref q), (0, .ref xo), (1, .int v)]) hx hb d_L_grow_8 rfl hl (by decide) rfl (fun ls hl => ?_)
          refine lv_iconst (v := (nI 1)) hx hb d_L_grow_9 (by decide) ?_
          exact mx_iret hx hb hr hlk d_L_grow_10 (Nat.le_of_ble_eq_true rfl) (Nat.le_of_ble_eq_true rfl) (fun q9 h9 => hL q9 h9) (⟨rfl, hp⟩)
      rcases List.mem_cons.mp hck with h9 | hck
      · cases h9
        refine mx_catch (own := "FewBitsLaw") (E := E_S) (nx := E_S) hW hown [⟨0, 5, 8, 13⟩] ⟨0, 5, 11, 21⟩ [⟨0, 5, 14, 15⟩] het (fun y hy => ?_) (by decide) (by decide) (G.1.at 265 rfl rfl _ hW) (G.1.tab 277 rfl rfl _ hW) ho ?_
        · rcases List.mem_cons.mp hy with rfl | hy
          · exact ⟨by decide, by decide, E_I, G.1.at 48 rfl rfl _ hW, nc_SI G hW⟩
          exact absurd hy List.not_mem_nil
        · refine W.eq (g2 := F0 m 11 ls [.ref q]) rfl ?_
          refine lv_astore_n (lv' := [(2, .ref q), (0, .ref xo), (1, .int v)]) hx hb d_L_grow_11 rfl hl (by decide) rfl (fun ls hl => ?_)
          refine lv_iconst (v := (nI 2)) hx hb d_L_grow_12 (by decide) ?_
          exact mx_iret hx hb hr hlk d_L_grow_13 (Nat.le_of_ble_eq_true rfl) (Nat.le_of_ble_eq_true rfl) (fun q9 h9 => hL q9 h9) (⟨rfl, hp⟩)
      rcases List.mem_cons.mp hck with h9 | hck
      · cases h9
        refine mx_catch (own := "FewBitsLaw") (E := E_A) (nx := E_A) hW hown [⟨0, 5, 8, 13⟩, ⟨0, 5, 11, 21⟩] ⟨0, 5, 14, 15⟩ [] het (fun y hy => ?_) (by decide) (by decide) (G.1.at 49 rfl rfl _ hW) (G.1.tab 138 rfl rfl _ hW) ho ?_
        · rcases List.mem_cons.mp hy with rfl | hy
          · exact ⟨by decide, by decide, E_I, G.1.at 48 rfl rfl _ hW, nc_AI G hW⟩
          rcases List.mem_cons.mp hy with rfl | hy
          · exact ⟨by decide, by decide, E_S, G.1.at 265 rfl rfl _ hW, nc_AS G hW⟩
          exact absurd hy List.not_mem_nil
        · refine W.eq (g2 := F0 m 14 ls [.ref q]) rfl ?_
          refine lv_astore_n (lv' := [(2, .ref q), (0, .ref xo), (1, .int v)]) hx hb d_L_grow_14 rfl hl (by decide) rfl (fun ls hl => ?_)
          refine lv_iconst (v := (nI 3)) hx hb d_L_grow_15 (by decide) ?_
          exact mx_iret hx hb hr hlk d_L_grow_16 (Nat.le_of_ble_eq_true rfl) (Nat.le_of_ble_eq_true rfl) (fun q9 h9 => hL q9 h9) (⟨rfl, hp⟩)
      exact absurd hck List.not_mem_nil

set_option maxHeartbeats 4000000 in
set_option maxRecDepth 100000 in
theorem w_clear {l : Launch} {s0 : State} {D : va_G} {cI cF cJ : ClassId} (G : Gx l s0 D cI cF cJ) (xo fa ma oa : Nat) (v : Int32) {c0 : Option String} {k0 : Nat} {w : Int32} {P : Heap → Prop} {F : Nat → Prop} {g : Nat → Int64} {H0 : Heap} (hck : (c0, k0) ∈ [(none, 0), (some E_I, 1), (some E_S, 2)]) (hC : Mx l s0 y_F_clear (.code y_F_clear b_F_clear 4 (some .int)) { frames := 8, cells := 4, slots := 1094, locals := 180 } [.ref xo, .int v] H0 F (Rq s0 c0 (some (.int w)) P)) (hPx : va_P D vcl [(xo, .inr (3, [.ref fa, .ref ma]))] H0) (hPo : va_P D vcl [(oa, aJ cJ 1 g)] H0) (hFo : ¬ F oa) (hPs : ∀ H1 H2 : Heap, P H1 → H2.size = H1.size → (∀ q : Nat, q ≠ oa → H2[q]? = H1[q]?) → P H2) : Mx l s0 y_L_clear (.codeWith y_L_clear b_L_clear 4 (some .int) [(0, 9, 12, 13), (0, 9, 15, 21)]) { frames := 9, cells := 4, slots := 1094, locals := 215 } [.ref xo, .int v, .ref oa] H0 (fun q => F q ∨ q = oa) (Rw (.int (nI k0)) (fun H1 => P H1 ∧ ∃ g1 : Nat → Int64, va_P D vcl [(oa, aJ cJ 1 g1)] H1 ∧ (k0 = 0 → g1 0 = Int32.toInt64 w))) := by
  refine Mx.ofWH (own := "FewBitsLaw") rfl rfl ?_
  rintro p e s m below meth c ⟨hx, hb, hml, hr, hown, hW, hlk⟩ het hH
  have hK := G.k hW
  have hl := lv_entry ([.ref xo, .int v, .ref oa]) (n := 4) (Nat.le_of_ble_eq_true rfl)
  rw [lg_entry_eq]
  generalize (lg_sl ([.ref xo, .int v, .ref oa]) ++ List.replicate (4 - (lg_sl ([.ref xo, .int v, .ref oa])).length) Slot.unset).toArray = ls at hl ⊢
  have hl : lv_has ls 4 [(0, .ref xo), (1, .int v), (2, .ref oa)] := hl
  refine lv_aload_n hx hb d_L_clear_0 rfl (lv_at hl 2 rfl) ?_
  refine lv_iconst (v := (nI 0)) hx hb d_L_clear_1 (by decide) ?_
  refine lv_aload_n hx hb d_L_clear_2 rfl (lv_at hl 0 rfl) ?_
  refine lv_iload_n hx hb d_L_clear_3 rfl (lv_at hl 1 rfl) ?_
  refine mx_call hC hW (iv_L_clear_4 G hx hb hown hW (va_recv hK hPx (ci := 3) (q0 := 0) rfl rfl) [.int v] [.int (nI 0), .ref oa] rfl) hml hl.1 (by rw [hb]; exact d_L_clear_4) (cd_F_clear G hW) ⟨Nat.le_of_ble_eq_true rfl, Nat.le_of_ble_eq_true rfl⟩ (Nat.le_of_ble_eq_true rfl) (Nat.le_of_ble_eq_true rfl) (Nat.le_of_ble_eq_true rfl) (fun v9 H1 L hq hz hk hL => ?_) (fun q H1 L hq hz hk hL => ?_)
  · obtain ⟨hs9, hp⟩ := hq
    have hPo1 : va_P D vcl [(oa, aJ cJ 1 g)] H1 := kept1 hPo (fun h9 => hk oa h9 hFo)
    cases c0 with
    | some E => obtain ⟨q, h9, -⟩ := hs9; cases h9
    | none =>
      have hk0 : k0 = 0 := by simpa using hck
      subst hk0
      have hs9 : Outcome.returned v9 = .returned (some (.int w)) := hs9
      cases hs9
      refine W.eq (g2 := F0 m 7 ls [.int w, .int (nI 0), .ref oa]) rfl ?_
      refine lv_i2l hx hb d_L_clear_7 rfl ?_
      refine la_st hx hb hK hPo1 d_L_clear_8 (fun H2 L2 g1 hg1 hP2 hz2 hoq hL2 => ?_)
      refine lv_goto (tgt := 18) hx hb d_L_clear_9 (by decide) ?_
      refine lv_iconst (v := (nI 0)) hx hb d_L_clear_18 (by decide) ?_
      exact mx_iret hx hb hr hlk d_L_clear_19 (Nat.le_of_ble_eq_true rfl) (Nat.le_of_ble_eq_true rfl) (fun q9 h9 => (List.mem_append.mp h9).elim (fun h8 => Or.inl (hL q9 h8)) (fun h8 => Or.inr (hL2 q9 h8))) (⟨rfl, hPs _ _ hp hz2 hoq, g1, hP2, fun _ => hg1⟩)
  · obtain ⟨hs9, hp⟩ := hq
    have hPo1 : va_P D vcl [(oa, aJ cJ 1 g)] H1 := kept1 hPo (fun h9 => hk oa h9 hFo)
    cases c0 with
    | none => exact absurd (show Outcome.threw q = .returned (some (.int w)) from hs9) (fun h => by cases h)
    | some E =>
      obtain ⟨q2, h9, ho⟩ := hs9
      cases h9
      rcases List.mem_cons.mp hck with h9 | hck
      · cases h9
      rcases List.mem_cons.mp hck with h9 | hck
      · cases h9
        refine mx_catch (own := "FewBitsLaw") (E := E_I) (nx := E_I) hW hown [] ⟨0, 9, 12, 13⟩ [⟨0, 9, 15, 21⟩] het (fun y hy => ?_) (by decide) (by decide) (G.1.at 48 rfl rfl _ hW) (G.1.tab 65 rfl rfl _ hW) ho ?_
        · exact absurd hy List.not_mem_nil
        · refine W.eq (g2 := F0 m 12 ls [.ref q]) rfl ?_
          refine lv_astore_n (lv' := [(3, .ref q), (0, .ref xo), (1, .int v), (2, .ref oa)]) hx hb d_L_clear_12 rfl hl (by decide) rfl (fun ls hl => ?_)
          refine lv_iconst (v := (nI 1)) hx hb d_L_clear_13 (by decide) ?_
          exact mx_iret hx hb hr hlk d_L_clear_14 (Nat.le_of_ble_eq_true rfl) (Nat.le_of_ble_eq_true rfl) (fun q9 h9 => Or.inl (hL q9 h9)) (⟨rfl, hp, g, hPo1, fun h => absurd h (by decide)⟩)
      rcases List.mem_cons.mp hck with h9 | hck
      · cases h9
        refine mx_catch (own := "FewBitsLaw") (E := E_S) (nx := E_S) hW hown [⟨0, 9, 12, 13⟩] ⟨0, 9, 15, 21⟩ [] het (fun y hy => ?_) (by decide) (by decide) (G.1.at 265 rfl rfl _ hW) (G.1.tab 277 rfl rfl _ hW) ho ?_
        · rcases List.mem_cons.mp hy with rfl | hy
          · exact ⟨by decide, by decide, E_I, G.1.at 48 rfl rfl _ hW, nc_SI G hW⟩
          exact absurd hy List.not_mem_nil
        · refine W.eq (g2 := F0 m 15 ls [.ref q]) rfl ?_
          refine lv_astore_n (lv' := [(3, .ref q), (0, .ref xo), (1, .int v), (2, .ref oa)]) hx hb d_L_clear_15 rfl hl (by decide) rfl (fun ls hl => ?_)
          refine lv_iconst (v := (nI 2)) hx hb d_L_clear_16 (by decide) ?_
          exact mx_iret hx hb hr hlk d_L_clear_17 (Nat.le_of_ble_eq_true rfl) (Nat.le_of_ble_eq_true rfl) (fun q9 h9 => Or.inl (hL q9 h9)) (⟨rfl, hp, g, hPo1, fun h => absurd h (by decide)⟩)
      exact absurd hck List.not_mem_nil
