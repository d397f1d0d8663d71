/-- within bounds -/
def wth (v a b : Int32) : Bool := !decide (v < a) && !decide (b < v)
theorem wth_num (v : Int32) : wth v (nI 0) (nI 3) = isNum v := by
  have h : (nI 3 < v) ↔ (nI 4 ≤ v) := by
    rw [Int32.lt_iff_toInt_lt, Int32.le_iff_toInt_le, show (nI 3).toInt = 3 by decide, show (nI 4).toInt = 4 by decide]
    omega
  unfold wth isNum
  rw [show decide (nI 3 < v) = decide (nI 4 ≤ v) from decide_eq_decide.mpr h]
  rfl
/-- which kinds may be made -/
def mbS (k a b : Int32) : Bool := if k = nI 1 then wth a (nI 3) (nI 10) && wth b (nI 1) (nI 6) else if k = nI 2 then wth a (nI 1) (nI 8) && wth b (nI 4) (nI 16) else if k = nI 3 then wth a (nI 2) (nI 8) && wth b (nI 4) (nI 20) else false
theorem mb_out {k : Int32} (h1 : ¬ k = nI 1) (h2 : ¬ k = nI 2) (h3 : ¬ k = nI 3) : k.toInt < 1 ∨ 3 < k.toInt := by
  have e1 : ¬ k.toInt = 1 := fun h => h1 (Int32.toInt_inj.mp (by rw [h]; decide))
  have e2 : ¬ k.toInt = 2 := fun h => h2 (Int32.toInt_inj.mp (by rw [h]; decide))
  have e3 : ¬ k.toInt = 3 := fun h => h3 (Int32.toInt_inj.mp (by rw [h]; decide))
  omega
/-- how a call of the class ends: a value, or an exception of a class -/
def Rs (s0 : State) (c : Option String) (v : Option Value) (o : Outcome) (H1 : Heap) : Prop := match c with
  | none => o = .returned v
  | some E => ∃ q, o = .threw q ∧ mx_Ob s0 H1 E q
def Rq (s0 : State) (c : Option String) (v : Option Value) (P : Heap → Prop) : Outcome → Heap → Prop := fun o H1 => Rs s0 c v o H1 ∧ P H1
section ROWS4
variable {p : Program} {l : Launch} {e : Env} {R : Room} {s : State} {m : MethodId} {args : Array Value} {below : List Frame} {meth : Method} {c : Code} {H : Heap} {locs : List Loc} {cells slots : Nat} {s0 : State}
theorem mx_callV {Z : State → Prop} {pc : Nat} {ls : Array Slot} {st0 rest as : List Value} {ig : Instr} {maxL nL : Nat} {y : MethodName} {cw : Cond} {rm : Room}
    (hM : Mx l s0 y cw rm as H (fun _ => False) (Rn (fun H1 => H1 = H))) (hW0 : s0.WarmedH s.vm) (hI : ∀ T, T.heap = H → Stand p l e R s m args below meth c T locs cells slots → mx_Inv p l e R s m args below meth c T locs cells slots (F0 m pc ls st0) (F0 m pc ls rest) y as)
    (hml : c.maxLocals = nL) (hsz : ls.size = nL) (hdg : decode c.code pc = .ok (ig, 3)) (hCd : mx_Cd s y cw maxL)
    (hR : rm.frames + 1 ≤ R.frames ∧ 8 + (maxL + 11) + rm.locals ≤ R.locals) (h0 : rm.cells = 0) (h1 : rm.slots = 0) (hc : cells ≤ R.cells) (hs : slots ≤ R.slots) (hw : (rest.map fun v => v.category).sum ≤ 8)
    (kk : W p l e R s m args below meth c H locs cells slots Z (F0 m (pc + 3) ls rest)) : W p l e R s m args below meth c H locs cells slots Z (F0 m pc ls st0) := by
  refine mx_call hM hW0 hI hml hsz hdg hCd hR (by rw [h0]; exact hc) (by rw [h1]; exact hs) hw (fun v H1 L hq _ _ hL => ?_) (fun q H1 L hq _ _ _ => by cases hq.1)
  obtain ⟨hv, rfl⟩ := hq
  cases hv
  rw [h0, h1]
  intro T hT X
  exact kk T hT (Stand.forget X (fun q h => (hL q h).elim))
end ROWS4

theorem va_D.app2 {D : va_G} {cl : List vw_C} {H : Heap} {ad : List Nat} {w1 w2 : va_W} (h1 : va_D (Aa ad H.size) w1) (hP : va_P D cl w1 H) (h2 : va_D (fun q => H.size ≤ q) w2) : va_D (Aa ad H.size) (w1 ++ w2) := by
  have key : ∀ (k : Nat) (q : Nat × va_E), (w1 ++ w2)[k]? = some q → (k < w1.length ∧ w1[k]? = some q) ∨ (w1.length ≤ k ∧ w2[k - w1.length]? = some q) := by
    intro k q h
    rcases Nat.lt_or_ge k w1.length with h9 | h9
    · rw [List.getElem?_append_left h9] at h; exact Or.inl ⟨h9, h⟩
    · rw [List.getElem?_append_right h9] at h; exact Or.inr ⟨h9, h⟩
  refine ⟨fun i j p q hi hj e => ?_, fun k q hk => ?_⟩
  · rcases key i p hi with ⟨a1, a2⟩ | ⟨a1, a2⟩
    · rcases key j q hj with ⟨b1, b2⟩ | ⟨b1, b2⟩
      · exact h1.1 i j p q a2 b2 e
      · have c1 := (hP i p a2).lt
        have c2 := h2.2 _ q b2
        omega
    · rcases key j q hj with ⟨b1, b2⟩ | ⟨b1, b2⟩
      · have c1 := (hP j q b2).lt
        have c2 := h2.2 _ p a2
        omega
      · have := h2.1 _ _ p q a2 b2 e
        omega
  · rcases key k q hk with ⟨a1, a2⟩ | ⟨a1, a2⟩
    · exact h1.2 k q a2
    · exact Or.inr (h2.2 _ q a2)

set_option maxHeartbeats 4000000 in
set_option maxRecDepth 100000 in
theorem c_F_isWithin {l : Launch} {s0 : State} {D : va_G} {cI cF cJ : ClassId} (G : Gx l s0 D cI cF cJ) (v a b : Int32) {H0 : Heap}  : Mx l s0 y_F_isWithin (.code y_F_isWithin b_F_isWithin 3 (some .boolean)) { frames := 0, cells := 0, slots := 0, locals := 0 } [.int v, .int a, .int b] H0 (fun _ => False) (Rd H0 (.int (bI (wth v a b)))) := by
  refine Mx.ofW (own := "FewBits") rfl rfl ?_
  rintro p e s m below meth c ⟨hx, hb, hml, hr, hown, hW, hlk⟩ hnm het hH
  have hK := G.k hW
  have hl := lv_entry ([.int v, .int a, .int b]) (n := 3) (Nat.le_of_ble_eq_true rfl)
  rw [lg_entry_eq]
  generalize (lg_sl ([.int v, .int a, .int b]) ++ List.replicate (3 - (lg_sl ([.int v, .int a, .int b])).length) Slot.unset).toArray = ls at hl ⊢
  have hl : lv_has ls 3 [(0, .int v), (1, .int a), (2, .int b)] := hl
  refine lv_iload_n hx hb d_F_isWithin_0 rfl (lv_at hl 0 rfl) ?_
  refine lv_iload_n hx hb d_F_isWithin_1 rfl (lv_at hl 1 rfl) ?_
  refine lv_icmp_lt (tgt := 14) hx hb d_F_isWithin_2 (by decide) (fun c_2 => ?_) (fun c_2 => ?_)
  · refine lv_iconst (v := (nI 0)) hx hb d_F_isWithin_14 (by decide) ?_
    exact mx_zret hx hb hr hlk d_F_isWithin_15 (Nat.le_of_ble_eq_true rfl) (Nat.le_of_ble_eq_true rfl) (fun _ h => nomatch h) (rfl) (⟨by rw [show wth v a b = false by unfold wth; rw [decide_eq_true c_2]; rfl]; rfl, rfl⟩)
  · refine lv_iload_n hx hb d_F_isWithin_5 rfl (lv_at hl 0 rfl) ?_
    refine lv_iload_n hx hb d_F_isWithin_6 rfl (lv_at hl 2 rfl) ?_
    refine lv_icmp_gt (tgt := 14) hx hb d_F_isWithin_7 (by decide) (fun c_7 => ?_) (fun c_7 => ?_)
    · refine lv_iconst (v := (nI 0)) hx hb d_F_isWithin_14 (by decide) ?_
      exact mx_zret hx hb hr hlk d_F_isWithin_15 (Nat.le_of_ble_eq_true rfl) (Nat.le_of_ble_eq_true rfl) (fun _ h => nomatch h) (rfl) (⟨by rw [show wth v a b = false by unfold wth; rw [decide_eq_true c_7]; simp]; rfl, rfl⟩)
    · refine lv_iconst (v := (nI 1)) hx hb d_F_isWithin_10 (by decide) ?_
      refine lv_goto (tgt := 15) hx hb d_F_isWithin_11 (by decide) ?_
      exact mx_zret hx hb hr hlk d_F_isWithin_15 (Nat.le_of_ble_eq_true rfl) (Nat.le_of_ble_eq_true rfl) (fun _ h => nomatch h) (rfl) (⟨by rw [show wth v a b = true by unfold wth; rw [decide_eq_false c_2, decide_eq_false c_7]; rfl]; rfl, rfl⟩)

set_option maxHeartbeats 4000000 in
set_option maxRecDepth 100000 in
theorem c_F_isNumber {l : Launch} {s0 : State} {D : va_G} {cI cF cJ : ClassId} (G : Gx l s0 D cI cF cJ) (v : Int32) {H0 : Heap}  : Mx l s0 y_F_isNumber (.code y_F_isNumber b_F_isNumber 1 (some .boolean)) { frames := 1, cells := 0, slots := 0, locals := 22 } [.int v] H0 (fun _ => False) (Rd H0 (.int (bI (isNum v)))) := by
  refine Mx.ofW (own := "FewBits") rfl rfl ?_
  rintro p e s m below meth c ⟨hx, hb, hml, hr, hown, hW, hlk⟩ hnm het hH
  have hK := G.k hW
  have hl := lv_entry ([.int v]) (n := 1) (Nat.le_of_ble_eq_true rfl)
  rw [lg_entry_eq]
  generalize (lg_sl ([.int v]) ++ List.replicate (1 - (lg_sl ([.int v])).length) Slot.unset).toArray = ls at hl ⊢
  have hl : lv_has ls 1 [(0, .int v)] := hl
  refine lv_iload_n hx hb d_F_isNumber_0 rfl (lv_at hl 0 rfl) ?_
  refine lv_iconst (v := (nI 0)) hx hb d_F_isNumber_1 (by decide) ?_
  refine lv_iconst (v := (nI 3)) hx hb d_F_isNumber_2 (by decide) ?_
  refine mx_callR (r := .int (bI (wth v (nI 0) (nI 3)))) (c_F_isWithin G v (nI 0) (nI 3)) hW (iv_F_isNumber_3 G hx hb hown hW [.int v, .int (nI 0), .int (nI 3)] [] rfl) hml hl.1 (by rw [hb]; exact d_F_isNumber_3) (cd_F_isWithin G hW) ⟨Nat.le_of_ble_eq_true rfl, Nat.le_of_ble_eq_true rfl⟩ rfl rfl (Nat.le_of_ble_eq_true rfl) (Nat.le_of_ble_eq_true rfl) (Nat.le_of_ble_eq_true rfl) ?_
  refine tp_i (y := (bI (isNum v))) (by rw [wth_num]) ?_
  exact mx_zret hx hb hr hlk d_F_isNumber_6 (Nat.le_of_ble_eq_true rfl) (Nat.le_of_ble_eq_true rfl) (fun _ h => nomatch h) (bI_nar _) (⟨rfl, rfl⟩)

set_option maxHeartbeats 4000000 in
set_option maxRecDepth 100000 in
theorem c_F_mayBe_1 {l : Launch} {s0 : State} {D : va_G} {cI cF cJ : ClassId} (G : Gx l s0 D cI cF cJ) (a b : Int32) {H0 : Heap}  : Mx l s0 y_F_mayBe (.code y_F_mayBe b_F_mayBe 3 (some .boolean)) { frames := 1, cells := 0, slots := 0, locals := 30 } [.int (nI 1), .int a, .int b] H0 (fun _ => False) (Rd H0 (.int (bI (wth a (nI 3) (nI 10) && wth b (nI 1) (nI 6))))) := by
  refine Mx.ofW (own := "FewBits") rfl rfl ?_
  rintro p e s m below meth c ⟨hx, hb, hml, hr, hown, hW, hlk⟩ hnm het hH
  have hK := G.k hW
  have hl := lv_entry ([.int (nI 1), .int a, .int b]) (n := 3) (Nat.le_of_ble_eq_true rfl)
  rw [lg_entry_eq]
  generalize (lg_sl ([.int (nI 1), .int a, .int b]) ++ List.replicate (3 - (lg_sl ([.int (nI 1), .int a, .int b])).length) Slot.unset).toArray = ls at hl ⊢
  have hl : lv_has ls 3 [(0, .int (nI 1)), (1, .int a), (2, .int b)] := hl
  refine lv_iload_n hx hb d_F_mayBe_0 rfl (lv_at hl 0 rfl) ?_
  refine lv_tableIn (tgt := 28) hx hb d_F_mayBe_1 (by decide) (by decide) rfl (by decide) ?_
  refine lv_iload_n hx hb d_F_mayBe_28 rfl (lv_at hl 1 rfl) ?_
  refine lv_iconst (v := (nI 3)) hx hb d_F_mayBe_29 (by decide) ?_
  refine lv_bipush (v := (nI 10)) hx hb d_F_mayBe_30 (by decide) ?_
  refine mx_callR (r := .int (bI (wth a (nI 3) (nI 10)))) (c_F_isWithin G a (nI 3) (nI 10)) hW (iv_F_mayBe_32 G hx hb hown hW [.int a, .int (nI 3), .int (nI 10)] [] rfl) hml hl.1 (by rw [hb]; exact d_F_mayBe_32) (cd_F_isWithin G hW) ⟨Nat.le_of_ble_eq_true rfl, Nat.le_of_ble_eq_true rfl⟩ rfl rfl (Nat.le_of_ble_eq_true rfl) (Nat.le_of_ble_eq_true rfl) (Nat.le_of_ble_eq_true rfl) ?_
  refine lv_if_eq (tgt := 52) hx hb d_F_mayBe_35 (by decide) (fun c_35 => ?_) (fun c_35 => ?_)
  · refine lv_iconst (v := (nI 0)) hx hb d_F_mayBe_52 (by decide) ?_
    exact mx_zret hx hb hr hlk d_F_mayBe_53 (Nat.le_of_ble_eq_true rfl) (Nat.le_of_ble_eq_true rfl) (fun _ h => nomatch h) (rfl) (⟨by rw [bI_f c_35]; rfl, rfl⟩)
  · refine lv_iload_n hx hb d_F_mayBe_38 rfl (lv_at hl 2 rfl) ?_
    refine lv_iconst (v := (nI 1)) hx hb d_F_mayBe_39 (by decide) ?_
    refine lv_bipush (v := (nI 6)) hx hb d_F_mayBe_40 (by decide) ?_
    refine mx_callR (r := .int (bI (wth b (nI 1) (nI 6)))) (c_F_isWithin G b (nI 1) (nI 6)) hW (iv_F_mayBe_42 G hx hb hown hW [.int b, .int (nI 1), .int (nI 6)] [] rfl) hml hl.1 (by rw [hb]; exact d_F_mayBe_42) (cd_F_isWithin G hW) ⟨Nat.le_of_ble_eq_true rfl, Nat.le_of_ble_eq_true rfl⟩ rfl rfl (Nat.le_of_ble_eq_true rfl) (Nat.le_of_ble_eq_true rfl) (Nat.le_of_ble_eq_true rfl) ?_
    refine lv_if_eq (tgt := 52) hx hb d_F_mayBe_45 (by decide) (fun c_45 => ?_) (fun c_45 => ?_)
    · refine lv_iconst (v := (nI 0)) hx hb d_F_mayBe_52 (by decide) ?_
      exact mx_zret hx hb hr hlk d_F_mayBe_53 (Nat.le_of_ble_eq_true rfl) (Nat.le_of_ble_eq_true rfl) (fun _ h => nomatch h) (rfl) (⟨by rw [bI_f c_45]; simp [bI], rfl⟩)
    · refine lv_iconst (v := (nI 1)) hx hb d_F_mayBe_48 (by decide) ?_
      refine lv_goto (tgt := 53) hx hb d_F_mayBe_49 (by decide) ?_
      exact mx_zret hx hb hr hlk d_F_mayBe_53 (Nat.le_of_ble_eq_true rfl) (Nat.le_of_ble_eq_true rfl) (fun _ h => nomatch h) (rfl) (⟨by rw [bI_t c_35, bI_t c_45]; rfl, rfl⟩)

set_option maxHeartbeats 4000000 in
set_option maxRecDepth 100000 in
theorem c_F_mayBe_2 {l : Launch} {s0 : State} {D : va_G} {cI cF cJ : ClassId} (G : Gx l s0 D cI cF cJ) (a b : Int32) {H0 : Heap}  : Mx l s0 y_F_mayBe (.code y_F_mayBe b_F_mayBe 3 (some .boolean)) { frames := 1, cells := 0, slots := 0, locals := 30 } [.int (nI 2), .int a, .int b] H0 (fun _ => False) (Rd H0 (.int (bI (wth a (nI 1) (nI 8) && wth b (nI 4) (nI 16))))) := by
  refine Mx.ofW (own := "FewBits") rfl rfl ?_
  rintro p e s m below meth c ⟨hx, hb, hml, hr, hown, hW, hlk⟩ hnm het hH
  have hK := G.k hW
  have hl := lv_entry ([.int (nI 2), .int a, .int b]) (n := 3) (Nat.le_of_ble_eq_true rfl)
  rw [lg_entry_eq]
  generalize (lg_sl ([.int (nI 2), .int a, .int b]) ++ List.replicate (3 - (lg_sl ([.int (nI 2), .int a, .int b])).length) Slot.unset).toArray = ls at hl ⊢
  have hl : lv_has ls 3 [(0, .int (nI 2)), (1, .int a), (2, .int b)] := hl
  refine lv_iload_n hx hb d_F_mayBe_0 rfl (lv_at hl 0 rfl) ?_
  refine lv_tableIn (tgt := 54) hx hb d_F_mayBe_1 (by decide) (by decide) rfl (by decide) ?_
  refine lv_iload_n hx hb d_F_mayBe_54 rfl (lv_at hl 1 rfl) ?_
  refine lv_iconst (v := (nI 1)) hx hb d_F_mayBe_55 (by decide) ?_
  refine lv_bipush (v := (nI 8)) hx hb d_F_mayBe_56 (by decide) ?_
  refine mx_callR (r := .int (bI (wth a (nI 1) (nI 8)))) (c_F_isWithin G a (nI 1) (nI 8)) hW (iv_F_mayBe_58 G hx hb hown hW [.int a, .int (nI 1), .int (nI 8)] [] rfl) hml hl.1 (by rw [hb]; exact d_F_mayBe_58) (cd_F_isWithin G hW) ⟨Nat.le_of_ble_eq_true rfl, Nat.le_of_ble_eq_true rfl⟩ rfl rfl (Nat.le_of_ble_eq_true rfl) (Nat.le_of_ble_eq_true rfl) (Nat.le_of_ble_eq_true rfl) ?_
  refine lv_if_eq (tgt := 78) hx hb d_F_mayBe_61 (by decide) (fun c_61 => ?_) (fun c_61 => ?_)
  · refine lv_iconst (v := (nI 0)) hx hb d_F_mayBe_78 (by decide) ?_
    exact mx_zret hx hb hr hlk d_F_mayBe_79 (Nat.le_of_ble_eq_true rfl) (Nat.le_of_ble_eq_true rfl) (fun _ h => nomatch h) (rfl) (⟨by rw [bI_f c_61]; rfl, rfl⟩)
  · refine lv_iload_n hx hb d_F_mayBe_64 rfl (lv_at hl 2 rfl) ?_
    refine lv_iconst (v := (nI 4)) hx hb d_F_mayBe_65 (by decide) ?_
    refine lv_bipush (v := (nI 16)) hx hb d_F_mayBe_66 (by decide) ?_
    refine mx_callR (r := .int (bI (wth b (nI 4) (nI 16)))) (c_F_isWithin G b (nI 4) (nI 16)) hW (iv_F_mayBe_68 G hx hb hown hW [.int b, .int (nI 4), .int (nI 16)] [] rfl) hml hl.1 (by rw [hb]; exact d_F_mayBe_68) (cd_F_isWithin G hW) ⟨Nat.le_of_ble_eq_true rfl, Nat.le_of_ble_eq_true rfl⟩ rfl rfl (Nat.le_of_ble_eq_true rfl) (Nat.le_of_ble_eq_true rfl) (Nat.le_of_ble_eq_true rfl) ?_
    refine lv_if_eq (tgt := 78) hx hb d_F_mayBe_71 (by decide) (fun c_71 => ?_) (fun c_71 => ?_)
    · refine lv_iconst (v := (nI 0)) hx hb d_F_mayBe_78 (by decide) ?_
      exact mx_zret hx hb hr hlk d_F_mayBe_79 (Nat.le_of_ble_eq_true rfl) (Nat.le_of_ble_eq_true rfl) (fun _ h => nomatch h) (rfl) (⟨by rw [bI_f c_71]; simp [bI], rfl⟩)
    · refine lv_iconst (v := (nI 1)) hx hb d_F_mayBe_74 (by decide) ?_
      refine lv_goto (tgt := 79) hx hb d_F_mayBe_75 (by decide) ?_
      exact mx_zret hx hb hr hlk d_F_mayBe_79 (Nat.le_of_ble_eq_true rfl) (Nat.le_of_ble_eq_true rfl) (fun _ h => nomatch h) (rfl) (⟨by rw [bI_t c_61, bI_t c_71]; rfl, rfl⟩)

set_option maxHeartbeats 4000000 in
set_option maxRecDepth 100000 in
theorem c_F_mayBe_3 {l : Launch} {s0 : State} {D : va_G} {cI cF cJ : ClassId} (G : Gx l s0 D cI cF cJ) (a b : Int32) {H0 : Heap}  : Mx l s0 y_F_mayBe (.code y_F_mayBe b_F_mayBe 3 (some .boolean)) { frames := 1, cells := 0, slots := 0, locals := 30 } [.int (nI 3), .int a, .int b] H0 (fun _ => False) (Rd H0 (.int (bI (wth a (nI 2) (nI 8) && wth b (nI 4) (nI 20))))) := by
  refine Mx.ofW (own := "FewBits") rfl rfl ?_
  rintro p e s m below meth c ⟨hx, hb, hml, hr, hown, hW, hlk⟩ hnm het hH
  have hK := G.k hW
  have hl := lv_entry ([.int (nI 3), .int a, .int b]) (n := 3) (Nat.le_of_ble_eq_true rfl)
  rw [lg_entry_eq]
  generalize (lg_sl ([.int (nI 3), .int a, .int b]) ++ List.replicate (3 - (lg_sl ([.int (nI 3), .int a, .int b])).length) Slot.unset).toArray = ls at hl ⊢
  have hl : lv_has ls 3 [(0, .int (nI 3)), (1, .int a), (2, .int b)] := hl
  refine lv_iload_n hx hb d_F_mayBe_0 rfl (lv_at hl 0 rfl) ?_
  refine lv_tableIn (tgt := 80) hx hb d_F_mayBe_1 (by decide) (by decide) rfl (by decide) ?_
  refine lv_iload_n hx hb d_F_mayBe_80 rfl (lv_at hl 1 rfl) ?_
  refine lv_iconst (v := (nI 2)) hx hb d_F_mayBe_81 (by decide) ?_
  refine lv_bipush (v := (nI 8)) hx hb d_F_mayBe_82 (by decide) ?_
  refine mx_callR (r := .int (bI (wth a (nI 2) (nI 8)))) (c_F_isWithin G a (nI 2) (nI 8)) hW (iv_F_mayBe_84 G hx hb hown hW [.int a, .int (nI 2), .int (nI 8)] [] rfl) hml hl.1 (by rw [hb]; exact d_F_mayBe_84) (cd_F_isWithin G hW) ⟨Nat.le_of_ble_eq_true rfl, Nat.le_of_ble_eq_true rfl⟩ rfl rfl (Nat.le_of_ble_eq_true rfl) (Nat.le_of_ble_eq_true rfl) (Nat.le_of_ble_eq_true rfl) ?_
  refine lv_if_eq (tgt := 104) hx hb d_F_mayBe_87 (by decide) (fun c_87 => ?_) (fun c_87 => ?_)
  · refine lv_iconst (v := (nI 0)) hx hb d_F_mayBe_104 (by decide) ?_
    exact mx_zret hx hb hr hlk d_F_mayBe_105 (Nat.le_of_ble_eq_true rfl) (Nat.le_of_ble_eq_true rfl) (fun _ h => nomatch h) (rfl) (⟨by rw [bI_f c_87]; rfl, rfl⟩)
  · refine lv_iload_n hx hb d_F_mayBe_90 rfl (lv_at hl 2 rfl) ?_
    refine lv_iconst (v := (nI 4)) hx hb d_F_mayBe_91 (by decide) ?_
    refine lv_bipush (v := (nI 20)) hx hb d_F_mayBe_92 (by decide) ?_
    refine mx_callR (r := .int (bI (wth b (nI 4) (nI 20)))) (c_F_isWithin G b (nI 4) (nI 20)) hW (iv_F_mayBe_94 G hx hb hown hW [.int b, .int (nI 4), .int (nI 20)] [] rfl) hml hl.1 (by rw [hb]; exact d_F_mayBe_94) (cd_F_isWithin G hW) ⟨Nat.le_of_ble_eq_true rfl, Nat.le_of_ble_eq_true rfl⟩ rfl rfl (Nat.le_of_ble_eq_true rfl) (Nat.le_of_ble_eq_true rfl) (Nat.le_of_ble_eq_true rfl) ?_
    refine lv_if_eq (tgt := 104) hx hb d_F_mayBe_97 (by decide) (fun c_97 => ?_) (fun c_97 => ?_)
    · refine lv_iconst (v := (nI 0)) hx hb d_F_mayBe_104 (by decide) ?_
      exact mx_zret hx hb hr hlk d_F_mayBe_105 (Nat.le_of_ble_eq_true rfl) (Nat.le_of_ble_eq_true rfl) (fun _ h => nomatch h) (rfl) (⟨by rw [bI_f c_97]; simp [bI], rfl⟩)
    · refine lv_iconst (v := (nI 1)) hx hb d_F_mayBe_100 (by decide) ?_
      refine lv_goto (tgt := 105) hx hb d_F_mayBe_101 (by decide) ?_
      exact mx_zret hx hb hr hlk d_F_mayBe_105 (Nat.le_of_ble_eq_true rfl) (Nat.le_of_ble_eq_true rfl) (fun _ h => nomatch h) (rfl) (⟨by rw [bI_t c_87, bI_t c_97]; rfl, rfl⟩)

set_option maxHeartbeats 4000000 in
set_option maxRecDepth 100000 in
theorem c_F_mayBe_n {l : Launch} {s0 : State} {D : va_G} {cI cF cJ : ClassId} (G : Gx l s0 D cI cF cJ) (k9 a b : Int32) {H0 : Heap} (h1 : ¬ k9 = nI 1) (h2 : ¬ k9 = nI 2) (h3 : ¬ k9 = nI 3) : Mx l s0 y_F_mayBe (.code y_F_mayBe b_F_mayBe 3 (some .boolean)) { frames := 1, cells := 0, slots := 0, locals := 30 } [.int k9, .int a, .int b] H0 (fun _ => False) (Rd H0 (.int (bI false))) := by
  refine Mx.ofW (own := "FewBits") rfl rfl ?_
  rintro p e s m below meth c ⟨hx, hb, hml, hr, hown, hW, hlk⟩ hnm het hH
  have hK := G.k hW
  have hl := lv_entry ([.int k9, .int a, .int b]) (n := 3) (Nat.le_of_ble_eq_true rfl)
  rw [lg_entry_eq]
  generalize (lg_sl ([.int k9, .int a, .int b]) ++ List.replicate (3 - (lg_sl ([.int k9, .int a, .int b])).length) Slot.unset).toArray = ls at hl ⊢
  have hl : lv_has ls 3 [(0, .int k9), (1, .int a), (2, .int b)] := hl
  refine lv_iload_n hx hb d_F_mayBe_0 rfl (lv_at hl 0 rfl) ?_
  refine lv_tableOut (tgt := 106) hx hb d_F_mayBe_1 (mb_out h1 h2 h3) (by decide) ?_
  refine lv_iconst (v := (nI 0)) hx hb d_F_mayBe_106 (by decide) ?_
  exact mx_zret hx hb hr hlk d_F_mayBe_107 (Nat.le_of_ble_eq_true rfl) (Nat.le_of_ble_eq_true rfl) (fun _ h => nomatch h) (rfl) (⟨rfl, rfl⟩)

theorem c_F_mayBe {l : Launch} {s0 : State} {D : va_G} {cI cF cJ : ClassId} (G : Gx l s0 D cI cF cJ) (k9 a b : Int32) {H0 : Heap} : Mx l s0 y_F_mayBe (.code y_F_mayBe b_F_mayBe 3 (some .boolean)) { frames := 1, cells := 0, slots := 0, locals := 30 } [.int k9, .int a, .int b] H0 (fun _ => False) (Rd H0 (.int (bI (mbS k9 a b)))) := by
  unfold mbS
  by_cases h1 : k9 = nI 1
  · subst h1; rw [if_pos rfl]; exact c_F_mayBe_1 G a b
  · rw [if_neg h1]
    by_cases h2 : k9 = nI 2
    · subst h2; rw [if_pos rfl]; exact c_F_mayBe_2 G a b
    · rw [if_neg h2]
      by_cases h3 : k9 = nI 3
      · subst h3; rw [if_pos rfl]; exact c_F_mayBe_3 G a b
      · rw [if_neg h3]; exact c_F_mayBe_n G k9 a b h1 h2 h3

set_option maxHeartbeats 4000000 in
set_option maxRecDepth 100000 in
theorem c_F_requireNumber_ok {l : Launch} {s0 : State} {D : va_G} {cI cF cJ : ClassId} (G : Gx l s0 D cI cF cJ) (v : Int32) {H0 : Heap} (hv : isNum v = true) : Mx l s0 y_F_requireNumber (.code y_F_requireNumber b_F_requireNumber 1 none) { frames := 2, cells := 0, slots := 0, locals := 42 } [.int v] H0 (fun _ => False) (Rn (fun H1 => H1 = H0)) := by
  refine Mx.ofW (own := "FewBits") rfl rfl ?_
  rintro p e s m below meth c ⟨hx, hb, hml, hr, hown, hW, hlk⟩ hnm het hH
  have hK := G.k hW
  have hl := lv_entry ([.int v]) (n := 1) (Nat.le_of_ble_eq_true rfl)
  rw [lg_entry_eq]
  generalize (lg_sl ([.int v]) ++ List.replicate (1 - (lg_sl ([.int v])).length) Slot.unset).toArray = ls at hl ⊢
  have hl : lv_has ls 1 [(0, .int v)] := hl
  refine lv_iload_n hx hb d_F_requireNumber_0 rfl (lv_at hl 0 rfl) ?_
  refine mx_callR (r := .int (bI (isNum v))) (c_F_isNumber G v) hW (iv_F_requireNumber_1 G hx hb hown hW [.int v] [] rfl) hml hl.1 (by rw [hb]; exact d_F_requireNumber_1) (cd_F_isNumber G hW) ⟨Nat.le_of_ble_eq_true rfl, Nat.le_of_ble_eq_true rfl⟩ rfl rfl (Nat.le_of_ble_eq_true rfl) (Nat.le_of_ble_eq_true rfl) (Nat.le_of_ble_eq_true rfl) ?_
  refine lv_if_ne (tgt := 17) hx hb d_F_requireNumber_4 (by decide) (fun c_4 => ?_) (fun c_4 => absurd c_4 (by rw [hv]; decide))
  exact mx_vret hx hb hr hlk d_F_requireNumber_17 (Nat.le_of_ble_eq_true rfl) (Nat.le_of_ble_eq_true rfl) (fun _ h => nomatch h) (⟨rfl, rfl⟩)

set_option maxHeartbeats 4000000 in
set_option maxRecDepth 100000 in
theorem c_F_requireNumber_no {l : Launch} {s0 : State} {D : va_G} {cI cF cJ : ClassId} (G : Gx l s0 D cI cF cJ) (v : Int32) {H0 : Heap} (hv : isNum v = false) (hon : onS s0 H0) : Mx l s0 y_F_requireNumber (.code y_F_requireNumber b_F_requireNumber 1 none) { frames := 6, cells := 1, slots := 6, locals := 82 } [.int v] H0 (fun _ => False) (Thr s0 E_I (fun _ => True)) := by
  refine Mx.ofW (own := "FewBits") rfl rfl ?_
  rintro p e s m below meth c ⟨hx, hb, hml, hr, hown, hW, hlk⟩ hnm het hH
  have hK := G.k hW
  have hl := lv_entry ([.int v]) (n := 1) (Nat.le_of_ble_eq_true rfl)
  rw [lg_entry_eq]
  generalize (lg_sl ([.int v]) ++ List.replicate (1 - (lg_sl ([.int v])).length) Slot.unset).toArray = ls at hl ⊢
  have hl : lv_has ls 1 [(0, .int v)] := hl
  refine lv_iload_n hx hb d_F_requireNumber_0 rfl (lv_at hl 0 rfl) ?_
  refine mx_callR (r := .int (bI (isNum v))) (c_F_isNumber G v) hW (iv_F_requireNumber_1 G hx hb hown hW [.int v] [] rfl) hml hl.1 (by rw [hb]; exact d_F_requireNumber_1) (cd_F_isNumber G hW) ⟨Nat.le_of_ble_eq_true rfl, Nat.le_of_ble_eq_true rfl⟩ rfl rfl (Nat.le_of_ble_eq_true rfl) (Nat.le_of_ble_eq_true rfl) (Nat.le_of_ble_eq_true rfl) ?_
  refine lv_if_ne (tgt := 17) hx hb d_F_requireNumber_4 (by decide) (fun c_4 => absurd (by rw [hv]; rfl) c_4) (fun c_4 => ?_)
  exact mx_throw (rest := []) G hx hb hW hown (th_I G) (str_at G 106 rfl hW) hon (hl.1.trans hml.symm) het hlk d_F_requireNumber_7 d_F_requireNumber_10 d_F_requireNumber_11 d_F_requireNumber_13 d_F_requireNumber_16 (Nat.le_of_ble_eq_true rfl) (Nat.le_of_ble_eq_true rfl) (Nat.le_of_ble_eq_true rfl) (Nat.le_of_ble_eq_true rfl) (Nat.le_of_ble_eq_true rfl) (Nat.le_of_ble_eq_true rfl) (fun _ h => nomatch h) (fun H1 q hz hk ho => ⟨q, rfl, ho, trivial⟩)

set_option maxHeartbeats 4000000 in
set_option maxRecDepth 100000 in
theorem c_F_requireItems_ok {l : Launch} {s0 : State} {D : va_G} {cI cF cJ : ClassId} (G : Gx l s0 D cI cF cJ) (v : Int32) {H0 : Heap} (hv : wth v (nI 0) (nI 400) = true) : Mx l s0 y_F_requireItems (.code y_F_requireItems b_F_requireItems 1 none) { frames := 1, cells := 0, slots := 0, locals := 22 } [.int v] H0 (fun _ => False) (Rn (fun H1 => H1 = H0)) := by
  refine Mx.ofW (own := "FewBits") rfl rfl ?_
  rintro p e s m below meth c ⟨hx, hb, hml, hr, hown, hW, hlk⟩ hnm het hH
  have hK := G.k hW
  have hl := lv_entry ([.int v]) (n := 1) (Nat.le_of_ble_eq_true rfl)
  rw [lg_entry_eq]
  generalize (lg_sl ([.int v]) ++ List.replicate (1 - (lg_sl ([.int v])).length) Slot.unset).toArray = ls at hl ⊢
  have hl : lv_has ls 1 [(0, .int v)] := hl
  refine lv_iload_n hx hb d_F_requireItems_0 rfl (lv_at hl 0 rfl) ?_
  refine lv_iconst (v := (nI 0)) hx hb d_F_requireItems_1 (by decide) ?_
  refine lv_sipush (v := (nI 400)) hx hb d_F_requireItems_2 (by decide) ?_
  refine mx_callR (r := .int (bI (wth v (nI 0) (nI 400)))) (c_F_isWithin G v (nI 0) (nI 400)) hW (iv_F_requireItems_5 G hx hb hown hW [.int v, .int (nI 0), .int (nI 400)] [] rfl) hml hl.1 (by rw [hb]; exact d_F_requireItems_5) (cd_F_isWithin G hW) ⟨Nat.le_of_ble_eq_true rfl, Nat.le_of_ble_eq_true rfl⟩ rfl rfl (Nat.le_of_ble_eq_true rfl) (Nat.le_of_ble_eq_true rfl) (Nat.le_of_ble_eq_true rfl) ?_
  refine lv_if_ne (tgt := 21) hx hb d_F_requireItems_8 (by decide) (fun c_8 => ?_) (fun c_8 => absurd c_8 (by rw [hv]; decide))
  exact mx_vret hx hb hr hlk d_F_requireItems_21 (Nat.le_of_ble_eq_true rfl) (Nat.le_of_ble_eq_true rfl) (fun _ h => nomatch h) (⟨rfl, rfl⟩)

set_option maxHeartbeats 4000000 in
set_option maxRecDepth 100000 in
theorem c_F_requireItems_no {l : Launch} {s0 : State} {D : va_G} {cI cF cJ : ClassId} (G : Gx l s0 D cI cF cJ) (v : Int32) {H0 : Heap} (hv : wth v (nI 0) (nI 400) = false) (hon : onS s0 H0) : Mx l s0 y_F_requireItems (.code y_F_requireItems b_F_requireItems 1 none) { frames := 6, cells := 1, slots := 6, locals := 82 } [.int v] H0 (fun _ => False) (Thr s0 E_A (fun _ => True)) := by
  refine Mx.ofW (own := "FewBits") rfl rfl ?_
  rintro p e s m below meth c ⟨hx, hb, hml, hr, hown, hW, hlk⟩ hnm het hH
  have hK := G.k hW
  have hl := lv_entry ([.int v]) (n := 1) (Nat.le_of_ble_eq_true rfl)
  rw [lg_entry_eq]
  generalize (lg_sl ([.int v]) ++ List.replicate (1 - (lg_sl ([.int v])).length) Slot.unset).toArray = ls at hl ⊢
  have hl : lv_has ls 1 [(0, .int v)] := hl
  refine lv_iload_n hx hb d_F_requireItems_0 rfl (lv_at hl 0 rfl) ?_
  refine lv_iconst (v := (nI 0)) hx hb d_F_requireItems_1 (by decide) ?_
  refine lv_sipush (v := (nI 400)) hx hb d_F_requireItems_2 (by decide) ?_
  refine mx_callR (r := .int (bI (wth v (nI 0) (nI 400)))) (c_F_isWithin G v (nI 0) (nI 400)) hW (iv_F_requireItems_5 G hx hb hown hW [.int v, .int (nI 0), .int (nI 400)] [] rfl) hml hl.1 (by rw [hb]; exact d_F_requireItems_5) (cd_F_isWithin G hW) ⟨Nat.le_of_ble_eq_true rfl, Nat.le_of_ble_eq_true rfl⟩ rfl rfl (Nat.le_of_ble_eq_true rfl) (Nat.le_of_ble_eq_true rfl) (Nat.le_of_ble_eq_true rfl) ?_
  refine lv_if_ne (tgt := 21) hx hb d_F_requireItems_8 (by decide) (fun c_8 => absurd (by rw [hv]; rfl) c_8) (fun c_8 => ?_)
  exact mx_throw (rest := []) G hx hb hW hown (th_A G) (str_at G 414 rfl hW) hon (hl.1.trans hml.symm) het hlk d_F_requireItems_11 d_F_requireItems_14 d_F_requireItems_15 d_F_requireItems_17 d_F_requireItems_20 (Nat.le_of_ble_eq_true rfl) (Nat.le_of_ble_eq_true rfl) (Nat.le_of_ble_eq_true rfl) (Nat.le_of_ble_eq_true rfl) (Nat.le_of_ble_eq_true rfl) (Nat.le_of_ble_eq_true rfl) (fun _ h => nomatch h) (fun H1 q hz hk ho => ⟨q, rfl, ho, trivial⟩)

set_option maxHeartbeats 4000000 in
set_option maxRecDepth 100000 in
theorem c_F_filterAt {l : Launch} {s0 : State} {D : va_G} {cI cF cJ : ClassId} (G : Gx l s0 D cI cF cJ) (xo fa ma : Nat) (fi mk : Nat → Option Nat) (j h : Nat) {H0 : Heap} (hP : va_P D vcl [(xo, .inr (3, [.ref fa, .ref ma])), (fa, aQ cF 4 fi), (ma, aQ cF 12 mk)] H0) (hj : j < 4) (hfi : fi j = some h) : Mx l s0 y_F_filterAt (.code y_F_filterAt b_F_filterAt 3 (some (.object "FewBits$Filter"))) { frames := 3, cells := 0, slots := 0, locals := 62 } [.ref xo, .int (nI j)] H0 (fun _ => False) (Rd H0 (.ref h)) := by
  refine Mx.ofW (own := "FewBits") rfl rfl ?_
  rintro p e s m below meth c ⟨hx, hb, hml, hr, hown, hW, hlk⟩ hnm het hH
  have hK := G.k hW
  have hl := lv_entry ([.ref xo, .int (nI j)]) (n := 3) (Nat.le_of_ble_eq_true rfl)
  rw [lg_entry_eq]
  generalize (lg_sl ([.ref xo, .int (nI j)]) ++ List.replicate (3 - (lg_sl ([.ref xo, .int (nI j)])).length) Slot.unset).toArray = ls at hl ⊢
  have hl : lv_has ls 3 [(0, .ref xo), (1, .int (nI j))] := hl
  refine lv_iload_n hx hb d_F_filterAt_0 rfl (lv_at hl 1 rfl) ?_
  refine mx_callV (c_F_requireNumber_ok G (nI j) (isNum_nI hj)) hW (iv_F_filterAt_1 G hx hb hown hW [.int (nI j)] [] rfl) hml hl.1 (by rw [hb]; exact d_F_filterAt_1) (cd_F_requireNumber G hW) ⟨Nat.le_of_ble_eq_true rfl, Nat.le_of_ble_eq_true rfl⟩ rfl rfl (Nat.le_of_ble_eq_true rfl) (Nat.le_of_ble_eq_true rfl) (Nat.le_of_ble_eq_true rfl) ?_
  refine lv_aload_n hx hb d_F_filterAt_4 rfl (lv_at hl 0 rfl) ?_
  refine va_get (D := D) (ci := 3) (v := .ref fa) (C := R_F) (T := T_F) (N := 2) hx hb (us_F G hW) (fun _ h => h) hown hK hP 0 rfl rfl 0 (by decide) (fl_F_11 G hW) (fun _ h9 => h9) rfl d_F_filterAt_5 ?_
  refine lv_iload_n hx hb d_F_filterAt_8 rfl (lv_at hl 1 rfl) ?_
  refine qa_ld hx hb hK hP 1 (j := j) rfl (hj) (by decide) d_F_filterAt_9 ?_
  refine tp_v (y := .ref h) (by rw [hfi]; rfl) ?_
  refine lv_astore_n (lv' := [(2, .ref h), (0, .ref xo), (1, .int (nI j))]) hx hb d_F_filterAt_10 rfl hl (by decide) rfl (fun ls hl => ?_)
  refine lv_aload_n hx hb d_F_filterAt_11 rfl (lv_at hl 0 rfl) ?_
  refine lv_ifnonnull (tgt := 25) hx hb d_F_filterAt_12 (by decide) ?_
  refine lv_aload_n hx hb d_F_filterAt_25 rfl (lv_at hl 0 rfl) ?_
  exact mx_aret hx hb hr (Or.inl ⟨_, rfl⟩) hlk d_F_filterAt_26 (Nat.le_of_ble_eq_true rfl) (Nat.le_of_ble_eq_true rfl) (fun _ h => nomatch h) (Or.inr ⟨_, rfl⟩) (⟨rfl, rfl⟩)

set_option maxHeartbeats 4000000 in
set_option maxRecDepth 100000 in
theorem c_F_filterAt_none {l : Launch} {s0 : State} {D : va_G} {cI cF cJ : ClassId} (G : Gx l s0 D cI cF cJ) (xo fa ma : Nat) (fi mk : Nat → Option Nat) (j : Nat) {H0 : Heap} (hP : va_P D vcl [(xo, .inr (3, [.ref fa, .ref ma])), (fa, aQ cF 4 fi), (ma, aQ cF 12 mk)] H0) (hj : j < 4) (hfi : fi j = none) (hon : onS s0 H0) : Mx l s0 y_F_filterAt (.code y_F_filterAt b_F_filterAt 3 (some (.object "FewBits$Filter"))) { frames := 6, cells := 1, slots := 6, locals := 82 } [.ref xo, .int (nI j)] H0 (fun _ => False) (Thr s0 E_S (fun _ => True)) := by
  refine Mx.ofW (own := "FewBits") rfl rfl ?_
  rintro p e s m below meth c ⟨hx, hb, hml, hr, hown, hW, hlk⟩ hnm het hH
  have hK := G.k hW
  have hl := lv_entry ([.ref xo, .int (nI j)]) (n := 3) (Nat.le_of_ble_eq_true rfl)
  rw [lg_entry_eq]
  generalize (lg_sl ([.ref xo, .int (nI j)]) ++ List.replicate (3 - (lg_sl ([.ref xo, .int (nI j)])).length) Slot.unset).toArray = ls at hl ⊢
  have hl : lv_has ls 3 [(0, .ref xo), (1, .int (nI j))] := hl
  refine lv_iload_n hx hb d_F_filterAt_0 rfl (lv_at hl 1 rfl) ?_
  refine mx_callV (c_F_requireNumber_ok G (nI j) (isNum_nI hj)) hW (iv_F_filterAt_1 G hx hb hown hW [.int (nI j)] [] rfl) hml hl.1 (by rw [hb]; exact d_F_filterAt_1) (cd_F_requireNumber G hW) ⟨Nat.le_of_ble_eq_true rfl, Nat.le_of_ble_eq_true rfl⟩ rfl rfl (Nat.le_of_ble_eq_true rfl) (Nat.le_of_ble_eq_true rfl) (Nat.le_of_ble_eq_true rfl) ?_
  refine lv_aload_n hx hb d_F_filterAt_4 rfl (lv_at hl 0 rfl) ?_
  refine va_get (D := D) (ci := 3) (v := .ref fa) (C := R_F) (T := T_F) (N := 2) hx hb (us_F G hW) (fun _ h => h) hown hK hP 0 rfl rfl 0 (by decide) (fl_F_11 G hW) (fun _ h9 => h9) rfl d_F_filterAt_5 ?_
  refine lv_iload_n hx hb d_F_filterAt_8 rfl (lv_at hl 1 rfl) ?_
  refine qa_ld hx hb hK hP 1 (j := j) rfl (hj) (by decide) d_F_filterAt_9 ?_
  refine tp_v (y := .null) (by rw [hfi]; rfl) ?_
  refine lv_astore_nN (lv' := [(2, .null), (0, .ref xo), (1, .int (nI j))]) hx hb d_F_filterAt_10 rfl hl (by decide) rfl (fun ls hl => ?_)
  refine lv_aload_nN hx hb d_F_filterAt_11 rfl (lv_at hl 0 rfl) ?_
  refine lv_ifnonnullN hx hb d_F_filterAt_12 ?_
  exact mx_throw (rest := []) G hx hb hW hown (th_S G) (str_at G 284 rfl hW) hon (hl.1.trans hml.symm) het hlk d_F_filterAt_15 d_F_filterAt_18 d_F_filterAt_19 d_F_filterAt_21 d_F_filterAt_24 (Nat.le_of_ble_eq_true rfl) (Nat.le_of_ble_eq_true rfl) (Nat.le_of_ble_eq_true rfl) (Nat.le_of_ble_eq_true rfl) (Nat.le_of_ble_eq_true rfl) (Nat.le_of_ble_eq_true rfl) (fun _ h => nomatch h) (fun H1 q hz hk ho => ⟨q, rfl, ho, trivial⟩)

set_option maxHeartbeats 4000000 in
set_option maxRecDepth 100000 in
theorem c_F_filterAt_no {l : Launch} {s0 : State} {D : va_G} {cI cF cJ : ClassId} (G : Gx l s0 D cI cF cJ) (xo : Nat) (v : Int32) {H0 : Heap} (hv : isNum v = false) (hon : onS s0 H0) : Mx l s0 y_F_filterAt (.code y_F_filterAt b_F_filterAt 3 (some (.object "FewBits$Filter"))) { frames := 7, cells := 1, slots := 6, locals := 102 } [.ref xo, .int v] H0 (fun _ => False) (Thr s0 E_I (fun _ => True)) := by
  refine Mx.ofW (own := "FewBits") rfl rfl ?_
  rintro p e s m below meth c ⟨hx, hb, hml, hr, hown, hW, hlk⟩ hnm het hH
  have hK := G.k hW
  have hl := lv_entry ([.ref xo, .int v]) (n := 3) (Nat.le_of_ble_eq_true rfl)
  rw [lg_entry_eq]
  generalize (lg_sl ([.ref xo, .int v]) ++ List.replicate (3 - (lg_sl ([.ref xo, .int v])).length) Slot.unset).toArray = ls at hl ⊢
  have hl : lv_has ls 3 [(0, .ref xo), (1, .int v)] := hl
  refine lv_iload_n hx hb d_F_filterAt_0 rfl (lv_at hl 1 rfl) ?_
  exact mx_callT (c_F_requireNumber_no G v hv hon) hW (iv_F_filterAt_1 G hx hb hown hW [.int v] [] rfl) hml hl.1 (by rw [hb]; exact d_F_filterAt_1) (cd_F_requireNumber G hW) ⟨Nat.le_of_ble_eq_true rfl, Nat.le_of_ble_eq_true rfl⟩ (Nat.le_of_ble_eq_true rfl) (Nat.le_of_ble_eq_true rfl) (Nat.le_of_ble_eq_true rfl) het hlk (Nat.le_of_ble_eq_true rfl) (Nat.le_of_ble_eq_true rfl) (fun _ h => nomatch h) (fun _ h => h.elim) (fun H1 q hz hk hp ho => ⟨q, rfl, ho, trivial⟩)

set_option maxHeartbeats 4000000 in
set_option maxRecDepth 100000 in
theorem c_F_asRuns_R {l : Launch} {s0 : State} {D : va_G} {cI cF cJ : ClassId} (G : Gx l s0 D cI cF cJ) (h h1 h2 A B n : Nat) (f : Nat → Nat) (g : Nat → Int32) {H0 : Heap} (hP : va_P D vcl [(h, .inr (2, [.int (nI A), .int (nI B), .int (nI n), .ref h1, .ref h2])), (h1, aN cI 256 f), (h2, aI cI 256 g)] H0) : Mx l s0 y_F_asRuns (.code y_F_asRuns b_F_asRuns 2 (some (.object "FewBits$Runs"))) { frames := 0, cells := 0, slots := 0, locals := 0 } [.ref h] H0 (fun _ => False) (Rd H0 (.ref h)) := by
  refine Mx.ofW (own := "FewBits") rfl rfl ?_
  rintro p e s m below meth c ⟨hx, hb, hml, hr, hown, hW, hlk⟩ hnm het hH
  have hK := G.k hW
  have hl := lv_entry ([.ref h]) (n := 2) (Nat.le_of_ble_eq_true rfl)
  rw [lg_entry_eq]
  generalize (lg_sl ([.ref h]) ++ List.replicate (2 - (lg_sl ([.ref h])).length) Slot.unset).toArray = ls at hl ⊢
  have hl : lv_has ls 2 [(0, .ref h)] := hl
  refine lv_aload_n hx hb d_F_asRuns_0 rfl (lv_at hl 0 rfl) ?_
  refine va_instY (nm := R_R) hx hb hown (G.1.at 223 rfl rfl _ hW) (ca_RR G hW) (va_recv hK hP (ci := 2) (q0 := 0) rfl rfl) d_F_asRuns_1 ?_
  refine lv_if_eq (tgt := 14) hx hb d_F_asRuns_4 (by decide) (fun c_4 => absurd c_4 (by decide)) (fun c_4 => ?_)
  refine lv_aload_n hx hb d_F_asRuns_7 rfl (lv_at hl 0 rfl) ?_
  refine va_castY (nm := R_R) hx hb hown (G.1.at 223 rfl rfl _ hW) (ca_RR G hW) (va_recv hK hP (ci := 2) (q0 := 0) rfl rfl) d_F_asRuns_8 ?_
  refine lv_astore_n (lv' := [(1, .ref h), (0, .ref h)]) hx hb d_F_asRuns_11 rfl hl (by decide) rfl (fun ls hl => ?_)
  refine lv_aload_n hx hb d_F_asRuns_12 rfl (lv_at hl 0 rfl) ?_
  exact mx_aret hx hb hr (Or.inl ⟨_, rfl⟩) hlk d_F_asRuns_13 (Nat.le_of_ble_eq_true rfl) (Nat.le_of_ble_eq_true rfl) (fun _ h => nomatch h) (Or.inr ⟨_, rfl⟩) (⟨rfl, rfl⟩)

set_option maxHeartbeats 4000000 in
set_option maxRecDepth 100000 in
theorem c_F_asRuns_C {l : Launch} {s0 : State} {D : va_G} {cI cF cJ : ClassId} (G : Gx l s0 D cI cF cJ) (h h1 h2 h3 A B : Nat) (hd : Int32) (cs pl pb : Nat → Nat) {H0 : Heap} (hP : va_P D vcl [(h, .inr (0, [.int (nI A), .int (nI B), .int hd, .ref h1, .ref h2, .ref h3])), (h1, aN cI 1024 cs), (h2, aN cI 6 pl), (h3, aN cI 6 pb)] H0) (hon : onS s0 H0) : Mx l s0 y_F_asRuns (.code y_F_asRuns b_F_asRuns 2 (some (.object "FewBits$Runs"))) { frames := 6, cells := 1, slots := 6, locals := 82 } [.ref h] H0 (fun _ => False) (Thr s0 E_A (fun _ => True)) := by
  refine Mx.ofW (own := "FewBits") rfl rfl ?_
  rintro p e s m below meth c ⟨hx, hb, hml, hr, hown, hW, hlk⟩ hnm het hH
  have hK := G.k hW
  have hl := lv_entry ([.ref h]) (n := 2) (Nat.le_of_ble_eq_true rfl)
  rw [lg_entry_eq]
  generalize (lg_sl ([.ref h]) ++ List.replicate (2 - (lg_sl ([.ref h])).length) Slot.unset).toArray = ls at hl ⊢
  have hl : lv_has ls 2 [(0, .ref h)] := hl
  refine lv_aload_n hx hb d_F_asRuns_0 rfl (lv_at hl 0 rfl) ?_
  refine va_instNo (nm := R_R) hx hb hown (G.1.at 223 rfl rfl _ hW) (nc_CR G hW) (va_recv hK hP (ci := 0) (q0 := 0) rfl rfl) d_F_asRuns_1 ?_
  refine lv_if_eq (tgt := 14) hx hb d_F_asRuns_4 (by decide) (fun c_4 => ?_) (fun c_4 => absurd (rfl) c_4)
  exact mx_throw (rest := []) G hx hb hW hown (th_A G) (str_at G 621 rfl hW) hon (hl.1.trans hml.symm) het hlk d_F_asRuns_14 d_F_asRuns_17 d_F_asRuns_18 d_F_asRuns_20 d_F_asRuns_23 (Nat.le_of_ble_eq_true rfl) (Nat.le_of_ble_eq_true rfl) (Nat.le_of_ble_eq_true rfl) (Nat.le_of_ble_eq_true rfl) (Nat.le_of_ble_eq_true rfl) (Nat.le_of_ble_eq_true rfl) (fun _ h => nomatch h) (fun H1 q hz hk ho => ⟨q, rfl, ho, trivial⟩)

set_option maxHeartbeats 4000000 in
set_option maxRecDepth 100000 in
theorem c_F_asRuns_B {l : Launch} {s0 : State} {D : va_G} {cI cF cJ : ClassId} (G : Gx l s0 D cI cF cJ) (h h1 h2 A B : Nat) (hd pu : Int32) (sl pt : Nat → Nat) {H0 : Heap} (hP : va_P D vcl [(h, .inr (1, [.int (nI A), .int (nI B), .int hd, .ref h1, .ref h2, .int pu])), (h1, aN cI 1024 sl), (h2, aN cI 64 pt)] H0) (hon : onS s0 H0) : Mx l s0 y_F_asRuns (.code y_F_asRuns b_F_asRuns 2 (some (.object "FewBits$Runs"))) { frames := 6, cells := 1, slots := 6, locals := 82 } [.ref h] H0 (fun _ => False) (Thr s0 E_A (fun _ => True)) := by
  refine Mx.ofW (own := "FewBits") rfl rfl ?_
  rintro p e s m below meth c ⟨hx, hb, hml, hr, hown, hW, hlk⟩ hnm het hH
  have hK := G.k hW
  have hl := lv_entry ([.ref h]) (n := 2) (Nat.le_of_ble_eq_true rfl)
  rw [lg_entry_eq]
  generalize (lg_sl ([.ref h]) ++ List.replicate (2 - (lg_sl ([.ref h])).length) Slot.unset).toArray = ls at hl ⊢
  have hl : lv_has ls 2 [(0, .ref h)] := hl
  refine lv_aload_n hx hb d_F_asRuns_0 rfl (lv_at hl 0 rfl) ?_
  refine va_instNo (nm := R_R) hx hb hown (G.1.at 223 rfl rfl _ hW) (nc_BR G hW) (va_recv hK hP (ci := 1) (q0 := 0) rfl rfl) d_F_asRuns_1 ?_
  refine lv_if_eq (tgt := 14) hx hb d_F_asRuns_4 (by decide) (fun c_4 => ?_) (fun c_4 => absurd (rfl) c_4)
  exact mx_throw (rest := []) G hx hb hW hown (th_A G) (str_at G 621 rfl hW) hon (hl.1.trans hml.symm) het hlk d_F_asRuns_14 d_F_asRuns_17 d_F_asRuns_18 d_F_asRuns_20 d_F_asRuns_23 (Nat.le_of_ble_eq_true rfl) (Nat.le_of_ble_eq_true rfl) (Nat.le_of_ble_eq_true rfl) (Nat.le_of_ble_eq_true rfl) (Nat.le_of_ble_eq_true rfl) (Nat.le_of_ble_eq_true rfl) (fun _ h => nomatch h) (fun H1 q hz hk ho => ⟨q, rfl, ho, trivial⟩)

set_option maxHeartbeats 4000000 in
set_option maxRecDepth 100000 in
theorem c_F_mix {l : Launch} {s0 : State} {D : va_G} {cI cF cJ : ClassId} (G : Gx l s0 D cI cF cJ) (xo : Nat) (x : Int64) (sk : Int32) {H0 : Heap}  : Mx l s0 y_F_mix (.code y_F_mix b_F_mix 4 (some .long)) { frames := 1, cells := 0, slots := 0, locals := 24 } [.ref xo, .long x, .int sk] H0 (fun _ => False) (Rq s0 none (some (.long (mx x sk.toInt64))) (fun H1 => H1 = H0)) := by
  refine Mx.ofW (own := "FewBits") rfl rfl ?_
  rintro p e s m below meth c ⟨hx, hb, hml, hr, hown, hW, hlk⟩ hnm het hH
  have hK := G.k hW
  have hl := lv_entry ([.ref xo, .long x, .int sk]) (n := 4) (Nat.le_of_ble_eq_true rfl)
  rw [lg_entry_eq]
  generalize (lg_sl ([.ref xo, .long x, .int sk]) ++ List.replicate (4 - (lg_sl ([.ref xo, .long x, .int sk])).length) Slot.unset).toArray = ls at hl ⊢
  have hl : lv_has ls 4 [(0, .ref xo), (1, .long x), (3, .int sk)] := hl
  refine lv_lload_n hx hb d_F_mix_0 rfl (lv_at hl 1 rfl) ?_
  refine lv_iload_n hx hb d_F_mix_1 rfl (lv_at hl 2 rfl) ?_
  refine mx_callR (r := .long (mx x sk.toInt64)) (c_F_mixed G x sk) hW (iv_F_mix_2 G hx hb hown hW [.long x, .int sk] [] rfl) hml hl.1 (by rw [hb]; exact d_F_mix_2) (cd_F_mixed G hW) ⟨Nat.le_of_ble_eq_true rfl, Nat.le_of_ble_eq_true rfl⟩ rfl rfl (Nat.le_of_ble_eq_true rfl) (Nat.le_of_ble_eq_true rfl) (Nat.le_of_ble_eq_true rfl) ?_
  exact mx_lret hx hb hr hlk d_F_mix_5 (Nat.le_of_ble_eq_true rfl) (Nat.le_of_ble_eq_true rfl) (fun _ h => nomatch h) (⟨rfl, rfl⟩)

set_option maxHeartbeats 4000000 in
set_option maxRecDepth 100000 in
theorem c_F_newFilter_C {l : Launch} {s0 : State} {D : va_G} {cI cF cJ : ClassId} (G : Gx l s0 D cI cF cJ)  {H0 : Heap}  : Mx l s0 y_F_newFilter (.code y_F_newFilter b_F_newFilter 1 (some (.object "FewBits$Filter"))) { frames := 3, cells := 4, slots := 1042, locals := 52 } [.int (nI 1)] H0 (Aa [] H0.size) (fun o H1 => ∃ h h1 h2 h3 : Nat, o = .returned (some (.ref h)) ∧ va_P D vcl [(h, .inr (0, [.int 0, .int 0, .int 0, .ref h1, .ref h2, .ref h3])), (h1, aN cI 1024 (fun _ => 0)), (h2, aN cI 6 (fun _ => 0)), (h3, aN cI 6 (fun _ => 0))] H1 ∧ va_D (Aa [] H0.size) [(h, .inr (0, [.int 0, .int 0, .int 0, .ref h1, .ref h2, .ref h3])), (h1, aN cI 1024 (fun _ => 0)), (h2, aN cI 6 (fun _ => 0)), (h3, aN cI 6 (fun _ => 0))]) := by
  refine Mx.ofW (own := "FewBits") rfl rfl ?_
  rintro p e s m below meth c ⟨hx, hb, hml, hr, hown, hW, hlk⟩ hnm het hH
  have hK := G.k hW
  have hD : va_D (Aa [] H0.size) [] := va_D.nil
  have hP : va_P D vcl [] H0 := va_P.nil
  have hD : va_D (Aa [] H0.size) [] := hD
  have hS : va_S (Aa [] H0.size) H0 H0 [] := va_S.rf
  have hl := lv_entry ([.int (nI 1)]) (n := 1) (Nat.le_of_ble_eq_true rfl)
  rw [lg_entry_eq]
  generalize (lg_sl ([.int (nI 1)]) ++ List.replicate (1 - (lg_sl ([.int (nI 1)])).length) Slot.unset).toArray = ls at hl ⊢
  have hl : lv_has ls 1 [(0, .int (nI 1))] := hl
  refine lv_iload_n hx hb d_F_newFilter_0 rfl (lv_at hl 0 rfl) ?_
  refine lv_lookup (tgt := 28) hx hb d_F_newFilter_1 (by decide) rfl (by decide) ?_
  refine va_new (D := D) (ci := 0) (C := R_C) (T := T_C) (N := 6) (fs := [.int 0, .int 0, .int 0, .null, .null, .null]) hx hb (us_C G hW) (fun _ h => h) t_C to_C hown (G.1.at 159 rfl rfl _ hW) (G.1.at 160 rfl rfl _ hW) (G.1.at 9 rfl rfl _ hW) hK hP hD hS Aa.up rfl (by decide +kernel) (Nat.le_of_ble_eq_true rfl) (Nat.le_of_ble_eq_true rfl) d_F_newFilter_28 (fun h H hP hD hS => ?_)
  have hP : va_P D vcl [(h, .inr (0, [.int 0, .int 0, .int 0, .null, .null, .null]))] H := hP
  have hD : va_D (Aa [] H0.size) [(h, .inr (0, [.int 0, .int 0, .int 0, .null, .null, .null]))] := hD
  refine lv_dup hx hb d_F_newFilter_31 rfl ?_
  have hS0 := hS.1
  refine mx_callG (c_C_init G h hP hD) hW (iv_F_newFilter_32 G hx hb hown hW h [] [.ref h] rfl) hml hl.1 (by rw [hb]; exact d_F_newFilter_32) (cd_C_init G hW) ⟨Nat.le_of_ble_eq_true rfl, Nat.le_of_ble_eq_true rfl⟩ (Nat.le_of_ble_eq_true rfl) (Nat.le_of_ble_eq_true rfl) (Nat.le_of_ble_eq_true rfl) hS (fun q h9 => h9.elim (fun h8 => (List.mem_singleton.mp h8) ▸ hD.2 0 _ rfl) (fun h8 => Or.inr (Nat.le_trans hS.1 h8))) (fun q H1 h9 => by cases h9.1) (fun v9 H1 locs hq hsz hkp hS => ?_)
  obtain ⟨e9, h1, h2, h3, hP, hD2⟩ := hq
  cases e9
  have hD : va_D (Aa [] H0.size) [(h, .inr (0, [.int 0, .int 0, .int 0, .ref h1, .ref h2, .ref h3])), (h1, aN cI 1024 (fun _ => 0)), (h2, aN cI 6 (fun _ => 0)), (h3, aN cI 6 (fun _ => 0))] := va_Dm hD2 (fun q h9 => h9.elim (fun h8 => (List.mem_singleton.mp h8) ▸ hD.2 0 _ rfl) (fun h8 => Or.inr (Nat.le_trans hS0 h8)))
  refine W.eq (g2 := F0 m 35 ls [.ref h]) rfl ?_
  have hP : va_P D vcl [(h, .inr (0, [.int 0, .int 0, .int 0, .ref h1, .ref h2, .ref h3])), (h1, aN cI 1024 (fun _ => 0)), (h2, aN cI 6 (fun _ => 0)), (h3, aN cI 6 (fun _ => 0))] H1 := hP
  have hD : va_D (Aa [] H0.size) [(h, .inr (0, [.int 0, .int 0, .int 0, .ref h1, .ref h2, .ref h3])), (h1, aN cI 1024 (fun _ => 0)), (h2, aN cI 6 (fun _ => 0)), (h3, aN cI 6 (fun _ => 0))] := hD
  exact mx_aret hx hb hr (Or.inl ⟨_, rfl⟩) hlk d_F_newFilter_35 (Nat.le_of_ble_eq_true rfl) (Nat.le_of_ble_eq_true rfl) hS.2.2 (Or.inr ⟨_, rfl⟩) (⟨h, h1, h2, h3, rfl, hP, hD⟩)

set_option maxHeartbeats 4000000 in
set_option maxRecDepth 100000 in
theorem c_F_newFilter_B {l : Launch} {s0 : State} {D : va_G} {cI cF cJ : ClassId} (G : Gx l s0 D cI cF cJ)  {H0 : Heap}  : Mx l s0 y_F_newFilter (.code y_F_newFilter b_F_newFilter 1 (some (.object "FewBits$Filter"))) { frames := 3, cells := 3, slots := 1094, locals := 52 } [.int (nI 2)] H0 (Aa [] H0.size) (fun o H1 => ∃ h h1 h2 : Nat, o = .returned (some (.ref h)) ∧ va_P D vcl [(h, .inr (1, [.int 0, .int 0, .int 0, .ref h1, .ref h2, .int 0])), (h1, aN cI 1024 (fun _ => 0)), (h2, aN cI 64 (fun _ => 0))] H1 ∧ va_D (Aa [] H0.size) [(h, .inr (1, [.int 0, .int 0, .int 0, .ref h1, .ref h2, .int 0])), (h1, aN cI 1024 (fun _ => 0)), (h2, aN cI 64 (fun _ => 0))]) := by
  refine Mx.ofW (own := "FewBits") rfl rfl ?_
  rintro p e s m below meth c ⟨hx, hb, hml, hr, hown, hW, hlk⟩ hnm het hH
  have hK := G.k hW
  have hD : va_D (Aa [] H0.size) [] := va_D.nil
  have hP : va_P D vcl [] H0 := va_P.nil
  have hD : va_D (Aa [] H0.size) [] := hD
  have hS : va_S (Aa [] H0.size) H0 H0 [] := va_S.rf
  have hl := lv_entry ([.int (nI 2)]) (n := 1) (Nat.le_of_ble_eq_true rfl)
  rw [lg_entry_eq]
  generalize (lg_sl ([.int (nI 2)]) ++ List.replicate (1 - (lg_sl ([.int (nI 2)])).length) Slot.unset).toArray = ls at hl ⊢
  have hl : lv_has ls 1 [(0, .int (nI 2))] := hl
  refine lv_iload_n hx hb d_F_newFilter_0 rfl (lv_at hl 0 rfl) ?_
  refine lv_lookup (tgt := 36) hx hb d_F_newFilter_1 (by decide) rfl (by decide) ?_
  refine va_new (D := D) (ci := 1) (C := R_B) (T := T_B) (N := 6) (fs := [.int 0, .int 0, .int 0, .null, .null, .int 0]) hx hb (us_B G hW) (fun _ h => h) t_B to_B hown (G.1.at 204 rfl rfl _ hW) (G.1.at 205 rfl rfl _ hW) (G.1.at 10 rfl rfl _ hW) hK hP hD hS Aa.up rfl (by decide +kernel) (Nat.le_of_ble_eq_true rfl) (Nat.le_of_ble_eq_true rfl) d_F_newFilter_36 (fun h H hP hD hS => ?_)
  have hP : va_P D vcl [(h, .inr (1, [.int 0, .int 0, .int 0, .null, .null, .int 0]))] H := hP
  have hD : va_D (Aa [] H0.size) [(h, .inr (1, [.int 0, .int 0, .int 0, .null, .null, .int 0]))] := hD
  refine lv_dup hx hb d_F_newFilter_39 rfl ?_
  have hS0 := hS.1
  refine mx_callG (c_B_init G h hP hD) hW (iv_F_newFilter_40 G hx hb hown hW h [] [.ref h] rfl) hml hl.1 (by rw [hb]; exact d_F_newFilter_40) (cd_B_init G hW) ⟨Nat.le_of_ble_eq_true rfl, Nat.le_of_ble_eq_true rfl⟩ (Nat.le_of_ble_eq_true rfl) (Nat.le_of_ble_eq_true rfl) (Nat.le_of_ble_eq_true rfl) hS (fun q h9 => h9.elim (fun h8 => (List.mem_singleton.mp h8) ▸ hD.2 0 _ rfl) (fun h8 => Or.inr (Nat.le_trans hS.1 h8))) (fun q H1 h9 => by cases h9.1) (fun v9 H1 locs hq hsz hkp hS => ?_)
  obtain ⟨e9, h1, h2, hP, hD2⟩ := hq
  cases e9
  have hD : va_D (Aa [] H0.size) [(h, .inr (1, [.int 0, .int 0, .int 0, .ref h1, .ref h2, .int 0])), (h1, aN cI 1024 (fun _ => 0)), (h2, aN cI 64 (fun _ => 0))] := va_Dm hD2 (fun q h9 => h9.elim (fun h8 => (List.mem_singleton.mp h8) ▸ hD.2 0 _ rfl) (fun h8 => Or.inr (Nat.le_trans hS0 h8)))
  refine W.eq (g2 := F0 m 43 ls [.ref h]) rfl ?_
  have hP : va_P D vcl [(h, .inr (1, [.int 0, .int 0, .int 0, .ref h1, .ref h2, .int 0])), (h1, aN cI 1024 (fun _ => 0)), (h2, aN cI 64 (fun _ => 0))] H1 := hP
  have hD : va_D (Aa [] H0.size) [(h, .inr (1, [.int 0, .int 0, .int 0, .ref h1, .ref h2, .int 0])), (h1, aN cI 1024 (fun _ => 0)), (h2, aN cI 64 (fun _ => 0))] := hD
  exact mx_aret hx hb hr (Or.inl ⟨_, rfl⟩) hlk d_F_newFilter_43 (Nat.le_of_ble_eq_true rfl) (Nat.le_of_ble_eq_true rfl) hS.2.2 (Or.inr ⟨_, rfl⟩) (⟨h, h1, h2, rfl, hP, hD⟩)

set_option maxHeartbeats 4000000 in
set_option maxRecDepth 100000 in
theorem c_F_newFilter_R {l : Launch} {s0 : State} {D : va_G} {cI cF cJ : ClassId} (G : Gx l s0 D cI cF cJ)  {H0 : Heap}  : Mx l s0 y_F_newFilter (.code y_F_newFilter b_F_newFilter 1 (some (.object "FewBits$Filter"))) { frames := 3, cells := 3, slots := 517, locals := 52 } [.int (nI 3)] H0 (Aa [] H0.size) (fun o H1 => ∃ h h1 h2 : Nat, o = .returned (some (.ref h)) ∧ va_P D vcl [(h, .inr (2, [.int 0, .int 0, .int 0, .ref h1, .ref h2])), (h1, aN cI 256 (fun _ => 0)), (h2, aN cI 256 (fun _ => 0))] H1 ∧ va_D (Aa [] H0.size) [(h, .inr (2, [.int 0, .int 0, .int 0, .ref h1, .ref h2])), (h1, aN cI 256 (fun _ => 0)), (h2, aN cI 256 (fun _ => 0))]) := by
  refine Mx.ofW (own := "FewBits") rfl rfl ?_
  rintro p e s m below meth c ⟨hx, hb, hml, hr, hown, hW, hlk⟩ hnm het hH
  have hK := G.k hW
  have hD : va_D (Aa [] H0.size) [] := va_D.nil
  have hP : va_P D vcl [] H0 := va_P.nil
  have hD : va_D (Aa [] H0.size) [] := hD
  have hS : va_S (Aa [] H0.size) H0 H0 [] := va_S.rf
  have hl := lv_entry ([.int (nI 3)]) (n := 1) (Nat.le_of_ble_eq_true rfl)
  rw [lg_entry_eq]
  generalize (lg_sl ([.int (nI 3)]) ++ List.replicate (1 - (lg_sl ([.int (nI 3)])).length) Slot.unset).toArray = ls at hl ⊢
  have hl : lv_has ls 1 [(0, .int (nI 3))] := hl
  refine lv_iload_n hx hb d_F_newFilter_0 rfl (lv_at hl 0 rfl) ?_
  refine lv_lookup (tgt := 44) hx hb d_F_newFilter_1 (by decide) (rfl) (by decide) ?_
  refine va_new (D := D) (ci := 2) (C := R_R) (T := T_R) (N := 5) (fs := [.int 0, .int 0, .int 0, .null, .null]) hx hb (us_R G hW) (fun _ h => h) t_R to_R hown (G.1.at 223 rfl rfl _ hW) (G.1.at 224 rfl rfl _ hW) (G.1.at 11 rfl rfl _ hW) hK hP hD hS Aa.up rfl (by decide +kernel) (Nat.le_of_ble_eq_true rfl) (Nat.le_of_ble_eq_true rfl) d_F_newFilter_44 (fun h H hP hD hS => ?_)
  have hP : va_P D vcl [(h, .inr (2, [.int 0, .int 0, .int 0, .null, .null]))] H := hP
  have hD : va_D (Aa [] H0.size) [(h, .inr (2, [.int 0, .int 0, .int 0, .null, .null]))] := hD
  refine lv_dup hx hb d_F_newFilter_47 rfl ?_
  have hS0 := hS.1
  refine mx_callG (c_R_init G h hP hD) hW (iv_F_newFilter_48 G hx hb hown hW h [] [.ref h] rfl) hml hl.1 (by rw [hb]; exact d_F_newFilter_48) (cd_R_init G hW) ⟨Nat.le_of_ble_eq_true rfl, Nat.le_of_ble_eq_true rfl⟩ (Nat.le_of_ble_eq_true rfl) (Nat.le_of_ble_eq_true rfl) (Nat.le_of_ble_eq_true rfl) hS (fun q h9 => h9.elim (fun h8 => (List.mem_singleton.mp h8) ▸ hD.2 0 _ rfl) (fun h8 => Or.inr (Nat.le_trans hS.1 h8))) (fun q H1 h9 => by cases h9.1) (fun v9 H1 locs hq hsz hkp hS => ?_)
  obtain ⟨e9, h1, h2, hP, hD2⟩ := hq
  cases e9
  have hD : va_D (Aa [] H0.size) [(h, .inr (2, [.int 0, .int 0, .int 0, .ref h1, .ref h2])), (h1, aN cI 256 (fun _ => 0)), (h2, aN cI 256 (fun _ => 0))] := va_Dm hD2 (fun q h9 => h9.elim (fun h8 => (List.mem_singleton.mp h8) ▸ hD.2 0 _ rfl) (fun h8 => Or.inr (Nat.le_trans hS0 h8)))
  refine W.eq (g2 := F0 m 51 ls [.ref h]) rfl ?_
  have hP : va_P D vcl [(h, .inr (2, [.int 0, .int 0, .int 0, .ref h1, .ref h2])), (h1, aN cI 256 (fun _ => 0)), (h2, aN cI 256 (fun _ => 0))] H1 := hP
  have hD : va_D (Aa [] H0.size) [(h, .inr (2, [.int 0, .int 0, .int 0, .ref h1, .ref h2])), (h1, aN cI 256 (fun _ => 0)), (h2, aN cI 256 (fun _ => 0))] := hD
  exact mx_aret hx hb hr (Or.inl ⟨_, rfl⟩) hlk d_F_newFilter_51 (Nat.le_of_ble_eq_true rfl) (Nat.le_of_ble_eq_true rfl) hS.2.2 (Or.inr ⟨_, rfl⟩) (⟨h, h1, h2, rfl, hP, hD⟩)

set_option maxHeartbeats 4000000 in
set_option maxRecDepth 100000 in
theorem c_F_filterFor_C_old {l : Launch} {s0 : State} {D : va_G} {cI cF cJ : ClassId} (G : Gx l s0 D cI cF cJ) (xo fa ma : Nat) (fi mk : Nat → Option Nat) (j h : Nat) {H0 : Heap} (hP : va_P D vcl [(xo, .inr (3, [.ref fa, .ref ma])), (fa, aQ cF 4 fi), (ma, aQ cF 12 mk)] H0) (hj : j < 4) (hmk : mk (j * 3 + 1 - 1) = some h) : Mx l s0 y_F_filterFor (.code y_F_filterFor b_F_filterFor 4 (some (.object "FewBits$Filter"))) { frames := 0, cells := 0, slots := 0, locals := 0 } [.ref xo, .int (nI j), .int (nI 1)] H0 (fun _ => False) (Rd H0 (.ref h)) := by
  refine Mx.ofW (own := "FewBits") rfl rfl ?_
  rintro p e s m below meth c ⟨hx, hb, hml, hr, hown, hW, hlk⟩ hnm het hH
  have hK := G.k hW
  have hl := lv_entry ([.ref xo, .int (nI j), .int (nI 1)]) (n := 4) (Nat.le_of_ble_eq_true rfl)
  rw [lg_entry_eq]
  generalize (lg_sl ([.ref xo, .int (nI j), .int (nI 1)]) ++ List.replicate (4 - (lg_sl ([.ref xo, .int (nI j), .int (nI 1)])).length) Slot.unset).toArray = ls at hl ⊢
  have hl : lv_has ls 4 [(0, .ref xo), (1, .int (nI j)), (2, .int (nI 1))] := hl
  refine lv_iload_n hx hb d_F_filterFor_0 rfl (lv_at hl 1 rfl) ?_
  refine lv_iconst (v := (nI 3)) hx hb d_F_filterFor_1 (by decide) ?_
  refine lv_imul hx hb d_F_filterFor_2 ?_
  refine tp_i (y := (nI (j * 3))) (pk_mul _ _) ?_
  refine lv_iload_n hx hb d_F_filterFor_3 rfl (lv_at hl 2 rfl) ?_
  refine lv_iadd hx hb d_F_filterFor_4 ?_
  refine tp_i (y := (nI (j * 3 + 1))) (nI_add _ _) ?_
  refine lv_iconst (v := (nI 1)) hx hb d_F_filterFor_5 (by decide) ?_
  refine lv_isub hx hb d_F_filterFor_6 ?_
  refine tp_i (y := (nI (j * 3 + 1 - 1))) (pk_sub (by omega)) ?_
  refine lv_istore_n (lv' := [(3, .int (nI (j * 3 + 1 - 1))), (0, .ref xo), (1, .int (nI j)), (2, .int (nI 1))]) hx hb d_F_filterFor_7 rfl hl (by decide) rfl (fun ls hl => ?_)
  refine lv_aload_n hx hb d_F_filterFor_8 rfl (lv_at hl 1 rfl) ?_
  refine va_get (D := D) (ci := 3) (v := .ref ma) (C := R_F) (T := T_F) (N := 2) hx hb (us_F G hW) (fun _ h => h) hown hK hP 0 rfl rfl 1 (by decide) (fl_F_15 G hW) (fun _ h9 => h9) rfl d_F_filterFor_9 ?_
  refine lv_iload_n hx hb d_F_filterFor_12 rfl (lv_at hl 0 rfl) ?_
  refine qa_ld hx hb hK hP 2 (j := (j * 3 + 1 - 1)) rfl (by omega) (by decide) d_F_filterFor_13 ?_
  refine tp_v (y := .ref h) (by rw [hmk]; rfl) ?_
  refine lv_ifnonnull (tgt := 27) hx hb d_F_filterFor_14 (by decide) ?_
  refine lv_aload_n hx hb d_F_filterFor_27 rfl (lv_at hl 1 rfl) ?_
  refine va_get (D := D) (ci := 3) (v := .ref ma) (C := R_F) (T := T_F) (N := 2) hx hb (us_F G hW) (fun _ h => h) hown hK hP 0 rfl rfl 1 (by decide) (fl_F_15 G hW) (fun _ h9 => h9) rfl d_F_filterFor_28 ?_
  refine lv_iload_n hx hb d_F_filterFor_31 rfl (lv_at hl 0 rfl) ?_
  refine qa_ld hx hb hK hP 2 (j := (j * 3 + 1 - 1)) rfl (by omega) (by decide) d_F_filterFor_32 ?_
  refine tp_v (y := .ref h) (by rw [hmk]; rfl) ?_
  exact mx_aret hx hb hr (Or.inl ⟨_, rfl⟩) hlk d_F_filterFor_33 (Nat.le_of_ble_eq_true rfl) (Nat.le_of_ble_eq_true rfl) (fun _ h => nomatch h) (Or.inr ⟨_, rfl⟩) (⟨rfl, rfl⟩)

set_option maxHeartbeats 4000000 in
set_option maxRecDepth 100000 in
theorem c_F_filterFor_C_new {l : Launch} {s0 : State} {D : va_G} {cI cF cJ : ClassId} (G : Gx l s0 D cI cF cJ) (xo fa ma : Nat) (fi mk : Nat → Option Nat) (j : Nat) {H0 : Heap} {A0 : Nat → Prop} (hP : va_P D vcl [(xo, .inr (3, [.ref fa, .ref ma])), (fa, aQ cF 4 fi), (ma, aQ cF 12 mk)] H0) (hD : va_D A0 [(xo, .inr (3, [.ref fa, .ref ma])), (fa, aQ cF 4 fi), (ma, aQ cF 12 mk)]) (hj : j < 4) (hmk : mk (j * 3 + 1 - 1) = none) : Mx l s0 y_F_filterFor (.code y_F_filterFor b_F_filterFor 4 (some (.object "FewBits$Filter"))) { frames := 4, cells := 4, slots := 1042, locals := 72 } [.ref xo, .int (nI j), .int (nI 1)] H0 (Aa [xo, fa, ma] H0.size) (fun o H1 => ∃ h h1 h2 h3 : Nat, o = .returned (some (.ref h)) ∧ va_P D vcl [(xo, .inr (3, [.ref fa, .ref ma])), (fa, aQ cF 4 fi), (ma, aQ cF 12 (va_up mk (j * 3 + 1 - 1) (some h))), (h, .inr (0, [.int 0, .int 0, .int 0, .ref h1, .ref h2, .ref h3])), (h1, aN cI 1024 (fun _ => 0)), (h2, aN cI 6 (fun _ => 0)), (h3, aN cI 6 (fun _ => 0))] H1 ∧ va_D (Aa [xo, fa, ma] H0.size) [(xo, .inr (3, [.ref fa, .ref ma])), (fa, aQ cF 4 fi), (ma, aQ cF 12 (va_up mk (j * 3 + 1 - 1) (some h))), (h, .inr (0, [.int 0, .int 0, .int 0, .ref h1, .ref h2, .ref h3])), (h1, aN cI 1024 (fun _ => 0)), (h2, aN cI 6 (fun _ => 0)), (h3, aN cI 6 (fun _ => 0))] ∧ va_D (fun q => H0.size ≤ q) [(h, .inr (0, [.int 0, .int 0, .int 0, .ref h1, .ref h2, .ref h3])), (h1, aN cI 1024 (fun _ => 0)), (h2, aN cI 6 (fun _ => 0)), (h3, aN cI 6 (fun _ => 0))]) := by
  refine Mx.ofW (own := "FewBits") rfl rfl ?_
  rintro p e s m below meth c ⟨hx, hb, hml, hr, hown, hW, hlk⟩ hnm het hH
  have hK := G.k hW
  have hD := hD.aa (sz := H0.size)
  have hD : va_D (Aa [xo, fa, ma] H0.size) [(xo, .inr (3, [.ref fa, .ref ma])), (fa, aQ cF 4 fi), (ma, aQ cF 12 mk)] := hD
  have hS : va_S (Aa [xo, fa, ma] H0.size) H0 H0 [] := va_S.rf
  have hl := lv_entry ([.ref xo, .int (nI j), .int (nI 1)]) (n := 4) (Nat.le_of_ble_eq_true rfl)
  rw [lg_entry_eq]
  generalize (lg_sl ([.ref xo, .int (nI j), .int (nI 1)]) ++ List.replicate (4 - (lg_sl ([.ref xo, .int (nI j), .int (nI 1)])).length) Slot.unset).toArray = ls at hl ⊢
  have hl : lv_has ls 4 [(0, .ref xo), (1, .int (nI j)), (2, .int (nI 1))] := hl
  refine lv_iload_n hx hb d_F_filterFor_0 rfl (lv_at hl 1 rfl) ?_
  refine lv_iconst (v := (nI 3)) hx hb d_F_filterFor_1 (by decide) ?_
  refine lv_imul hx hb d_F_filterFor_2 ?_
  refine tp_i (y := (nI (j * 3))) (pk_mul _ _) ?_
  refine lv_iload_n hx hb d_F_filterFor_3 rfl (lv_at hl 2 rfl) ?_
  refine lv_iadd hx hb d_F_filterFor_4 ?_
  refine tp_i (y := (nI (j * 3 + 1))) (nI_add _ _) ?_
  refine lv_iconst (v := (nI 1)) hx hb d_F_filterFor_5 (by decide) ?_
  refine lv_isub hx hb d_F_filterFor_6 ?_
  refine tp_i (y := (nI (j * 3 + 1 - 1))) (pk_sub (by omega)) ?_
  refine lv_istore_n (lv' := [(3, .int (nI (j * 3 + 1 - 1))), (0, .ref xo), (1, .int (nI j)), (2, .int (nI 1))]) hx hb d_F_filterFor_7 rfl hl (by decide) rfl (fun ls hl => ?_)
  refine lv_aload_n hx hb d_F_filterFor_8 rfl (lv_at hl 1 rfl) ?_
  refine va_get (D := D) (ci := 3) (v := .ref ma) (C := R_F) (T := T_F) (N := 2) hx hb (us_F G hW) (fun _ h => h) hown hK hP 0 rfl rfl 1 (by decide) (fl_F_15 G hW) (fun _ h9 => h9) rfl d_F_filterFor_9 ?_
  refine lv_iload_n hx hb d_F_filterFor_12 rfl (lv_at hl 0 rfl) ?_
  refine qa_ld hx hb hK hP 2 (j := (j * 3 + 1 - 1)) rfl (by omega) (by decide) d_F_filterFor_13 ?_
  refine tp_v (y := .null) (by rw [hmk]; rfl) ?_
  refine lv_ifnonnullN hx hb d_F_filterFor_14 ?_
  refine lv_aload_n hx hb d_F_filterFor_17 rfl (lv_at hl 1 rfl) ?_
  refine va_get (D := D) (ci := 3) (v := .ref ma) (C := R_F) (T := T_F) (N := 2) hx hb (us_F G hW) (fun _ h => h) hown hK hP 0 rfl rfl 1 (by decide) (fl_F_15 G hW) (fun _ h9 => h9) rfl d_F_filterFor_18 ?_
  refine lv_iload_n hx hb d_F_filterFor_21 rfl (lv_at hl 0 rfl) ?_
  refine lv_iload_n hx hb d_F_filterFor_22 rfl (lv_at hl 3 rfl) ?_
  have hP0 := hP
  refine mx_callG (c_F_newFilter_C G) hW (iv_F_filterFor_23 G hx hb hown hW [.int (nI 1)] [.int (nI (j * 3 + 1 - 1)), .ref ma] rfl) hml hl.1 (by rw [hb]; exact d_F_filterFor_23) (cd_F_newFilter G hW) ⟨Nat.le_of_ble_eq_true rfl, Nat.le_of_ble_eq_true rfl⟩ (Nat.le_of_ble_eq_true rfl) (Nat.le_of_ble_eq_true rfl) (Nat.le_of_ble_eq_true rfl) hS (Aa.mono (fun _ h => nomatch h) hS.1) (fun q H1 h9 => by obtain ⟨_, _, _, _, h8, _⟩ := h9; cases h8) (fun v9 H1 locs hq hsz hkp hS => ?_)
  obtain ⟨h, h1, h2, h3, e9, hP2, hD2⟩ := hq
  cases e9
  have hP := va_P.app (hP.ext (fun z hz => hkp z hz (fun h9 => h9.elim (fun h8 => nomatch h8) (fun h8 => absurd hz (Nat.not_lt.mpr h8))))) hP2
  have hD := va_D.app2 hD hP0 (va_Dm hD2 (fun q h9 => h9.elim (fun h8 => nomatch h8) id))
  have hDn := va_Dm hD2 (A2 := fun q => H0.size ≤ q) (fun q h9 => h9.elim (fun h8 => nomatch h8) id)
  refine W.eq (g2 := F0 m 26 ls [.ref h, .int (nI (j * 3 + 1 - 1)), .ref ma]) rfl ?_
  have hP : va_P D vcl [(xo, .inr (3, [.ref fa, .ref ma])), (fa, aQ cF 4 fi), (ma, aQ cF 12 mk), (h, .inr (0, [.int 0, .int 0, .int 0, .ref h1, .ref h2, .ref h3])), (h1, aN cI 1024 (fun _ => 0)), (h2, aN cI 6 (fun _ => 0)), (h3, aN cI 6 (fun _ => 0))] H1 := hP
  have hD : va_D (Aa [xo, fa, ma] H0.size) [(xo, .inr (3, [.ref fa, .ref ma])), (fa, aQ cF 4 fi), (ma, aQ cF 12 mk), (h, .inr (0, [.int 0, .int 0, .int 0, .ref h1, .ref h2, .ref h3])), (h1, aN cI 1024 (fun _ => 0)), (h2, aN cI 6 (fun _ => 0)), (h3, aN cI 6 (fun _ => 0))] := hD
  refine qa_st hx hb hK hP hD hS 2 3 0 (j := (j * 3 + 1 - 1)) rfl (ca_C G hW) rfl rfl (by omega) (by decide) d_F_filterFor_26 (fun H locs hP hD hS => ?_)
  have hP : va_P D vcl [(xo, .inr (3, [.ref fa, .ref ma])), (fa, aQ cF 4 fi), (ma, aQ cF 12 (va_up mk (j * 3 + 1 - 1) (some h))), (h, .inr (0, [.int 0, .int 0, .int 0, .ref h1, .ref h2, .ref h3])), (h1, aN cI 1024 (fun _ => 0)), (h2, aN cI 6 (fun _ => 0)), (h3, aN cI 6 (fun _ => 0))] H := hP
  have hD : va_D (Aa [xo, fa, ma] H0.size) [(xo, .inr (3, [.ref fa, .ref ma])), (fa, aQ cF 4 fi), (ma, aQ cF 12 (va_up mk (j * 3 + 1 - 1) (some h))), (h, .inr (0, [.int 0, .int 0, .int 0, .ref h1, .ref h2, .ref h3])), (h1, aN cI 1024 (fun _ => 0)), (h2, aN cI 6 (fun _ => 0)), (h3, aN cI 6 (fun _ => 0))] := hD
  refine lv_aload_n hx hb d_F_filterFor_27 rfl (lv_at hl 1 rfl) ?_
  refine va_get (D := D) (ci := 3) (v := .ref ma) (C := R_F) (T := T_F) (N := 2) hx hb (us_F G hW) (fun _ h => h) hown hK hP 0 rfl rfl 1 (by decide) (fl_F_15 G hW) (fun _ h9 => h9) rfl d_F_filterFor_28 ?_
  refine lv_iload_n hx hb d_F_filterFor_31 rfl (lv_at hl 0 rfl) ?_
  refine qa_ld hx hb hK hP 2 (j := (j * 3 + 1 - 1)) rfl (by omega) (by decide) d_F_filterFor_32 ?_
  refine tp_v (y := .ref h) (by rw [va_up_self]; rfl) ?_
  exact mx_aret hx hb hr (Or.inl ⟨_, rfl⟩) hlk d_F_filterFor_33 (Nat.le_of_ble_eq_true rfl) (Nat.le_of_ble_eq_true rfl) hS.2.2 (Or.inr ⟨_, rfl⟩) (⟨h, h1, h2, h3, rfl, hP, hD, va_D.same2 [h, h1, h2, h3] hDn rfl rfl⟩)

set_option maxHeartbeats 4000000 in
set_option maxRecDepth 100000 in
theorem c_F_filterFor_B_old {l : Launch} {s0 : State} {D : va_G} {cI cF cJ : ClassId} (G : Gx l s0 D cI cF cJ) (xo fa ma : Nat) (fi mk : Nat → Option Nat) (j h : Nat) {H0 : Heap} (hP : va_P D vcl [(xo, .inr (3, [.ref fa, .ref ma])), (fa, aQ cF 4 fi), (ma, aQ cF 12 mk)] H0) (hj : j < 4) (hmk : mk (j * 3 + 2 - 1) = some h) : Mx l s0 y_F_filterFor (.code y_F_filterFor b_F_filterFor 4 (some (.object "FewBits$Filter"))) { frames := 0, cells := 0, slots := 0, locals := 0 } [.ref xo, .int (nI j), .int (nI 2)] H0 (fun _ => False) (Rd H0 (.ref h)) := by
  refine Mx.ofW (own := "FewBits") rfl rfl ?_
  rintro p e s m below meth c ⟨hx, hb, hml, hr, hown, hW, hlk⟩ hnm het hH
  have hK := G.k hW
  have hl := lv_entry ([.ref xo, .int (nI j), .int (nI 2)]) (n := 4) (Nat.le_of_ble_eq_true rfl)
  rw [lg_entry_eq]
  generalize (lg_sl ([.ref xo, .int (nI j), .int (nI 2)]) ++ List.replicate (4 - (lg_sl ([.ref xo, .int (nI j), .int (nI 2)])).length) Slot.unset).toArray = ls at hl ⊢
  have hl : lv_has ls 4 [(0, .ref xo), (1, .int (nI j)), (2, .int (nI 2))] := hl
  refine lv_iload_n hx hb d_F_filterFor_0 rfl (lv_at hl 1 rfl) ?_
  refine lv_iconst (v := (nI 3)) hx hb d_F_filterFor_1 (by decide) ?_
  refine lv_imul hx hb d_F_filterFor_2 ?_
  refine tp_i (y := (nI (j * 3))) (pk_mul _ _) ?_
  refine lv_iload_n hx hb d_F_filterFor_3 rfl (lv_at hl 2 rfl) ?_
  refine lv_iadd hx hb d_F_filterFor_4 ?_
  refine tp_i (y := (nI (j * 3 + 2))) (nI_add _ _) ?_
  refine lv_iconst (v := (nI 1)) hx hb d_F_filterFor_5 (by decide) ?_
  refine lv_isub hx hb d_F_filterFor_6 ?_
  refine tp_i (y := (nI (j * 3 + 2 - 1))) (pk_sub (by omega)) ?_
  refine lv_istore_n (lv' := [(3, .int (nI (j * 3 + 2 - 1))), (0, .ref xo), (1, .int (nI j)), (2, .int (nI 2))]) hx hb d_F_filterFor_7 rfl hl (by decide) rfl (fun ls hl => ?_)
  refine lv_aload_n hx hb d_F_filterFor_8 rfl (lv_at hl 1 rfl) ?_
  refine va_get (D := D) (ci := 3) (v := .ref ma) (C := R_F) (T := T_F) (N := 2) hx hb (us_F G hW) (fun _ h => h) hown hK hP 0 rfl rfl 1 (by decide) (fl_F_15 G hW) (fun _ h9 => h9) rfl d_F_filterFor_9 ?_
  refine lv_iload_n hx hb d_F_filterFor_12 rfl (lv_at hl 0 rfl) ?_
  refine qa_ld hx hb hK hP 2 (j := (j * 3 + 2 - 1)) rfl (by omega) (by decide) d_F_filterFor_13 ?_
  refine tp_v (y := .ref h) (by rw [hmk]; rfl) ?_
  refine lv_ifnonnull (tgt := 27) hx hb d_F_filterFor_14 (by decide) ?_
  refine lv_aload_n hx hb d_F_filterFor_27 rfl (lv_at hl 1 rfl) ?_
  refine va_get (D := D) (ci := 3) (v := .ref ma) (C := R_F) (T := T_F) (N := 2) hx hb (us_F G hW) (fun _ h => h) hown hK hP 0 rfl rfl 1 (by decide) (fl_F_15 G hW) (fun _ h9 => h9) rfl d_F_filterFor_28 ?_
  refine lv_iload_n hx hb d_F_filterFor_31 rfl (lv_at hl 0 rfl) ?_
  refine qa_ld hx hb hK hP 2 (j := (j * 3 + 2 - 1)) rfl (by omega) (by decide) d_F_filterFor_32 ?_
  refine tp_v (y := .ref h) (by rw [hmk]; rfl) ?_
  exact mx_aret hx hb hr (Or.inl ⟨_, rfl⟩) hlk d_F_filterFor_33 (Nat.le_of_ble_eq_true rfl) (Nat.le_of_ble_eq_true rfl) (fun _ h => nomatch h) (Or.inr ⟨_, rfl⟩) (⟨rfl, rfl⟩)

set_option maxHeartbeats 4000000 in
set_option maxRecDepth 100000 in
theorem c_F_filterFor_B_new {l : Launch} {s0 : State} {D : va_G} {cI cF cJ : ClassId} (G : Gx l s0 D cI cF cJ) (xo fa ma : Nat) (fi mk : Nat → Option Nat) (j : Nat) {H0 : Heap} {A0 : Nat → Prop} (hP : va_P D vcl [(xo, .inr (3, [.ref fa, .ref ma])), (fa, aQ cF 4 fi), (ma, aQ cF 12 mk)] H0) (hD : va_D A0 [(xo, .inr (3, [.ref fa, .ref ma])), (fa, aQ cF 4 fi), (ma, aQ cF 12 mk)]) (hj : j < 4) (hmk : mk (j * 3 + 2 - 1) = none) : Mx l s0 y_F_filterFor (.code y_F_filterFor b_F_filterFor 4 (some (.object "FewBits$Filter"))) { frames := 4, cells := 3, slots := 1094, locals := 72 } [.ref xo, .int (nI j), .int (nI 2)] H0 (Aa [xo, fa, ma] H0.size) (fun o H1 => ∃ h h1 h2 : Nat, o = .returned (some (.ref h)) ∧ va_P D vcl [(xo, .inr (3, [.ref fa, .ref ma])), (fa, aQ cF 4 fi), (ma, aQ cF 12 (va_up mk (j * 3 + 2 - 1) (some h))), (h, .inr (1, [.int 0, .int 0, .int 0, .ref h1, .ref h2, .int 0])), (h1, aN cI 1024 (fun _ => 0)), (h2, aN cI 64 (fun _ => 0))] H1 ∧ va_D (Aa [xo, fa, ma] H0.size) [(xo, .inr (3, [.ref fa, .ref ma])), (fa, aQ cF 4 fi), (ma, aQ cF 12 (va_up mk (j * 3 + 2 - 1) (some h))), (h, .inr (1, [.int 0, .int 0, .int 0, .ref h1, .ref h2, .int 0])), (h1, aN cI 1024 (fun _ => 0)), (h2, aN cI 64 (fun _ => 0))] ∧ va_D (fun q => H0.size ≤ q) [(h, .inr (1, [.int 0, .int 0, .int 0, .ref h1, .ref h2, .int 0])), (h1, aN cI 1024 (fun _ => 0)), (h2, aN cI 64 (fun _ => 0))]) := by
  refine Mx.ofW (own := "FewBits") rfl rfl ?_
  rintro p e s m below meth c ⟨hx, hb, hml, hr, hown, hW, hlk⟩ hnm het hH
  have hK := G.k hW
  have hD := hD.aa (sz := H0.size)
  have hD : va_D (Aa [xo, fa, ma] H0.size) [(xo, .inr (3, [.ref fa, .ref ma])), (fa, aQ cF 4 fi), (ma, aQ cF 12 mk)] := hD
  have hS : va_S (Aa [xo, fa, ma] H0.size) H0 H0 [] := va_S.rf
  have hl := lv_entry ([.ref xo, .int (nI j), .int (nI 2)]) (n := 4) (Nat.le_of_ble_eq_true rfl)
  rw [lg_entry_eq]
  generalize (lg_sl ([.ref xo, .int (nI j), .int (nI 2)]) ++ List.replicate (4 - (lg_sl ([.ref xo, .int (nI j), .int (nI 2)])).length) Slot.unset).toArray = ls at hl ⊢
  have hl : lv_has ls 4 [(0, .ref xo), (1, .int (nI j)), (2, .int (nI 2))] := hl
  refine lv_iload_n hx hb d_F_filterFor_0 rfl (lv_at hl 1 rfl) ?_
  refine lv_iconst (v := (nI 3)) hx hb d_F_filterFor_1 (by decide) ?_
  refine lv_imul hx hb d_F_filterFor_2 ?_
  refine tp_i (y := (nI (j * 3))) (pk_mul _ _) ?_
  refine lv_iload_n hx hb d_F_filterFor_3 rfl (lv_at hl 2 rfl) ?_
  refine lv_iadd hx hb d_F_filterFor_4 ?_
  refine tp_i (y := (nI (j * 3 + 2))) (nI_add _ _) ?_
  refine lv_iconst (v := (nI 1)) hx hb d_F_filterFor_5 (by decide) ?_
  refine lv_isub hx hb d_F_filterFor_6 ?_
  refine tp_i (y := (nI (j * 3 + 2 - 1))) (pk_sub (by omega)) ?_
  refine lv_istore_n (lv' := [(3, .int (nI (j * 3 + 2 - 1))), (0, .ref xo), (1, .int (nI j)), (2, .int (nI 2))]) hx hb d_F_filterFor_7 rfl hl (by decide) rfl (fun ls hl => ?_)
  refine lv_aload_n hx hb d_F_filterFor_8 rfl (lv_at hl 1 rfl) ?_
  refine va_get (D := D) (ci := 3) (v := .ref ma) (C := R_F) (T := T_F) (N := 2) hx hb (us_F G hW) (fun _ h => h) hown hK hP 0 rfl rfl 1 (by decide) (fl_F_15 G hW) (fun _ h9 => h9) rfl d_F_filterFor_9 ?_
  refine lv_iload_n hx hb d_F_filterFor_12 rfl (lv_at hl 0 rfl) ?_
  refine qa_ld hx hb hK hP 2 (j := (j * 3 + 2 - 1)) rfl (by omega) (by decide) d_F_filterFor_13 ?_
  refine tp_v (y := .null) (by rw [hmk]; rfl) ?_
  refine lv_ifnonnullN hx hb d_F_filterFor_14 ?_
  refine lv_aload_n hx hb d_F_filterFor_17 rfl (lv_at hl 1 rfl) ?_
  refine va_get (D := D) (ci := 3) (v := .ref ma) (C := R_F) (T := T_F) (N := 2) hx hb (us_F G hW) (fun _ h => h) hown hK hP 0 rfl rfl 1 (by decide) (fl_F_15 G hW) (fun _ h9 => h9) rfl d_F_filterFor_18 ?_
  refine lv_iload_n hx hb d_F_filterFor_21 rfl (lv_at hl 0 rfl) ?_
  refine lv_iload_n hx hb d_F_filterFor_22 rfl (lv_at hl 3 rfl) ?_
  have hP0 := hP
  refine mx_callG (c_F_newFilter_B G) hW (iv_F_filterFor_23 G hx hb hown hW [.int (nI 2)] [.int (nI (j * 3 + 2 - 1)), .ref ma] rfl) hml hl.1 (by rw [hb]; exact d_F_filterFor_23) (cd_F_newFilter G hW) ⟨Nat.le_of_ble_eq_true rfl, Nat.le_of_ble_eq_true rfl⟩ (Nat.le_of_ble_eq_true rfl) (Nat.le_of_ble_eq_true rfl) (Nat.le_of_ble_eq_true rfl) hS (Aa.mono (fun _ h => nomatch h) hS.1) (fun q H1 h9 => by obtain ⟨_, _, _, h8, _⟩ := h9; cases h8) (fun v9 H1 locs hq hsz hkp hS => ?_)
  obtain ⟨h, h1, h2, e9, hP2, hD2⟩ := hq
  cases e9
  have hP := va_P.app (hP.ext (fun z hz => hkp z hz (fun h9 => h9.elim (fun h8 => nomatch h8) (fun h8 => absurd hz (Nat.not_lt.mpr h8))))) hP2
  have hD := va_D.app2 hD hP0 (va_Dm hD2 (fun q h9 => h9.elim (fun h8 => nomatch h8) id))
  have hDn := va_Dm hD2 (A2 := fun q => H0.size ≤ q) (fun q h9 => h9.elim (fun h8 => nomatch h8) id)
  refine W.eq (g2 := F0 m 26 ls [.ref h, .int (nI (j * 3 + 2 - 1)), .ref ma]) rfl ?_
  have hP : va_P D vcl [(xo, .inr (3, [.ref fa, .ref ma])), (fa, aQ cF 4 fi), (ma, aQ cF 12 mk), (h, .inr (1, [.int 0, .int 0, .int 0, .ref h1, .ref h2, .int 0])), (h1, aN cI 1024 (fun _ => 0)), (h2, aN cI 64 (fun _ => 0))] H1 := hP
  have hD : va_D (Aa [xo, fa, ma] H0.size) [(xo, .inr (3, [.ref fa, .ref ma])), (fa, aQ cF 4 fi), (ma, aQ cF 12 mk), (h, .inr (1, [.int 0, .int 0, .int 0, .ref h1, .ref h2, .int 0])), (h1, aN cI 1024 (fun _ => 0)), (h2, aN cI 64 (fun _ => 0))] := hD
  refine qa_st hx hb hK hP hD hS 2 3 1 (j := (j * 3 + 2 - 1)) rfl (ca_B G hW) rfl rfl (by omega) (by decide) d_F_filterFor_26 (fun H locs hP hD hS => ?_)
  have hP : va_P D vcl [(xo, .inr (3, [.ref fa, .ref ma])), (fa, aQ cF 4 fi), (ma, aQ cF 12 (va_up mk (j * 3 + 2 - 1) (some h))), (h, .inr (1, [.int 0, .int 0, .int 0, .ref h1, .ref h2, .int 0])), (h1, aN cI 1024 (fun _ => 0)), (h2, aN cI 64 (fun _ => 0))] H := hP
  have hD : va_D (Aa [xo, fa, ma] H0.size) [(xo, .inr (3, [.ref fa, .ref ma])), (fa, aQ cF 4 fi), (ma, aQ cF 12 (va_up mk (j * 3 + 2 - 1) (some h))), (h, .inr (1, [.int 0, .int 0, .int 0, .ref h1, .ref h2, .int 0])), (h1, aN cI 1024 (fun _ => 0)), (h2, aN cI 64 (fun _ => 0))] := hD
  refine lv_aload_n hx hb d_F_filterFor_27 rfl (lv_at hl 1 rfl) ?_
  refine va_get (D := D) (ci := 3) (v := .ref ma) (C := R_F) (T := T_F) (N := 2) hx hb (us_F G hW) (fun _ h => h) hown hK hP 0 rfl rfl 1 (by decide) (fl_F_15 G hW) (fun _ h9 => h9) rfl d_F_filterFor_28 ?_
  refine lv_iload_n hx hb d_F_filterFor_31 rfl (lv_at hl 0 rfl) ?_
  refine qa_ld hx hb hK hP 2 (j := (j * 3 + 2 - 1)) rfl (by omega) (by decide) d_F_filterFor_32 ?_
  refine tp_v (y := .ref h) (by rw [va_up_self]; rfl) ?_
  exact mx_aret hx hb hr (Or.inl ⟨_, rfl⟩) hlk d_F_filterFor_33 (Nat.le_of_ble_eq_true rfl) (Nat.le_of_ble_eq_true rfl) hS.2.2 (Or.inr ⟨_, rfl⟩) (⟨h, h1, h2, rfl, hP, hD, va_D.same2 [h, h1, h2] hDn rfl rfl⟩)

set_option maxHeartbeats 4000000 in
set_option maxRecDepth 100000 in
theorem c_F_filterFor_R_old {l : Launch} {s0 : State} {D : va_G} {cI cF cJ : ClassId} (G : Gx l s0 D cI cF cJ) (xo fa ma : Nat) (fi mk : Nat → Option Nat) (j h : Nat) {H0 : Heap} (hP : va_P D vcl [(xo, .inr (3, [.ref fa, .ref ma])), (fa, aQ cF 4 fi), (ma, aQ cF 12 mk)] H0) (hj : j < 4) (hmk : mk (j * 3 + 3 - 1) = some h) : Mx l s0 y_F_filterFor (.code y_F_filterFor b_F_filterFor 4 (some (.object "FewBits$Filter"))) { frames := 0, cells := 0, slots := 0, locals := 0 } [.ref xo, .int (nI j), .int (nI 3)] H0 (fun _ => False) (Rd H0 (.ref h)) := by
  refine Mx.ofW (own := "FewBits") rfl rfl ?_
  rintro p e s m below meth c ⟨hx, hb, hml, hr, hown, hW, hlk⟩ hnm het hH
  have hK := G.k hW
  have hl := lv_entry ([.ref xo, .int (nI j), .int (nI 3)]) (n := 4) (Nat.le_of_ble_eq_true rfl)
  rw [lg_entry_eq]
  generalize (lg_sl ([.ref xo, .int (nI j), .int (nI 3)]) ++ List.replicate (4 - (lg_sl ([.ref xo, .int (nI j), .int (nI 3)])).length) Slot.unset).toArray = ls at hl ⊢
  have hl : lv_has ls 4 [(0, .ref xo), (1, .int (nI j)), (2, .int (nI 3))] := hl
  refine lv_iload_n hx hb d_F_filterFor_0 rfl (lv_at hl 1 rfl) ?_
  refine lv_iconst (v := (nI 3)) hx hb d_F_filterFor_1 (by decide) ?_
  refine lv_imul hx hb d_F_filterFor_2 ?_
  refine tp_i (y := (nI (j * 3))) (pk_mul _ _) ?_
  refine lv_iload_n hx hb d_F_filterFor_3 rfl (lv_at hl 2 rfl) ?_
  refine lv_iadd hx hb d_F_filterFor_4 ?_
  refine tp_i (y := (nI (j * 3 + 3))) (nI_add _ _) ?_
  refine lv_iconst (v := (nI 1)) hx hb d_F_filterFor_5 (by decide) ?_
  refine lv_isub hx hb d_F_filterFor_6 ?_
  refine tp_i (y := (nI (j * 3 + 3 - 1))) (pk_sub (by omega)) ?_
  refine lv_istore_n (lv' := [(3, .int (nI (j * 3 + 3 - 1))), (0, .ref xo), (1, .int (nI j)), (2, .int (nI 3))]) hx hb d_F_filterFor_7 rfl hl (by decide) rfl (fun ls hl => ?_)
  refine lv_aload_n hx hb d_F_filterFor_8 rfl (lv_at hl 1 rfl) ?_
  refine va_get (D := D) (ci := 3) (v := .ref ma) (C := R_F) (T := T_F) (N := 2) hx hb (us_F G hW) (fun _ h => h) hown hK hP 0 rfl rfl 1 (by decide) (fl_F_15 G hW) (fun _ h9 => h9) rfl d_F_filterFor_9 ?_
  refine lv_iload_n hx hb d_F_filterFor_12 rfl (lv_at hl 0 rfl) ?_
  refine qa_ld hx hb hK hP 2 (j := (j * 3 + 3 - 1)) rfl (by omega) (by decide) d_F_filterFor_13 ?_
  refine tp_v (y := .ref h) (by rw [hmk]; rfl) ?_
  refine lv_ifnonnull (tgt := 27) hx hb d_F_filterFor_14 (by decide) ?_
  refine lv_aload_n hx hb d_F_filterFor_27 rfl (lv_at hl 1 rfl) ?_
  refine va_get (D := D) (ci := 3) (v := .ref ma) (C := R_F) (T := T_F) (N := 2) hx hb (us_F G hW) (fun _ h => h) hown hK hP 0 rfl rfl 1 (by decide) (fl_F_15 G hW) (fun _ h9 => h9) rfl d_F_filterFor_28 ?_
  refine lv_iload_n hx hb d_F_filterFor_31 rfl (lv_at hl 0 rfl) ?_
  refine qa_ld hx hb hK hP 2 (j := (j * 3 + 3 - 1)) rfl (by omega) (by decide) d_F_filterFor_32 ?_
  refine tp_v (y := .ref h) (by rw [hmk]; rfl) ?_
  exact mx_aret hx hb hr (Or.inl ⟨_, rfl⟩) hlk d_F_filterFor_33 (Nat.le_of_ble_eq_true rfl) (Nat.le_of_ble_eq_true rfl) (fun _ h => nomatch h) (Or.inr ⟨_, rfl⟩) (⟨rfl, rfl⟩)

set_option maxHeartbeats 4000000 in
set_option maxRecDepth 100000 in
theorem c_F_filterFor_R_new {l : Launch} {s0 : State} {D : va_G} {cI cF cJ : ClassId} (G : Gx l s0 D cI cF cJ) (xo fa ma : Nat) (fi mk : Nat → Option Nat) (j : Nat) {H0 : Heap} {A0 : Nat → Prop} (hP : va_P D vcl [(xo, .inr (3, [.ref fa, .ref ma])), (fa, aQ cF 4 fi), (ma, aQ cF 12 mk)] H0) (hD : va_D A0 [(xo, .inr (3, [.ref fa, .ref ma])), (fa, aQ cF 4 fi), (ma, aQ cF 12 mk)]) (hj : j < 4) (hmk : mk (j * 3 + 3 - 1) = none) : Mx l s0 y_F_filterFor (.code y_F_filterFor b_F_filterFor 4 (some (.object "FewBits$Filter"))) { frames := 4, cells := 3, slots := 517, locals := 72 } [.ref xo, .int (nI j), .int (nI 3)] H0 (Aa [xo, fa, ma] H0.size) (fun o H1 => ∃ h h1 h2 : Nat, o = .returned (some (.ref h)) ∧ va_P D vcl [(xo, .inr (3, [.ref fa, .ref ma])), (fa, aQ cF 4 fi), (ma, aQ cF 12 (va_up mk (j * 3 + 3 - 1) (some h))), (h, .inr (2, [.int 0, .int 0, .int 0, .ref h1, .ref h2])), (h1, aN cI 256 (fun _ => 0)), (h2, aN cI 256 (fun _ => 0))] H1 ∧ va_D (Aa [xo, fa, ma] H0.size) [(xo, .inr (3, [.ref fa, .ref ma])), (fa, aQ cF 4 fi), (ma, aQ cF 12 (va_up mk (j * 3 + 3 - 1) (some h))), (h, .inr (2, [.int 0, .int 0, .int 0, .ref h1, .ref h2])), (h1, aN cI 256 (fun _ => 0)), (h2, aN cI 256 (fun _ => 0))] ∧ va_D (fun q => H0.size ≤ q) [(h, .inr (2, [.int 0, .int 0, .int 0, .ref h1, .ref h2])), (h1, aN cI 256 (fun _ => 0)), (h2, aN cI 256 (fun _ => 0))]) := by
  refine Mx.ofW (own := "FewBits") rfl rfl ?_
  rintro p e s m below meth c ⟨hx, hb, hml, hr, hown, hW, hlk⟩ hnm het hH
  have hK := G.k hW
  have hD := hD.aa (sz := H0.size)
  have hD : va_D (Aa [xo, fa, ma] H0.size) [(xo, .inr (3, [.ref fa, .ref ma])), (fa, aQ cF 4 fi), (ma, aQ cF 12 mk)] := hD
  have hS : va_S (Aa [xo, fa, ma] H0.size) H0 H0 [] := va_S.rf
  have hl := lv_entry ([.ref xo, .int (nI j), .int (nI 3)]) (n := 4) (Nat.le_of_ble_eq_true rfl)
  rw [lg_entry_eq]
  generalize (lg_sl ([.ref xo, .int (nI j), .int (nI 3)]) ++ List.replicate (4 - (lg_sl ([.ref xo, .int (nI j), .int (nI 3)])).length) Slot.unset).toArray = ls at hl ⊢
  have hl : lv_has ls 4 [(0, .ref xo), (1, .int (nI j)), (2, .int (nI 3))] := hl
  refine lv_iload_n hx hb d_F_filterFor_0 rfl (lv_at hl 1 rfl) ?_
  refine lv_iconst (v := (nI 3)) hx hb d_F_filterFor_1 (by decide) ?_
  refine lv_imul hx hb d_F_filterFor_2 ?_
  refine tp_i (y := (nI (j * 3))) (pk_mul _ _) ?_
  refine lv_iload_n hx hb d_F_filterFor_3 rfl (lv_at hl 2 rfl) ?_
  refine lv_iadd hx hb d_F_filterFor_4 ?_
  refine tp_i (y := (nI (j * 3 + 3))) (nI_add _ _) ?_
  refine lv_iconst (v := (nI 1)) hx hb d_F_filterFor_5 (by decide) ?_
  refine lv_isub hx hb d_F_filterFor_6 ?_
  refine tp_i (y := (nI (j * 3 + 3 - 1))) (pk_sub (by omega)) ?_
  refine lv_istore_n (lv' := [(3, .int (nI (j * 3 + 3 - 1))), (0, .ref xo), (1, .int (nI j)), (2, .int (nI 3))]) hx hb d_F_filterFor_7 rfl hl (by decide) rfl (fun ls hl => ?_)
  refine lv_aload_n hx hb d_F_filterFor_8 rfl (lv_at hl 1 rfl) ?_
  refine va_get (D := D) (ci := 3) (v := .ref ma) (C := R_F) (T := T_F) (N := 2) hx hb (us_F G hW) (fun _ h => h) hown hK hP 0 rfl rfl 1 (by decide) (fl_F_15 G hW) (fun _ h9 => h9) rfl d_F_filterFor_9 ?_
  refine lv_iload_n hx hb d_F_filterFor_12 rfl (lv_at hl 0 rfl) ?_
  refine qa_ld hx hb hK hP 2 (j := (j * 3 + 3 - 1)) rfl (by omega) (by decide) d_F_filterFor_13 ?_
  refine tp_v (y := .null) (by rw [hmk]; rfl) ?_
  refine lv_ifnonnullN hx hb d_F_filterFor_14 ?_
  refine lv_aload_n hx hb d_F_filterFor_17 rfl (lv_at hl 1 rfl) ?_
  refine va_get (D := D) (ci := 3) (v := .ref ma) (C := R_F) (T := T_F) (N := 2) hx hb (us_F G hW) (fun _ h => h) hown hK hP 0 rfl rfl 1 (by decide) (fl_F_15 G hW) (fun _ h9 => h9) rfl d_F_filterFor_18 ?_
  refine lv_iload_n hx hb d_F_filterFor_21 rfl (lv_at hl 0 rfl) ?_
  refine lv_iload_n hx hb d_F_filterFor_22 rfl (lv_at hl 3 rfl) ?_
  have hP0 := hP
  refine mx_callG (c_F_newFilter_R G) hW (iv_F_filterFor_23 G hx hb hown hW [.int (nI 3)] [.int (nI (j * 3 + 3 - 1)), .ref ma] rfl) hml hl.1 (by rw [hb]; exact d_F_filterFor_23) (cd_F_newFilter G hW) ⟨Nat.le_of_ble_eq_true rfl, Nat.le_of_ble_eq_true rfl⟩ (Nat.le_of_ble_eq_true rfl) (Nat.le_of_ble_eq_true rfl) (Nat.le_of_ble_eq_true rfl) hS (Aa.mono (fun _ h => nomatch h) hS.1) (fun q H1 h9 => by obtain ⟨_, _, _, h8, _⟩ := h9; cases h8) (fun v9 H1 locs hq hsz hkp hS => ?_)
  obtain ⟨h, h1, h2, e9, hP2, hD2⟩ := hq
  cases e9
  have hP := va_P.app (hP.ext (fun z hz => hkp z hz (fun h9 => h9.elim (fun h8 => nomatch h8) (fun h8 => absurd hz (Nat.not_lt.mpr h8))))) hP2
  have hD := va_D.app2 hD hP0 (va_Dm hD2 (fun q h9 => h9.elim (fun h8 => nomatch h8) id))
  have hDn := va_Dm hD2 (A2 := fun q => H0.size ≤ q) (fun q h9 => h9.elim (fun h8 => nomatch h8) id)
  refine W.eq (g2 := F0 m 26 ls [.ref h, .int (nI (j * 3 + 3 - 1)), .ref ma]) rfl ?_
  have hP : va_P D vcl [(xo, .inr (3, [.ref fa, .ref ma])), (fa, aQ cF 4 fi), (ma, aQ cF 12 mk), (h, .inr (2, [.int 0, .int 0, .int 0, .ref h1, .ref h2])), (h1, aN cI 256 (fun _ => 0)), (h2, aN cI 256 (fun _ => 0))] H1 := hP
  have hD : va_D (Aa [xo, fa, ma] H0.size) [(xo, .inr (3, [.ref fa, .ref ma])), (fa, aQ cF 4 fi), (ma, aQ cF 12 mk), (h, .inr (2, [.int 0, .int 0, .int 0, .ref h1, .ref h2])), (h1, aN cI 256 (fun _ => 0)), (h2, aN cI 256 (fun _ => 0))] := hD
  refine qa_st hx hb hK hP hD hS 2 3 2 (j := (j * 3 + 3 - 1)) rfl (ca_R G hW) rfl rfl (by omega) (by decide) d_F_filterFor_26 (fun H locs hP hD hS => ?_)
  have hP : va_P D vcl [(xo, .inr (3, [.ref fa, .ref ma])), (fa, aQ cF 4 fi), (ma, aQ cF 12 (va_up mk (j * 3 + 3 - 1) (some h))), (h, .inr (2, [.int 0, .int 0, .int 0, .ref h1, .ref h2])), (h1, aN cI 256 (fun _ => 0)), (h2, aN cI 256 (fun _ => 0))] H := hP
  have hD : va_D (Aa [xo, fa, ma] H0.size) [(xo, .inr (3, [.ref fa, .ref ma])), (fa, aQ cF 4 fi), (ma, aQ cF 12 (va_up mk (j * 3 + 3 - 1) (some h))), (h, .inr (2, [.int 0, .int 0, .int 0, .ref h1, .ref h2])), (h1, aN cI 256 (fun _ => 0)), (h2, aN cI 256 (fun _ => 0))] := hD
  refine lv_aload_n hx hb d_F_filterFor_27 rfl (lv_at hl 1 rfl) ?_
  refine va_get (D := D) (ci := 3) (v := .ref ma) (C := R_F) (T := T_F) (N := 2) hx hb (us_F G hW) (fun _ h => h) hown hK hP 0 rfl rfl 1 (by decide) (fl_F_15 G hW) (fun _ h9 => h9) rfl d_F_filterFor_28 ?_
  refine lv_iload_n hx hb d_F_filterFor_31 rfl (lv_at hl 0 rfl) ?_
  refine qa_ld hx hb hK hP 2 (j := (j * 3 + 3 - 1)) rfl (by omega) (by decide) d_F_filterFor_32 ?_
  refine tp_v (y := .ref h) (by rw [va_up_self]; rfl) ?_
  exact mx_aret hx hb hr (Or.inl ⟨_, rfl⟩) hlk d_F_filterFor_33 (Nat.le_of_ble_eq_true rfl) (Nat.le_of_ble_eq_true rfl) hS.2.2 (Or.inr ⟨_, rfl⟩) (⟨h, h1, h2, rfl, hP, hD, va_D.same2 [h, h1, h2] hDn rfl rfl⟩)
