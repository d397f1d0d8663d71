theorem aI_congr {D : va_G} {ws : va_W} {H : Heap} {q a n : Nat} {cI : ClassId} {f g : Nat → Int32} (hP : va_P D vcl (ws.set q (a, aI cI n f)) H) (h : ∀ j, j < n → f j = g j) : va_P D vcl (ws.set q (a, aI cI n g)) H := by
  have e : vp_cell cI (n, .inl f) = vp_cell cI (n, .inl g) := by
    rw [vp_cell_i, vp_cell_i]
    unfold arrV
    congr 1
    refine congrArg _ ?_
    funext j
    exact congrArg Value.int (h j.val j.isLt)
  intro k x hx
  by_cases hk : k = q
  · subst hk
    rw [List.getElem?_set] at hx
    split at hx
    · split at hx
      · cases hx
        have h1 := hP k (a, aI cI n f) (by rw [List.getElem?_set]; simp_all)
        show H[a]? = some (vp_cell cI (n, .inl g))
        rw [← e]
        exact h1
      · cases hx
    · rename_i h9; exact absurd rfl h9
  · have h2 : (ws.set q (a, aI cI n f))[k]? = some x := by
      rw [List.getElem?_set_ne (fun h9 => hk h9.symm)] at hx ⊢
      exact hx
    exact hP k x h2
set_option maxHeartbeats 4000000 in
set_option maxRecDepth 100000 in
/-- Arrays.fill(int[], int): every cell holds v -/
theorem c_A_fill {l : Launch} {s0 : State} {D : va_G} {cI cF cJ : ClassId} (G : Gx l s0 D cI cF cJ) (ws : va_W) (q0 a n : Nat) (f : Nat → Int32) (v : Int32) {H0 : Heap} {A0 : Nat → Prop} (hP : va_P D vcl ws H0) (hD : va_D A0 ws) (hq : ws[q0]? = some (a, aI cI n f)) (hn : n < 2 ^ 31) :
    Mx l s0 y_A_fill (.code y_A_fill b_A_fill 4 none) { frames := 0, cells := 0, slots := 0, locals := 0 } [.ref a, .int v] H0 (Aa (ws.map (·.1)) H0.size) (Rn (fun H1 => va_P D vcl (ws.set q0 (a, aI cI n (fun _ => v))) H1)) := by
  refine Mx.ofW (own := "java/util/Arrays") rfl rfl ?_
  rintro p e s m below meth c ⟨hx, hb, hml, hr, hown, hW, hlk⟩ hnm het hH
  have hK := G.k hW
  have hD := hD.aa (sz := H0.size)
  have hS : va_S (Aa (ws.map (·.1)) H0.size) H0 H0 [] := va_S.rf
  have hq1 : q0 < ws.length := (List.getElem?_eq_some_iff.mp hq).1
  have hl := lv_entry ([.ref a, .int v]) (n := 4) (Nat.le_of_ble_eq_true rfl)
  rw [lg_entry_eq]
  generalize (lg_sl ([.ref a, .int v]) ++ List.replicate (4 - (lg_sl ([.ref a, .int v])).length) Slot.unset).toArray = ls at hl ⊢
  have hl : lv_has ls 4 [(0, .ref a), (1, .int v)] := hl
  refine lv_iconst (v := (nI 0)) hx hb d_A_fill_0 (by decide) ?_
  refine lv_istore_n (lv' := [(2, .int (nI 0)), (0, .ref a), (1, .int v)]) hx hb d_A_fill_1 rfl hl (by decide) rfl (fun ls hl => ?_)
  refine lv_aload_n hx hb d_A_fill_2 rfl (lv_at hl 1 rfl) ?_
  refine va_alen (v := nI n) hx hb hK hP q0 0 hq rfl rfl d_A_fill_3 ?_
  refine lv_istore_n (lv' := [(3, .int (nI n)), (2, .int (nI 0)), (0, .ref a), (1, .int v)]) hx hb d_A_fill_4 rfl hl (by decide) rfl (fun ls hl => ?_)
  have hw0 : ws.set q0 (a, aI cI n (fun j => if j < 0 then v else f j)) = ws := by
    have e : (fun j => if j < 0 then v else f j) = f := by funext j; simp
    rw [e]
    apply List.ext_getElem?
    intro k
    rw [List.getElem?_set]
    split
    · rename_i h1
      subst h1
      exact hq.symm
    · rfl
  have loop : ∀ (k i : Nat), i + k = n → ∀ (H : Heap) (locs : List Loc), va_P D vcl (ws.set q0 (a, aI cI n (fun j => if j < i then v else f j))) H → va_D (Aa (ws.map (·.1)) H0.size) (ws.set q0 (a, aI cI n (fun j => if j < i then v else f j))) → va_S (Aa (ws.map (·.1)) H0.size) H0 H locs → ∀ (ls : Array Slot), lv_has ls 4 [(3, .int (nI n)), (2, .int (nI i)), (0, .ref a), (1, .int v)] →
      W p l e { frames := 0, cells := 0, slots := 0, locals := 0 } s m ([.ref a, .int v] : List Value).toArray below meth c H locs 0 0 (MQx below (Rn (fun H1 => va_P D vcl (ws.set q0 (a, aI cI n (fun _ => v))) H1)) s 0 0 (Aa (ws.map (·.1)) H0.size)) (F0 m 5 ls []) := by
    intro k
    induction k with
    | zero =>
      intro i hk H locs hP hD hS ls hl
      refine lv_iload_n hx hb d_A_fill_5 rfl (lv_at hl 1 rfl) ?_
      refine lv_iload_n hx hb d_A_fill_6 rfl (lv_at hl 0 rfl) ?_
      refine lv_icmp_ge (tgt := 20) hx hb d_A_fill_7 (by decide) (fun c_7 => ?_) (fun c_7 => absurd (nI_le (by omega) (by omega)) c_7)
      exact mx_vret hx hb hr hlk d_A_fill_20 (Nat.le_of_ble_eq_true rfl) (Nat.le_of_ble_eq_true rfl) hS.2.2 ⟨rfl, aI_congr hP (fun j hj => by rw [if_pos (by omega)])⟩
    | succ k ih =>
      intro i hk H locs hP hD hS ls hl
      refine lv_iload_n hx hb d_A_fill_5 rfl (lv_at hl 1 rfl) ?_
      refine lv_iload_n hx hb d_A_fill_6 rfl (lv_at hl 0 rfl) ?_
      refine lv_icmp_ge (tgt := 20) hx hb d_A_fill_7 (by decide) (fun c_7 => absurd c_7 (nI_ge (by omega) (by omega))) (fun c_7 => ?_)
      refine lv_aload_n hx hb d_A_fill_10 rfl (lv_at hl 2 rfl) ?_
      refine lv_iload_n hx hb d_A_fill_11 rfl (lv_at hl 1 rfl) ?_
      refine lv_iload_n hx hb d_A_fill_12 rfl (lv_at hl 3 rfl) ?_
      refine ia_st hx hb hK hP hD hS q0 (j := i) (by rw [List.getElem?_set_self hq1]) (by omega) hn d_A_fill_13 (fun H locs hP hD hS => ?_)
      rw [List.set_set] at hP hD
      have e : upd (fun j => if j < i then v else f j) i v = fun j => if j < i + 1 then v else f j := by
        funext j
        unfold upd
        by_cases h1 : j = i
        · subst h1; simp
        · by_cases h2 : j < i
          · simp [h1, h2, show j < i + 1 by omega]
          · simp [h1, h2, show ¬ j < i + 1 by omega]
      rw [e] at hP hD
      refine lv_iinc (v := (nI (i + 1))) (lv' := [(2, .int (nI (i + 1))), (3, .int (nI n)), (0, .ref a), (1, .int v)]) hx hb d_A_fill_14 hl (k := 1) rfl (nI_1 _) (by decide) rfl (fun ls hl => ?_)
      refine lv_goto (tgt := 5) hx hb d_A_fill_17 (by decide) ?_
      exact ih (i + 1) (by omega) H locs hP hD hS ls (lv_sub hl [1, 0, 2, 3] rfl)
  exact loop n 0 (by omega) H0 [] (by rw [hw0]; exact hP) (by rw [hw0]; exact hD) hS ls hl
