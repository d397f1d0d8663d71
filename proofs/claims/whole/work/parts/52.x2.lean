/-- a figure made or begun anew -/
theorem PX.newO {D : va_G} {cI cF : ClassId} {xo fa ma : Nat} {t t2 : Nat → Nat} {S : Nat → FS} {H H1 : Heap} {fi mk : Nat → Option Nat} {O : Nat → Option (Nat × FS)} (h1 : ∀ k, k < 12 → mk k = (O k).map (·.1)) (h2 : ∀ k h T, k < 12 → O k = some (h, T) → k % 3 + 1 = T.1 ∧ obK D cI t (2 + k) h T H)
    (h3 : ∀ j, j < 4 → ((S j).1 = 0 ∧ fi j = none) ∨ ∃ h, (S j).1 ≠ 0 ∧ (S j).1 ≤ 3 ∧ O (kx j (S j).1) = some (h, S j) ∧ fi j = some h) {j kd h : Nat} {T : FS} (hj : j < 4) (hk0 : kd ≠ 0) (hk3 : kd ≤ 3) (hT : T.1 = kd)
    (hP1 : va_P D vcl [(xo, .inr (3, [.ref fa, .ref ma])), (fa, aQ cF 4 (va_up fi j (some h))), (ma, aQ cF 12 (va_up mk (kx j kd) (some h)))] H1) (hD1 : va_D (fun q => t2 q = 1) [(xo, .inr (3, [.ref fa, .ref ma])), (fa, aQ cF 4 (va_up fi j (some h))), (ma, aQ cF 12 (va_up mk (kx j kd) (some h)))]) (ho : obK D cI t2 (2 + kx j kd) h T H1) (ht : ∀ q : Nat, q < H.size → t2 q = t q) (hk : ∀ q : Nat, q < H.size → t q ≠ 1 → t q ≠ 2 + kx j kd → H1[q]? = H[q]?) : PX D cI cF xo fa ma t2 (va_up S j T) H1 := by
  refine ⟨_, _, va_up O (kx j kd) (some (h, T)), hP1, hD1, fun k hk9 => ?_, fun k h' T' hk9 hO => ?_, fun i hi => ?_⟩
  · by_cases e : k = kx j kd
    · subst e; rw [va_up_self, va_up_self]; rfl
    · rw [va_up_ne _ _ e, va_up_ne _ _ e]; exact h1 k hk9
  · by_cases e : k = kx j kd
    · subst e
      rw [va_up_self] at hO
      cases hO
      exact ⟨by rw [hT]; exact kx_mod hk0 hk3, ho⟩
    · rw [va_up_ne _ _ e] at hO
      obtain ⟨a1, a2⟩ := h2 k h' T' hk9 hO
      exact ⟨a1, a2.keep (fun q hq hg => hk q hq (by omega) (by omega)) ht⟩
  · by_cases e : i = j
    · subst e
      refine Or.inr ⟨h, ?_, ?_, ?_, ?_⟩
      · rw [va_up_self, hT]; exact hk0
      · rw [va_up_self, hT]; exact hk3
      · rw [va_up_self, hT, va_up_self]
      · rw [va_up_self]
    · rw [va_up_ne _ _ e, va_up_ne _ _ e]
      rcases h3 i hi with h | ⟨h', a1, a2, a3, a4⟩
      · exact Or.inl h
      · exact Or.inr ⟨h', a1, a2, by rw [va_up_ne _ _ (fun h9 => e (kx_inj a1 hk0 a2 hk3 h9).1)]; exact a3, a4⟩

theorem x_make_no {l : Launch} {s0 : State} {D : va_G} {cI cF cJ : ClassId} (G : Gx l s0 D cI cF cJ) (v k9 a b : Int32) (xo fa ma : Nat) (t : Nat → Nat) (S : Nat → FS) {H : Heap} (hX : PX D cI cF xo fa ma t S H) (hok : ∀ i, i < 4 → okS (S i)) (hon : onS s0 H) (ht0 : ∀ q, q < s0.heap.size → t q = 0) (hts : ∀ q, H.size ≤ q → t q ≤ 13) (v9 : Option Value) (hv : isNum v = false) : Mx l s0 y_F_make (.code y_F_make b_F_make 6 none) { frames := 8, cells := 4, slots := 1094, locals := 180 } [.ref xo, .int v, .int k9, .int a, .int b] H (FX t H.size) (Rq s0 (some E_I) v9 (fun H1 => PXn D cI cF xo fa ma t H.size S H1)) := by
  have hX0 := hX
  obtain ⟨fi, mk, O, hP, hD, -, -, h3⟩ := hX0
  exact Mx.mono (c_F_make_no G xo fa ma fi mk v k9 a b hP hv hon) (Nat.le_of_ble_eq_true rfl) (Nat.le_of_ble_eq_true rfl) (Nat.le_of_ble_eq_true rfl) (Nat.le_of_ble_eq_true rfl) (fun _ h => h.elim) (fun o H1 hz hk hq => ⟨hq.1, (hX.same (fun q h9 _ _ => hk q h9 (fun h => h))).n hts⟩)

theorem x_make_bad {l : Launch} {s0 : State} {D : va_G} {cI cF cJ : ClassId} (G : Gx l s0 D cI cF cJ) (j : Nat) (k9 a b : Int32) (xo fa ma : Nat) (t : Nat → Nat) (S : Nat → FS) {H : Heap} (hX : PX D cI cF xo fa ma t S H) (hok : ∀ i, i < 4 → okS (S i)) (hon : onS s0 H) (ht0 : ∀ q, q < s0.heap.size → t q = 0) (hts : ∀ q, H.size ≤ q → t q ≤ 13) (v9 : Option Value) (hj : j < 4) (hm9 : mbS k9 a b = false) : Mx l s0 y_F_make (.code y_F_make b_F_make 6 none) { frames := 8, cells := 4, slots := 1094, locals := 180 } [.ref xo, .int (nI j), .int k9, .int a, .int b] H (FX t H.size) (Rq s0 (some E_A) v9 (fun H1 => PXn D cI cF xo fa ma t H.size S H1)) := by
  have hX0 := hX
  obtain ⟨fi, mk, O, hP, hD, -, -, h3⟩ := hX0
  exact Mx.mono (c_F_make_bad G xo fa ma fi mk j k9 a b hP hj hm9 hon) (Nat.le_of_ble_eq_true rfl) (Nat.le_of_ble_eq_true rfl) (Nat.le_of_ble_eq_true rfl) (Nat.le_of_ble_eq_true rfl) (fun _ h => h.elim) (fun o H1 hz hk hq => ⟨hq.1, (hX.same (fun q h9 _ _ => hk q h9 (fun h => h))).n hts⟩)

theorem x_make_C {l : Launch} {s0 : State} {D : va_G} {cI cF cJ : ClassId} (G : Gx l s0 D cI cF cJ) (j A B : Nat) (xo fa ma : Nat) (t : Nat → Nat) (S : Nat → FS) {H : Heap} (hX : PX D cI cF xo fa ma t S H) (hok : ∀ i, i < 4 → okS (S i)) (hon : onS s0 H) (ht0 : ∀ q, q < s0.heap.size → t q = 0) (hts : ∀ q, H.size ≤ q → t q ≤ 13) (hj : j < 4) (hm9 : mbS (nI 1) (nI A) (nI B) = true) : ∃ f : Nat → Nat, Mx l s0 y_F_make (.code y_F_make b_F_make 6 none) { frames := 8, cells := 4, slots := 1094, locals := 180 } [.ref xo, .int (nI j), .int (nI 1), .int (nI A), .int (nI B)] H (FX t H.size) (Rq s0 none none (fun H1 => PXn D cI cF xo fa ma t H.size (va_up S j (mkS 1 A B f)) H1)) := by
  obtain ⟨fi, mk, O, hP, hD, h1o, h2o, h3o⟩ := hX
  have hkx : kx j 1 < 12 := kx_lt hj (by decide) (by decide)
  cases hO : O (kx j 1) with
  | some r =>
    obtain ⟨h, T⟩ := r
    obtain ⟨q1, ho⟩ := h2o _ h T hkx hO
    rw [kx_mod (by decide) (by decide)] at q1
    obtain ⟨kd0, A0, B0, hd0, pv0, cs0, n0, f0⟩ := T
    have q1' : kd0 = 1 := q1.symm
    subst q1'
    have hmk : mk (kx j 1) = some h := by rw [h1o _ hkx, hO]; rfl
    rcases ho with ⟨-, h1, h2, h3, pl, pb, hPo, hDo⟩ | ⟨e9, -⟩ | ⟨e9, -⟩
    all_goals first | (cases e9; done) | skip
    skip
    have hPj := va_P.app hP hPo
    have hDj := va_D.join2 hD hDo (fun q a b => by have a9 : t q = 1 := a; have b9 : t q = 2 + kx j 1 := b; omega)
    refine ⟨fun _ => 0, Mx.mono (c_F_make_C_old G xo fa ma fi mk h h1 h2 h3 (nI A0) (nI B0) hd0 A B cs0 pl pb j hPj hDj hj hmk hm9) (Nat.le_of_ble_eq_true rfl) (Nat.le_of_ble_eq_true rfl) (Nat.le_of_ble_eq_true rfl) (Nat.le_of_ble_eq_true rfl) (FX.of (g := 0) hDj (fun q h9 => by rcases h9 with h9 | h9 <;> (have h8 : t q = _ := h9; have h7 : kx j 1 < 12 := hkx; omega))) (fun o H1 hz hk hq => ?_)⟩
    obtain ⟨hr, hw⟩ := hq
    refine ⟨hr, PX.n (PX.newO (kd := 1) h1o h2o h3o hj (by decide) (by decide) rfl (by rw [show va_up mk (kx j 1) (some h) = mk by rw [← hmk]; exact va_up_same]; exact hw.sub [0, 1, 2] rfl) (va_D.same2 [xo, fa, ma] hD rfl rfl) (Or.inl ⟨rfl, h1, h2, h3, _, _, hw.sub [3, 4, 5, 6] rfl, va_D.same2 [h, h1, h2, h3] hDo rfl rfl⟩) (fun _ _ => rfl) (fun q h9 a b => hk q h9 (notA (t := t) hDj h9 (fun h8 => h8.elim a b)))) hts⟩
  | none =>
    have hmk : mk (kx j 1) = none := by rw [h1o _ hkx, hO]; rfl
    refine ⟨fun _ => 0, Mx.mono (c_F_make_C_new G xo fa ma fi mk A B j hP hD hj hmk hm9) (Nat.le_of_ble_eq_true rfl) (Nat.le_of_ble_eq_true rfl) (Nat.le_of_ble_eq_true rfl) (Nat.le_of_ble_eq_true rfl) (FX.of (g := 0) hD (fun q h9 => by have h8 : t q = 1 := h9; omega)) (fun o H1 hz hk hq => ?_)⟩
    obtain ⟨hr, h, h1, h2, h3, hw, hDn⟩ := hq
    have ht2 : ∀ q : Nat, q < H.size → (fun q => if q < H.size then t q else 2 + kx j 1) q = t q := fun q h9 => if_pos h9
    refine ⟨hr, fun q => if q < H.size then t q else 2 + kx j 1, ht2, fun q h9 => by show (if q < H.size then t q else 2 + kx j 1) ≤ 13; rw [if_neg (by omega)]; omega, ?_⟩
    refine PX.newO (kd := 1) h1o h2o h3o hj (by decide) (by decide) rfl (hw.sub [0, 1, 2] rfl) (va_D.same2 [xo, fa, ma] (va_D.tag hP hD ht2) rfl rfl) (Or.inl ⟨rfl, h1, h2, h3, _, _, hw.sub [3, 4, 5, 6] rfl, va_D.same2 [h, h1, h2, h3] (va_Dm hDn (fun q h9 => if_neg (Nat.not_lt.mpr h9))) rfl rfl⟩) ht2 (fun q h9 a b => hk q h9 (notA (t := t) hD h9 a))

theorem x_make_B {l : Launch} {s0 : State} {D : va_G} {cI cF cJ : ClassId} (G : Gx l s0 D cI cF cJ) (j A B : Nat) (xo fa ma : Nat) (t : Nat → Nat) (S : Nat → FS) {H : Heap} (hX : PX D cI cF xo fa ma t S H) (hok : ∀ i, i < 4 → okS (S i)) (hon : onS s0 H) (ht0 : ∀ q, q < s0.heap.size → t q = 0) (hts : ∀ q, H.size ≤ q → t q ≤ 13) (hj : j < 4) (hm9 : mbS (nI 2) (nI A) (nI B) = true) : ∃ f : Nat → Nat, Mx l s0 y_F_make (.code y_F_make b_F_make 6 none) { frames := 8, cells := 4, slots := 1094, locals := 180 } [.ref xo, .int (nI j), .int (nI 2), .int (nI A), .int (nI B)] H (FX t H.size) (Rq s0 none none (fun H1 => PXn D cI cF xo fa ma t H.size (va_up S j (mkS 2 A B f)) H1)) := by
  obtain ⟨fi, mk, O, hP, hD, h1o, h2o, h3o⟩ := hX
  have hkx : kx j 2 < 12 := kx_lt hj (by decide) (by decide)
  cases hO : O (kx j 2) with
  | some r =>
    obtain ⟨h, T⟩ := r
    obtain ⟨q1, ho⟩ := h2o _ h T hkx hO
    rw [kx_mod (by decide) (by decide)] at q1
    obtain ⟨kd0, A0, B0, hd0, pv0, cs0, n0, f0⟩ := T
    have q1' : kd0 = 2 := q1.symm
    subst q1'
    have hmk : mk (kx j 2) = some h := by rw [h1o _ hkx, hO]; rfl
    rcases ho with ⟨e9, -⟩ | ⟨-, h1, h2, pt, hPo, hDo⟩ | ⟨e9, -⟩
    all_goals first | (cases e9; done) | skip
    skip
    have hPj := va_P.app hP hPo
    have hDj := va_D.join2 hD hDo (fun q a b => by have a9 : t q = 1 := a; have b9 : t q = 2 + kx j 2 := b; omega)
    refine ⟨fun _ => 0, Mx.mono (c_F_make_B_old G xo fa ma fi mk h h1 h2 (nI A0) (nI B0) hd0 pv0 A B cs0 pt j hPj hDj hj hmk hm9) (Nat.le_of_ble_eq_true rfl) (Nat.le_of_ble_eq_true rfl) (Nat.le_of_ble_eq_true rfl) (Nat.le_of_ble_eq_true rfl) (FX.of (g := 0) hDj (fun q h9 => by rcases h9 with h9 | h9 <;> (have h8 : t q = _ := h9; have h7 : kx j 2 < 12 := hkx; omega))) (fun o H1 hz hk hq => ?_)⟩
    obtain ⟨hr, hw⟩ := hq
    refine ⟨hr, PX.n (PX.newO (kd := 2) h1o h2o h3o hj (by decide) (by decide) rfl (by rw [show va_up mk (kx j 2) (some h) = mk by rw [← hmk]; exact va_up_same]; exact hw.sub [0, 1, 2] rfl) (va_D.same2 [xo, fa, ma] hD rfl rfl) (Or.inr (Or.inl ⟨rfl, h1, h2, _, hw.sub [3, 4, 5] rfl, va_D.same2 [h, h1, h2] hDo rfl rfl⟩)) (fun _ _ => rfl) (fun q h9 a b => hk q h9 (notA (t := t) hDj h9 (fun h8 => h8.elim a b)))) hts⟩
  | none =>
    have hmk : mk (kx j 2) = none := by rw [h1o _ hkx, hO]; rfl
    refine ⟨fun _ => 0, Mx.mono (c_F_make_B_new G xo fa ma fi mk A B j hP hD hj hmk hm9) (Nat.le_of_ble_eq_true rfl) (Nat.le_of_ble_eq_true rfl) (Nat.le_of_ble_eq_true rfl) (Nat.le_of_ble_eq_true rfl) (FX.of (g := 0) hD (fun q h9 => by have h8 : t q = 1 := h9; omega)) (fun o H1 hz hk hq => ?_)⟩
    obtain ⟨hr, h, h1, h2, hw, hDn⟩ := hq
    have ht2 : ∀ q : Nat, q < H.size → (fun q => if q < H.size then t q else 2 + kx j 2) q = t q := fun q h9 => if_pos h9
    refine ⟨hr, fun q => if q < H.size then t q else 2 + kx j 2, ht2, fun q h9 => by show (if q < H.size then t q else 2 + kx j 2) ≤ 13; rw [if_neg (by omega)]; omega, ?_⟩
    refine PX.newO (kd := 2) h1o h2o h3o hj (by decide) (by decide) rfl (hw.sub [0, 1, 2] rfl) (va_D.same2 [xo, fa, ma] (va_D.tag hP hD ht2) rfl rfl) (Or.inr (Or.inl ⟨rfl, h1, h2, _, hw.sub [3, 4, 5] rfl, va_D.same2 [h, h1, h2] (va_Dm hDn (fun q h9 => if_neg (Nat.not_lt.mpr h9))) rfl rfl⟩)) ht2 (fun q h9 a b => hk q h9 (notA (t := t) hD h9 a))

theorem x_make_R {l : Launch} {s0 : State} {D : va_G} {cI cF cJ : ClassId} (G : Gx l s0 D cI cF cJ) (j A B : Nat) (xo fa ma : Nat) (t : Nat → Nat) (S : Nat → FS) {H : Heap} (hX : PX D cI cF xo fa ma t S H) (hok : ∀ i, i < 4 → okS (S i)) (hon : onS s0 H) (ht0 : ∀ q, q < s0.heap.size → t q = 0) (hts : ∀ q, H.size ≤ q → t q ≤ 13) (hj : j < 4) (hm9 : mbS (nI 3) (nI A) (nI B) = true) : ∃ f : Nat → Nat, Mx l s0 y_F_make (.code y_F_make b_F_make 6 none) { frames := 8, cells := 4, slots := 1094, locals := 180 } [.ref xo, .int (nI j), .int (nI 3), .int (nI A), .int (nI B)] H (FX t H.size) (Rq s0 none none (fun H1 => PXn D cI cF xo fa ma t H.size (va_up S j (mkS 3 A B f)) H1)) := by
  obtain ⟨fi, mk, O, hP, hD, h1o, h2o, h3o⟩ := hX
  have hkx : kx j 3 < 12 := kx_lt hj (by decide) (by decide)
  cases hO : O (kx j 3) with
  | some r =>
    obtain ⟨h, T⟩ := r
    obtain ⟨q1, ho⟩ := h2o _ h T hkx hO
    rw [kx_mod (by decide) (by decide)] at q1
    obtain ⟨kd0, A0, B0, hd0, pv0, cs0, n0, f0⟩ := T
    have q1' : kd0 = 3 := q1.symm
    subst q1'
    have hmk : mk (kx j 3) = some h := by rw [h1o _ hkx, hO]; rfl
    rcases ho with ⟨e9, -⟩ | ⟨e9, -⟩ | ⟨-, e2, h1, h2, gg, hPo, hDo⟩
    all_goals first | (cases e9; done) | skip
    subst e2
    have hPj := va_P.app hP hPo
    have hDj := va_D.join2 hD hDo (fun q a b => by have a9 : t q = 1 := a; have b9 : t q = 2 + kx j 3 := b; omega)
    refine ⟨f0, Mx.mono (c_F_make_R_old G xo fa ma fi mk h h1 h2 (nI A0) (nI B0) (nI n0) A B f0 gg j hPj hDj hj hmk hm9) (Nat.le_of_ble_eq_true rfl) (Nat.le_of_ble_eq_true rfl) (Nat.le_of_ble_eq_true rfl) (Nat.le_of_ble_eq_true rfl) (FX.of (g := 0) hDj (fun q h9 => by rcases h9 with h9 | h9 <;> (have h8 : t q = _ := h9; have h7 : kx j 3 < 12 := hkx; omega))) (fun o H1 hz hk hq => ?_)⟩
    obtain ⟨hr, hw⟩ := hq
    refine ⟨hr, PX.n (PX.newO (kd := 3) h1o h2o h3o hj (by decide) (by decide) rfl (by rw [show va_up mk (kx j 3) (some h) = mk by rw [← hmk]; exact va_up_same]; exact hw.sub [0, 1, 2] rfl) (va_D.same2 [xo, fa, ma] hD rfl rfl) (Or.inr (Or.inr ⟨rfl, rfl, h1, h2, _, hw.sub [3, 4, 5] rfl, va_D.same2 [h, h1, h2] hDo rfl rfl⟩)) (fun _ _ => rfl) (fun q h9 a b => hk q h9 (notA (t := t) hDj h9 (fun h8 => h8.elim a b)))) hts⟩
  | none =>
    have hmk : mk (kx j 3) = none := by rw [h1o _ hkx, hO]; rfl
    refine ⟨fun _ => 0, Mx.mono (c_F_make_R_new G xo fa ma fi mk A B j hP hD hj hmk hm9) (Nat.le_of_ble_eq_true rfl) (Nat.le_of_ble_eq_true rfl) (Nat.le_of_ble_eq_true rfl) (Nat.le_of_ble_eq_true rfl) (FX.of (g := 0) hD (fun q h9 => by have h8 : t q = 1 := h9; omega)) (fun o H1 hz hk hq => ?_)⟩
    obtain ⟨hr, h, h1, h2, hw, hDn⟩ := hq
    have ht2 : ∀ q : Nat, q < H.size → (fun q => if q < H.size then t q else 2 + kx j 3) q = t q := fun q h9 => if_pos h9
    refine ⟨hr, fun q => if q < H.size then t q else 2 + kx j 3, ht2, fun q h9 => by show (if q < H.size then t q else 2 + kx j 3) ≤ 13; rw [if_neg (by omega)]; omega, ?_⟩
    refine PX.newO (kd := 3) h1o h2o h3o hj (by decide) (by decide) rfl (hw.sub [0, 1, 2] rfl) (va_D.same2 [xo, fa, ma] (va_D.tag hP hD ht2) rfl rfl) (Or.inr (Or.inr ⟨rfl, rfl, h1, h2, _, hw.sub [3, 4, 5] rfl, va_D.same2 [h, h1, h2] (va_Dm hDn (fun q h9 => if_neg (Nat.not_lt.mpr h9))) rfl rfl⟩)) ht2 (fun q h9 a b => hk q h9 (notA (t := t) hD h9 a))

theorem x_mix {l : Launch} {s0 : State} {D : va_G} {cI cF cJ : ClassId} (G : Gx l s0 D cI cF cJ) (x : Int64) (sk : Int32) (xo fa ma : Nat) (t : Nat → Nat) (S : Nat → FS) {H : Heap} (hX : PX D cI cF xo fa ma t S H) (hok : ∀ i, i < 4 → okS (S i)) (hon : onS s0 H) (ht0 : ∀ q, q < s0.heap.size → t q = 0) (hts : ∀ q, H.size ≤ q → t q ≤ 13) : Mx l s0 y_F_mix (.code y_F_mix b_F_mix 4 (some .long)) { frames := 8, cells := 4, slots := 1094, locals := 180 } [.ref xo, .long x, .int sk] H (FX t H.size) (Rq s0 none (some (.long (mx x sk.toInt64))) (fun H1 => PXn D cI cF xo fa ma t H.size S H1)) :=
  Mx.mono (c_F_mix G xo x sk) (Nat.le_of_ble_eq_true rfl) (Nat.le_of_ble_eq_true rfl) (Nat.le_of_ble_eq_true rfl) (Nat.le_of_ble_eq_true rfl) (fun _ h => h.elim) (fun o H1 hz hk hq => ⟨hq.1, (hX.same (fun q h9 _ _ => hk q h9 (fun h => h))).n hts⟩)

theorem x_merge_no1 {l : Launch} {s0 : State} {D : va_G} {cI cF cJ : ClassId} (G : Gx l s0 D cI cF cJ) (v v2 : Int32) (xo fa ma : Nat) (t : Nat → Nat) (S : Nat → FS) {H : Heap} (hX : PX D cI cF xo fa ma t S H) (hok : ∀ i, i < 4 → okS (S i)) (hon : onS s0 H) (ht0 : ∀ q, q < s0.heap.size → t q = 0) (hts : ∀ q, H.size ≤ q → t q ≤ 13) (v9 : Option Value) (hv : isNum v = false) : Mx l s0 y_F_merge (.code y_F_merge b_F_merge 7 (some .int)) { frames := 8, cells := 4, slots := 1094, locals := 180 } [.ref xo, .int v, .int v2] H (FX t H.size) (Rq s0 (some E_I) v9 (fun H1 => PXn D cI cF xo fa ma t H.size S H1)) := by
  have hX0 := hX
  obtain ⟨fi, mk, hh, hP, hD, hn0, hs0, -⟩ := hX0.re
  exact Mx.mono (c_F_merge_no1 G xo fa ma fi mk v v2 hP hv hon) (Nat.le_of_ble_eq_true rfl) (Nat.le_of_ble_eq_true rfl) (Nat.le_of_ble_eq_true rfl) (Nat.le_of_ble_eq_true rfl) (fun _ h => h.elim) (fun o H1 hz hk hq => ⟨hq.1, (hX.same (fun q h9 _ _ => hk q h9 (fun h => h))).n hts⟩)

theorem x_merge_no2 {l : Launch} {s0 : State} {D : va_G} {cI cF cJ : ClassId} (G : Gx l s0 D cI cF cJ) (j : Nat) (v : Int32) (xo fa ma : Nat) (t : Nat → Nat) (S : Nat → FS) {H : Heap} (hX : PX D cI cF xo fa ma t S H) (hok : ∀ i, i < 4 → okS (S i)) (hon : onS s0 H) (ht0 : ∀ q, q < s0.heap.size → t q = 0) (hts : ∀ q, H.size ≤ q → t q ≤ 13) (v9 : Option Value) (hj : j < 4) (hv : isNum v = false) : Mx l s0 y_F_merge (.code y_F_merge b_F_merge 7 (some .int)) { frames := 8, cells := 4, slots := 1094, locals := 180 } [.ref xo, .int (nI j), .int v] H (FX t H.size) (Rq s0 (some E_I) v9 (fun H1 => PXn D cI cF xo fa ma t H.size S H1)) := by
  have hX0 := hX
  obtain ⟨fi, mk, hh, hP, hD, hn0, hs0, -⟩ := hX0.re
  exact Mx.mono (c_F_merge_no2 G xo fa ma fi mk j v hP hj hv hon) (Nat.le_of_ble_eq_true rfl) (Nat.le_of_ble_eq_true rfl) (Nat.le_of_ble_eq_true rfl) (Nat.le_of_ble_eq_true rfl) (fun _ h => h.elim) (fun o H1 hz hk hq => ⟨hq.1, (hX.same (fun q h9 _ _ => hk q h9 (fun h => h))).n hts⟩)

theorem x_merge_none1 {l : Launch} {s0 : State} {D : va_G} {cI cF cJ : ClassId} (G : Gx l s0 D cI cF cJ) (j j2 : Nat) (xo fa ma : Nat) (t : Nat → Nat) (S : Nat → FS) {H : Heap} (hX : PX D cI cF xo fa ma t S H) (hok : ∀ i, i < 4 → okS (S i)) (hon : onS s0 H) (ht0 : ∀ q, q < s0.heap.size → t q = 0) (hts : ∀ q, H.size ≤ q → t q ≤ 13) (v9 : Option Value) (hj : j < 4) (hj2 : j2 < 4) (h0 : (S j).1 = 0) : Mx l s0 y_F_merge (.code y_F_merge b_F_merge 7 (some .int)) { frames := 8, cells := 4, slots := 1094, locals := 180 } [.ref xo, .int (nI j), .int (nI j2)] H (FX t H.size) (Rq s0 (some E_S) v9 (fun H1 => PXn D cI cF xo fa ma t H.size S H1)) := by
  have hX0 := hX
  obtain ⟨fi, mk, hh, hP, hD, hn0, hs0, -⟩ := hX0.re
  exact Mx.mono (c_F_merge_none1 G xo fa ma fi mk j j2 hP hj hj2 (hn0 j hj h0) hon) (Nat.le_of_ble_eq_true rfl) (Nat.le_of_ble_eq_true rfl) (Nat.le_of_ble_eq_true rfl) (Nat.le_of_ble_eq_true rfl) (fun _ h => h.elim) (fun o H1 hz hk hq => ⟨hq.1, (hX.same (fun q h9 _ _ => hk q h9 (fun h => h))).n hts⟩)

theorem x_merge_none2 {l : Launch} {s0 : State} {D : va_G} {cI cF cJ : ClassId} (G : Gx l s0 D cI cF cJ) (j j2 : Nat) (xo fa ma : Nat) (t : Nat → Nat) (S : Nat → FS) {H : Heap} (hX : PX D cI cF xo fa ma t S H) (hok : ∀ i, i < 4 → okS (S i)) (hon : onS s0 H) (ht0 : ∀ q, q < s0.heap.size → t q = 0) (hts : ∀ q, H.size ≤ q → t q ≤ 13) (v9 : Option Value) (hj : j < 4) (hj2 : j2 < 4) (h0 : (S j).1 ≠ 0) (h02 : (S j2).1 = 0) : Mx l s0 y_F_merge (.code y_F_merge b_F_merge 7 (some .int)) { frames := 8, cells := 4, slots := 1094, locals := 180 } [.ref xo, .int (nI j), .int (nI j2)] H (FX t H.size) (Rq s0 (some E_S) v9 (fun H1 => PXn D cI cF xo fa ma t H.size S H1)) := by
  have hX0 := hX
  obtain ⟨fi, mk, hh, hP, hD, hn0, hs0, -⟩ := hX0.re
  exact Mx.mono (c_F_merge_none2 G xo fa ma fi mk j j2 (hh j) hP hj hj2 (hs0 j hj h0).1 (hn0 j2 hj2 h02) hon) (Nat.le_of_ble_eq_true rfl) (Nat.le_of_ble_eq_true rfl) (Nat.le_of_ble_eq_true rfl) (Nat.le_of_ble_eq_true rfl) (fun _ h => h.elim) (fun o H1 hz hk hq => ⟨hq.1, (hX.same (fun q h9 _ _ => hk q h9 (fun h => h))).n hts⟩)

theorem x_merge_nr1_C {l : Launch} {s0 : State} {D : va_G} {cI cF cJ : ClassId} (G : Gx l s0 D cI cF cJ) (j j2 A B n : Nat) (hd pv : Int32) (cs f : Nat → Nat) (xo fa ma : Nat) (t : Nat → Nat) (S : Nat → FS) {H : Heap} (hX : PX D cI cF xo fa ma t S H) (hok : ∀ i, i < 4 → okS (S i)) (hon : onS s0 H) (ht0 : ∀ q, q < s0.heap.size → t q = 0) (hts : ∀ q, H.size ≤ q → t q ≤ 13) (v9 : Option Value) (hj : j < 4) (hj2 : j2 < 4) (hSj : S j = (1, A, B, hd, pv, cs, n, f)) (h02 : (S j2).1 ≠ 0) : Mx l s0 y_F_merge (.code y_F_merge b_F_merge 7 (some .int)) { frames := 8, cells := 4, slots := 1094, locals := 180 } [.ref xo, .int (nI j), .int (nI j2)] H (FX t H.size) (Rq s0 (some E_A) v9 (fun H1 => PXn D cI cF xo fa ma t H.size S H1)) := by
  have hX0 := hX
  obtain ⟨fi, mk, hh, hP, hD, hn0, hs0, -⟩ := hX0.re
  have h0 : (S j).1 ≠ 0 := by rw [hSj]; exact (by decide : 1 ≠ 0)
  have ho := (hs0 j hj h0).2
  rw [hSj] at ho
  rcases ho with ⟨-, h1, h2, h3, pl, pb, hPo, hDo⟩ | ⟨e9, -⟩ | ⟨e9, -⟩
  all_goals first | (cases e9; done) | skip
  exact Mx.mono (c_F_merge_nr1_C G xo fa ma fi mk (hh j) h1 h2 h3 A B hd pv cs pl pb n f j j2 (hh j2) (va_P.app hP hPo) hj hj2 (hs0 j hj h0).1 (hs0 j2 hj2 h02).1 hon) (Nat.le_of_ble_eq_true rfl) (Nat.le_of_ble_eq_true rfl) (Nat.le_of_ble_eq_true rfl) (Nat.le_of_ble_eq_true rfl) (fun _ h => h.elim) (fun o H1 hz hk hq => ⟨hq.1, (hX.same (fun q h9 _ _ => hk q h9 (fun h => h))).n hts⟩)

theorem x_merge_nr2_C {l : Launch} {s0 : State} {D : va_G} {cI cF cJ : ClassId} (G : Gx l s0 D cI cF cJ) (j j2 A B n A2 B2 n2 : Nat) (hd pv hd2 pv2 : Int32) (cs f cs2 f2 : Nat → Nat) (xo fa ma : Nat) (t : Nat → Nat) (S : Nat → FS) {H : Heap} (hX : PX D cI cF xo fa ma t S H) (hok : ∀ i, i < 4 → okS (S i)) (hon : onS s0 H) (ht0 : ∀ q, q < s0.heap.size → t q = 0) (hts : ∀ q, H.size ≤ q → t q ≤ 13) (v9 : Option Value) (hj : j < 4) (hj2 : j2 < 4) (hSj : S j = (3, A, B, hd, pv, cs, n, f)) (hSj2 : S j2 = (1, A2, B2, hd2, pv2, cs2, n2, f2)) : Mx l s0 y_F_merge (.code y_F_merge b_F_merge 7 (some .int)) { frames := 8, cells := 4, slots := 1094, locals := 180 } [.ref xo, .int (nI j), .int (nI j2)] H (FX t H.size) (Rq s0 (some E_A) v9 (fun H1 => PXn D cI cF xo fa ma t H.size S H1)) := by
  have hX0 := hX
  obtain ⟨fi, mk, hh, hP, hD, hn0, hs0, -⟩ := hX0.re
  have h0 : (S j).1 ≠ 0 := by rw [hSj]; exact (by decide : 3 ≠ 0)
  have h02 : (S j2).1 ≠ 0 := by rw [hSj2]; exact (by decide : 1 ≠ 0)
  have ho := (hs0 j hj h0).2
  rw [hSj] at ho
  rcases ho with ⟨e9, -⟩ | ⟨e9, -⟩ | ⟨-, e2, h1, h2, gg, hPo, hDo⟩
  all_goals first | (cases e9; done) | skip
  subst e2
  have ho2 := (hs0 j2 hj2 h02).2
  rw [hSj2] at ho2
  rcases ho2 with ⟨-, k1, k2, k3, pl, pb, hPo2, hDo2⟩ | ⟨e9, -⟩ | ⟨e9, -⟩
  all_goals first | (cases e9; done) | skip
  exact Mx.mono (c_F_merge_nr2_C G xo fa ma fi mk (hh j) h1 h2 A B n f gg (hh j2) k1 k2 k3 A2 B2 hd2 cs2 pl pb j j2 (va_P.app (va_P.app hP hPo) hPo2) hj hj2 (hs0 j hj h0).1 (hs0 j2 hj2 h02).1 hon) (Nat.le_of_ble_eq_true rfl) (Nat.le_of_ble_eq_true rfl) (Nat.le_of_ble_eq_true rfl) (Nat.le_of_ble_eq_true rfl) (fun _ h => h.elim) (fun o H1 hz hk hq => ⟨hq.1, (hX.same (fun q h9 _ _ => hk q h9 (fun h => h))).n hts⟩)

theorem x_merge_nr1_B {l : Launch} {s0 : State} {D : va_G} {cI cF cJ : ClassId} (G : Gx l s0 D cI cF cJ) (j j2 A B n : Nat) (hd pv : Int32) (cs f : Nat → Nat) (xo fa ma : Nat) (t : Nat → Nat) (S : Nat → FS) {H : Heap} (hX : PX D cI cF xo fa ma t S H) (hok : ∀ i, i < 4 → okS (S i)) (hon : onS s0 H) (ht0 : ∀ q, q < s0.heap.size → t q = 0) (hts : ∀ q, H.size ≤ q → t q ≤ 13) (v9 : Option Value) (hj : j < 4) (hj2 : j2 < 4) (hSj : S j = (2, A, B, hd, pv, cs, n, f)) (h02 : (S j2).1 ≠ 0) : Mx l s0 y_F_merge (.code y_F_merge b_F_merge 7 (some .int)) { frames := 8, cells := 4, slots := 1094, locals := 180 } [.ref xo, .int (nI j), .int (nI j2)] H (FX t H.size) (Rq s0 (some E_A) v9 (fun H1 => PXn D cI cF xo fa ma t H.size S H1)) := by
  have hX0 := hX
  obtain ⟨fi, mk, hh, hP, hD, hn0, hs0, -⟩ := hX0.re
  have h0 : (S j).1 ≠ 0 := by rw [hSj]; exact (by decide : 2 ≠ 0)
  have ho := (hs0 j hj h0).2
  rw [hSj] at ho
  rcases ho with ⟨e9, -⟩ | ⟨-, h1, h2, pt, hPo, hDo⟩ | ⟨e9, -⟩
  all_goals first | (cases e9; done) | skip
  exact Mx.mono (c_F_merge_nr1_B G xo fa ma fi mk (hh j) h1 h2 A B hd pv cs pt n f j j2 (hh j2) (va_P.app hP hPo) hj hj2 (hs0 j hj h0).1 (hs0 j2 hj2 h02).1 hon) (Nat.le_of_ble_eq_true rfl) (Nat.le_of_ble_eq_true rfl) (Nat.le_of_ble_eq_true rfl) (Nat.le_of_ble_eq_true rfl) (fun _ h => h.elim) (fun o H1 hz hk hq => ⟨hq.1, (hX.same (fun q h9 _ _ => hk q h9 (fun h => h))).n hts⟩)

theorem x_merge_nr2_B {l : Launch} {s0 : State} {D : va_G} {cI cF cJ : ClassId} (G : Gx l s0 D cI cF cJ) (j j2 A B n A2 B2 n2 : Nat) (hd pv hd2 pv2 : Int32) (cs f cs2 f2 : Nat → Nat) (xo fa ma : Nat) (t : Nat → Nat) (S : Nat → FS) {H : Heap} (hX : PX D cI cF xo fa ma t S H) (hok : ∀ i, i < 4 → okS (S i)) (hon : onS s0 H) (ht0 : ∀ q, q < s0.heap.size → t q = 0) (hts : ∀ q, H.size ≤ q → t q ≤ 13) (v9 : Option Value) (hj : j < 4) (hj2 : j2 < 4) (hSj : S j = (3, A, B, hd, pv, cs, n, f)) (hSj2 : S j2 = (2, A2, B2, hd2, pv2, cs2, n2, f2)) : Mx l s0 y_F_merge (.code y_F_merge b_F_merge 7 (some .int)) { frames := 8, cells := 4, slots := 1094, locals := 180 } [.ref xo, .int (nI j), .int (nI j2)] H (FX t H.size) (Rq s0 (some E_A) v9 (fun H1 => PXn D cI cF xo fa ma t H.size S H1)) := by
  have hX0 := hX
  obtain ⟨fi, mk, hh, hP, hD, hn0, hs0, -⟩ := hX0.re
  have h0 : (S j).1 ≠ 0 := by rw [hSj]; exact (by decide : 3 ≠ 0)
  have h02 : (S j2).1 ≠ 0 := by rw [hSj2]; exact (by decide : 2 ≠ 0)
  have ho := (hs0 j hj h0).2
  rw [hSj] at ho
  rcases ho with ⟨e9, -⟩ | ⟨e9, -⟩ | ⟨-, e2, h1, h2, gg, hPo, hDo⟩
  all_goals first | (cases e9; done) | skip
  subst e2
  have ho2 := (hs0 j2 hj2 h02).2
  rw [hSj2] at ho2
  rcases ho2 with ⟨e9, -⟩ | ⟨-, k1, k2, pt, hPo2, hDo2⟩ | ⟨e9, -⟩
  all_goals first | (cases e9; done) | skip
  exact Mx.mono (c_F_merge_nr2_B G xo fa ma fi mk (hh j) h1 h2 A B n f gg (hh j2) k1 k2 A2 B2 hd2 pv2 cs2 pt j j2 (va_P.app (va_P.app hP hPo) hPo2) hj hj2 (hs0 j hj h0).1 (hs0 j2 hj2 h02).1 hon) (Nat.le_of_ble_eq_true rfl) (Nat.le_of_ble_eq_true rfl) (Nat.le_of_ble_eq_true rfl) (Nat.le_of_ble_eq_true rfl) (fun _ h => h.elim) (fun o H1 hz hk hq => ⟨hq.1, (hX.same (fun q h9 _ _ => hk q h9 (fun h => h))).n hts⟩)

theorem x_merge_other {l : Launch} {s0 : State} {D : va_G} {cI cF cJ : ClassId} (G : Gx l s0 D cI cF cJ) (j j2 A B n A2 B2 n2 : Nat) (hd pv hd2 pv2 : Int32) (cs f cs2 g : Nat → Nat) (xo fa ma : Nat) (t : Nat → Nat) (S : Nat → FS) {H : Heap} (hX : PX D cI cF xo fa ma t S H) (hok : ∀ i, i < 4 → okS (S i)) (hon : onS s0 H) (ht0 : ∀ q, q < s0.heap.size → t q = 0) (hts : ∀ q, H.size ≤ q → t q ≤ 13) (v9 : Option Value) (hj : j < 4) (hj2 : j2 < 4) (hSj : S j = (3, A, B, hd, pv, cs, n, f)) (hSj2 : S j2 = (3, A2, B2, hd2, pv2, cs2, n2, g)) (hne : A ≠ A2 ∨ B ≠ B2) : Mx l s0 y_F_merge (.code y_F_merge b_F_merge 7 (some .int)) { frames := 8, cells := 4, slots := 1094, locals := 180 } [.ref xo, .int (nI j), .int (nI j2)] H (FX t H.size) (Rq s0 (some E_A) v9 (fun H1 => PXn D cI cF xo fa ma t H.size S H1)) := by
  have hX0 := hX
  obtain ⟨fi, mk, hh, hP, hD, hn0, hs0, -⟩ := hX0.re
  have h0 : (S j).1 ≠ 0 := by rw [hSj]; exact (by decide : 3 ≠ 0)
  have h02 : (S j2).1 ≠ 0 := by rw [hSj2]; exact (by decide : 3 ≠ 0)
  have hoj := hok j hj
  have hoj2 := hok j2 hj2
  have ho := (hs0 j hj h0).2
  rw [hSj] at ho hoj
  rcases ho with ⟨e9, -⟩ | ⟨e9, -⟩ | ⟨-, e2, h1, h2, gg, hPo, hDo⟩
  all_goals first | (cases e9; done) | skip
  subst e2
  have ho2 := (hs0 j2 hj2 h02).2
  rw [hSj2] at ho2 hoj2
  rcases ho2 with ⟨e9, -⟩ | ⟨e9, -⟩ | ⟨-, e2, k1, k2, gg2, hPo2, hDo2⟩
  all_goals first | (cases e9; done) | skip
  subst e2
  exact Mx.mono (c_F_merge_other G xo fa ma fi mk (hh j) h1 h2 A B n pv cs f gg (hh j2) k1 k2 A2 B2 n2 pv2 cs2 g gg2 j j2 (va_P.app (va_P.app hP hPo) (hPo2.sub [0, 1] rfl)) hoj hoj2 hj hj2 (hs0 j hj h0).1 (hs0 j2 hj2 h02).1 hon hne) (Nat.le_of_ble_eq_true rfl) (Nat.le_of_ble_eq_true rfl) (Nat.le_of_ble_eq_true rfl) (Nat.le_of_ble_eq_true rfl) (fun _ h => h.elim) (fun o H1 hz hk hq => ⟨hq.1, (hX.same (fun q h9 _ _ => hk q h9 (fun h => h))).n hts⟩)

theorem x_merge_o {l : Launch} {s0 : State} {D : va_G} {cI cF cJ : ClassId} (G : Gx l s0 D cI cF cJ) (j j2 A B n n2 : Nat) (hd pv hd2 pv2 : Int32) (cs f cs2 g : Nat → Nat) (xo fa ma : Nat) (t : Nat → Nat) (S : Nat → FS) {H : Heap} (hX : PX D cI cF xo fa ma t S H) (hok : ∀ i, i < 4 → okS (S i)) (hon : onS s0 H) (ht0 : ∀ q, q < s0.heap.size → t q = 0) (hts : ∀ q, H.size ≤ q → t q ≤ 13) (hj : j < 4) (hj2 : j2 < 4) (hSj : S j = (3, A, B, hd, pv, cs, n, f)) (hSj2 : S j2 = (3, A, B, hd2, pv2, cs2, n2, g)) (hne : j ≠ j2) : Mx l s0 y_F_merge (.code y_F_merge b_F_merge 7 (some .int)) { frames := 8, cells := 4, slots := 1094, locals := 180 } [.ref xo, .int (nI j), .int (nI j2)] H (FX t H.size) (Rq s0 (if n + n2 ≤ 2 ^ A then none else some E_U) (some (.int (nI (if n + n2 ≤ 2 ^ A then n + n2 else n)))) (fun H1 => PXn D cI cF xo fa ma t H.size (va_up S j (if n + n2 ≤ 2 ^ A then (3, A, B, nI (n + n2), pv, cs, n + n2, mrg g (n + n2) n n2 f) else S j)) H1)) := by
  have hX0 := hX
  obtain ⟨fi, mk, hh, hP, hD, hn0, hs0, hcl⟩ := hX0.re
  have h0 : (S j).1 ≠ 0 := by rw [hSj]; exact (by decide : 3 ≠ 0)
  have h02 : (S j2).1 ≠ 0 := by rw [hSj2]; exact (by decide : 3 ≠ 0)
  have hoj := hok j hj
  have hoj2 := hok j2 hj2
  have ho := (hs0 j hj h0).2
  rw [hSj] at ho hoj
  rcases ho with ⟨e9, -⟩ | ⟨e9, -⟩ | ⟨-, e2, h1, h2, gg, hPo, hDo⟩
  all_goals first | (cases e9; done) | skip
  subst e2
  have ho2 := (hs0 j2 hj2 h02).2
  rw [hSj2] at ho2 hoj2
  rcases ho2 with ⟨e9, -⟩ | ⟨e9, -⟩ | ⟨-, e2, k1, k2, gg2, hPo2, hDo2⟩
  all_goals first | (cases e9; done) | skip
  subst e2
  have hkx : kx j 3 < 12 := kx_lt hj (by decide) (by decide)
  have hkx2 : kx j2 3 < 12 := kx_lt hj2 (by decide) (by decide)
  have hkn : kx j 3 ≠ kx j2 3 := fun h9 => hne (kx_inj (by decide) (by decide) (by decide) (by decide) h9).1
  have hPj := va_P.app (va_P.app hP hPo) (hPo2.sub [0, 1] rfl)
  have hDj := va_D.join2 (va_D.join2 hD hDo (fun q a b => by have a9 : t q = 1 := a; have b9 : t q = 2 + kx j 3 := b; omega)) (va_D.sub (ws' := [(hh j2, .inr (2, [.int (nI A), .int (nI B), .int (nI n2), .ref k1, .ref k2])), (k1, aN cI 256 g)]) hDo2 [0, 1] rfl rfl) (fun q a b => by have b9 : t q = 2 + kx j2 3 := b; rcases a with a | a <;> (have a9 : t q = _ := a; have h7 : kx j (3, A, B, nI n, pv, cs, n, f).1 ≠ kx j2 3 := hkn; omega))
  refine Mx.mono (c_F_merge_o G xo fa ma fi mk (hh j) h1 h2 A B n pv cs f gg (hh j2) k1 k2 n2 pv2 cs2 g gg2 j j2 hPj hDj hoj hoj2 hj hj2 (hs0 j hj h0).1 (hs0 j2 hj2 h02).1 hon (had_of (t := t) hDj ht0 (fun q h9 => by rcases h9 with (h9 | h9) | h9 <;> (have h8 : t q = _ := h9; omega)))) (Nat.le_of_ble_eq_true rfl) (Nat.le_of_ble_eq_true rfl) (Nat.le_of_ble_eq_true rfl) (Nat.le_of_ble_eq_true rfl) (FX.of (g := 0) hDj (fun q h9 => by rcases h9 with (h9 | h9) | h9 <;> (have h8 : t q = _ := h9; have h7 : kx j (3, A, B, nI n, pv, cs, n, f).1 < 12 := hkx; have h6 : kx j2 (3, A, B, nI n2, pv2, cs2, n2, g).1 < 12 := hkx2; omega))) (fun o H1 hz hk hq => ?_)
  obtain ⟨hr, hw⟩ := hq
  have hkS : kx j (S j).1 = kx j 3 := by rw [hSj]
  have hkS2 : kx j2 (S j2).1 = kx j2 3 := by rw [hSj2]
  have hoff : ∀ q : Nat, q < H.size → t q ≠ 1 → t q ≠ 2 + kx j 3 → t q ≠ 2 + kx j2 3 → H1[q]? = H[q]? := fun q h9 a b c => hk q h9 (notA (t := t) hDj h9 (fun h8 => h8.elim (fun h7 => h7.elim a b) c))
  refine ⟨hr, PX.n (hcl H1 _ (hw.sub [0, 1, 2] rfl) (fun i hi => ?_) (fun i hi hi0 => ?_) (fun q h9 a b => hoff q h9 a (by have := b j hj h0; rwa [hkS] at this) (by have := b j2 hj2 h02; rwa [hkS2] at this))) hts⟩
  · by_cases e : i = j
    · subst e
      rw [va_up_self]
      split
      · rw [hSj]
      · rfl
    · rw [va_up_ne _ _ e]
  · by_cases e : i = j
    · subst e
      rw [va_up_self, hkS]
      have hw2 := hw.sub [3, 4, 5] rfl
      by_cases hc : n + n2 ≤ 2 ^ A
      · rw [if_pos hc] at hw2 ⊢
        rw [if_pos hc] at hw2
        exact Or.inr (Or.inr ⟨rfl, rfl, h1, h2, _, hw2, va_D.same2 [hh i, h1, h2] hDo rfl rfl⟩)
      · rw [if_neg hc] at hw2 ⊢
        rw [if_neg hc] at hw2
        rw [hSj]
        exact Or.inr (Or.inr ⟨rfl, rfl, h1, h2, _, hw2, va_D.same2 [hh i, h1, h2] hDo rfl rfl⟩)
    · rw [va_up_ne _ _ e]
      by_cases e2 : i = j2
      · subst e2
        rw [hSj2]
        have hk2 : va_P D vcl [(k2, aI cI 256 gg2)] H1 := (hPo2.sub [2] rfl).kept (fun k x hx => by
          cases k with
          | zero =>
            cases hx
            have hlt : k2 < H.size := (hPo2 2 _ rfl).lt
            refine hk k2 hlt (fun h9 => ?_)
            rcases h9 with h9 | h9
            · have hne2 : ∀ q ∈ [hh i, k1], k2 ≠ q := fun q hq h8 => by
                rcases List.mem_cons.mp hq with h7 | h7
                · have := hDo2.1 2 0 _ _ rfl rfl (h8.trans h7); cases this
                · have := hDo2.1 2 1 _ _ rfl rfl (h8.trans (List.mem_singleton.mp h7)); cases this
              have htk : t k2 = 2 + kx i 3 := hDo2.2 2 _ rfl
              have h6 : ∀ q ∈ [xo, fa, ma], t q = 1 := fun q hq => hD.mem hq
              have h5 : ∀ q ∈ [hh j, h1, h2], t q = 2 + kx j 3 := fun q hq => hDo.mem hq
              have h9' : k2 ∈ [xo, fa, ma] ++ ([hh j, h1, h2] ++ [hh i, k1]) := h9
              rcases List.mem_append.mp h9' with h4 | h4
              · have := h6 k2 h4; omega
              · rcases List.mem_append.mp h4 with h3 | h3
                · have := h5 k2 h3; omega
                · exact hne2 k2 h3 rfl
            · omega
          | succ k => simp at hx)
        exact Or.inr (Or.inr ⟨rfl, rfl, k1, k2, gg2, va_P.app (hw.sub [6, 7] rfl) hk2, hDo2⟩)
      · refine (hs0 i hi hi0).2.keep (fun q hq hg => hoff q hq (by omega) (fun h9 => ?_) (fun h9 => ?_)) (fun _ _ => rfl)
        · have k9 := ((hs0 i hi hi0).2.kd).2
          exact e (kx_inj hi0 (by decide) k9 (by decide) (show kx i (S i).1 = kx j 3 by omega)).1
        · have k9 := ((hs0 i hi hi0).2.kd).2
          exact e2 (kx_inj hi0 (by decide) k9 (by decide) (show kx i (S i).1 = kx j2 3 by omega)).1

theorem x_merge_s_R {l : Launch} {s0 : State} {D : va_G} {cI cF cJ : ClassId} (G : Gx l s0 D cI cF cJ) (j A B n : Nat) (hd pv : Int32) (cs f : Nat → Nat)  (xo fa ma : Nat) (t : Nat → Nat) (S : Nat → FS) {H : Heap} (hX : PX D cI cF xo fa ma t S H) (hok : ∀ i, i < 4 → okS (S i)) (hon : onS s0 H) (ht0 : ∀ q, q < s0.heap.size → t q = 0) (hts : ∀ q, H.size ≤ q → t q ≤ 13)  (hj : j < 4) (hSj : S j = (3, A, B, hd, pv, cs, n, f))  : Mx l s0 y_F_merge (.code y_F_merge b_F_merge 7 (some .int)) { frames := 8, cells := 4, slots := 1094, locals := 180 } [.ref xo, .int (nI j), .int (nI j)] H (FX t H.size) (Rq s0 (if n + n ≤ 2 ^ A then none else some E_U) (some (.int (nI (if n + n ≤ 2 ^ A then n + n else n)))) (fun H1 => PXn D cI cF xo fa ma t H.size (va_up S j (if n + n ≤ 2 ^ A then (3, A, B, nI (n + n), pv, cs, n + n, mrg f (n + n) n n f) else S j)) H1)) := by
  have h0 : (S j).1 ≠ 0 := by rw [hSj]; exact (by decide : 3 ≠ 0)
  have hoj := hok j hj
  obtain ⟨fi, mk, h, hP, hD, hfi, ho, hcl⟩ := hX.at hj h0
  rw [hSj] at ho hcl hoj
  have hkx : kx j 3 < 12 := kx_lt hj (by decide) (by decide)
  rcases ho with ⟨e9, -⟩ | ⟨e9, -⟩ | ⟨-, e2, h1, h2, gg, hPo, hDo⟩
  all_goals first | (cases e9; done) | skip
  subst e2
  have hPj := va_P.app hP hPo
  have hDj := va_D.join2 hD hDo (fun q a b => by have a9 : t q = 1 := a; have b9 : t q = 2 + kx j 3 := b; omega)
  have hMr := c_F_merge_s G xo fa ma fi mk h h1 h2 A B n pv cs f gg j  hPj hDj hoj hj hfi hon (had_of (t := t) hDj ht0 (fun q h9 => by rcases h9 with h9 | h9 <;> (have h8 : t q = _ := h9; omega))) 
  refine Mx.mono hMr (Nat.le_of_ble_eq_true rfl) (Nat.le_of_ble_eq_true rfl) (Nat.le_of_ble_eq_true rfl) (Nat.le_of_ble_eq_true rfl) (FX.of (g := 0) hDj (fun q h9 => by rcases h9 with h9 | h9 <;> (have h8 : t q = _ := h9; have h7 : kx j ((3, A, B, nI n, pv, cs, n, f) : FS).1 < 12 := hkx; omega))) (fun o H1 hz hk hq => ?_)
  obtain ⟨hr, hw⟩ := hq
  refine ⟨by (try rw [hSj]); exact hr, PX.n (hcl H1 _ (hw.sub [0, 1, 2] rfl) (by split; (rfl); (rw [hSj])) ?_ (fun q h9 a b => hk q h9 (notA (t := t) hDj h9 (fun h8 => h8.elim a b)))) hts⟩
  have hw2 := hw.sub [3, 4, 5] rfl
  by_cases hc : n + n ≤ 2 ^ A
  · rw [if_pos hc] at hw2 ⊢
    rw [if_pos hc] at hw2
    exact Or.inr (Or.inr ⟨rfl, rfl, h1, h2, _, hw2, va_D.same2 [h, h1, h2] hDo rfl rfl⟩)
  · rw [if_neg hc] at hw2 ⊢
    rw [if_neg hc] at hw2
    rw [hSj]
    exact Or.inr (Or.inr ⟨rfl, rfl, h1, h2, _, hw2, va_D.same2 [h, h1, h2] hDo rfl rfl⟩)
