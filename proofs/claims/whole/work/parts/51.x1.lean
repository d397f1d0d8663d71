theorem PX.same {D : va_G} {cI cF : ClassId} {xo fa ma : Nat} {t : Nat → Nat} {S : Nat → FS} {H H1 : Heap} (hX : PX D cI cF xo fa ma t S H) (hk : ∀ q : Nat, q < H.size → 1 ≤ t q → t q ≤ 13 → H1[q]? = H[q]?) : PX D cI cF xo fa ma t S H1 := by
  obtain ⟨fi, mk, O, hP, hD, h1, h2, h3⟩ := hX
  exact ⟨fi, mk, O, hP.keep hD (fun q hq e => hk q hq (by omega) (by omega)), hD, h1, fun k h T hk9 hO => ⟨(h2 k h T hk9 hO).1, (h2 k h T hk9 hO).2.keep (fun q hq e => hk q hq (by omega) (by omega)) (fun _ _ => rfl)⟩, h3⟩
/-- the class's picture, its new addresses tagged -/
def PXn (D : va_G) (cI cF : ClassId) (xo fa ma : Nat) (t : Nat → Nat) (sz : Nat) (S : Nat → FS) (H : Heap) : Prop := ∃ t2 : Nat → Nat, (∀ q : Nat, q < sz → t2 q = t q) ∧ (∀ q : Nat, sz ≤ q → t2 q ≤ 13) ∧ PX D cI cF xo fa ma t2 S H
theorem PX.n {D : va_G} {cI cF : ClassId} {xo fa ma : Nat} {t : Nat → Nat} {sz : Nat} {S : Nat → FS} {H : Heap} (h : PX D cI cF xo fa ma t S H) (hsz : ∀ q : Nat, sz ≤ q → t q ≤ 13) : PXn D cI cF xo fa ma t sz S H := ⟨t, fun _ _ => rfl, hsz, h⟩
theorem had_of {s0 : State} {t : Nat → Nat} {ws : va_W} {A : Nat → Prop} (hD : va_D A ws) (ht0 : ∀ q, q < s0.heap.size → t q = 0) (hA : ∀ q, A q → t q ≠ 0) : ∀ q ∈ ws.map (·.1), s0.heap.size ≤ q := fun q hq => by
  rcases Nat.lt_or_ge q s0.heap.size with h | h
  · exact absurd (ht0 q h) (hA q (hD.mem hq))
  · exact h

theorem x_add_no {l : Launch} {s0 : State} {D : va_G} {cI cF cJ : ClassId} (G : Gx l s0 D cI cF cJ) (v : Int32) (x : Int64) (xo fa ma : Nat) (t : Nat → Nat) (S : Nat → FS) {H : Heap} (hX : PX D cI cF xo fa ma t S H) (hok : ∀ i, i < 4 → okS (S i)) (hon : onS s0 H) (ht0 : ∀ q, q < s0.heap.size → t q = 0) (hts : ∀ q, H.size ≤ q → t q ≤ 13) (v9 : Option Value) (hv : isNum v = false) : Mx l s0 y_F_add (.code y_F_add b_F_add 5 (some .int)) { frames := 8, cells := 4, slots := 1094, locals := 180 } [.ref xo, .int v, .long x] H (FX t H.size) (Rq s0 (some E_I) v9 (fun H1 => PXn D cI cF xo fa ma t H.size S H1)) := by
  have hX0 := hX
  obtain ⟨fi, mk, O, hP, hD, -, -, h3⟩ := hX0
  exact Mx.mono (c_F_add_no G xo fa ma fi mk v x hP hv hon) (Nat.le_of_ble_eq_true rfl) (Nat.le_of_ble_eq_true rfl) (Nat.le_of_ble_eq_true rfl) (Nat.le_of_ble_eq_true rfl) (fun _ h => h.elim) (fun o H1 hz hk hq => ⟨hq.1, (hX.same (fun q h9 _ _ => hk q h9 (fun h => h))).n hts⟩)

theorem x_add_none {l : Launch} {s0 : State} {D : va_G} {cI cF cJ : ClassId} (G : Gx l s0 D cI cF cJ) (j : Nat) (x : Int64) (xo fa ma : Nat) (t : Nat → Nat) (S : Nat → FS) {H : Heap} (hX : PX D cI cF xo fa ma t S H) (hok : ∀ i, i < 4 → okS (S i)) (hon : onS s0 H) (ht0 : ∀ q, q < s0.heap.size → t q = 0) (hts : ∀ q, H.size ≤ q → t q ≤ 13) (v9 : Option Value) (hj : j < 4) (h0 : (S j).1 = 0) : Mx l s0 y_F_add (.code y_F_add b_F_add 5 (some .int)) { frames := 8, cells := 4, slots := 1094, locals := 180 } [.ref xo, .int (nI j), .long x] H (FX t H.size) (Rq s0 (some E_S) v9 (fun H1 => PXn D cI cF xo fa ma t H.size S H1)) := by
  have hX0 := hX
  obtain ⟨fi, mk, O, hP, hD, -, -, h3⟩ := hX0
  have hfi : fi j = none := (h3 j hj).elim (fun h => h.2) (fun h => by obtain ⟨_, h8, _⟩ := h; exact absurd h0 h8)
  exact Mx.mono (c_F_add_none G xo fa ma fi mk j x hP hj hfi hon) (Nat.le_of_ble_eq_true rfl) (Nat.le_of_ble_eq_true rfl) (Nat.le_of_ble_eq_true rfl) (Nat.le_of_ble_eq_true rfl) (fun _ h => h.elim) (fun o H1 hz hk hq => ⟨hq.1, (hX.same (fun q h9 _ _ => hk q h9 (fun h => h))).n hts⟩)

theorem x_remove_no {l : Launch} {s0 : State} {D : va_G} {cI cF cJ : ClassId} (G : Gx l s0 D cI cF cJ) (v : Int32) (x : Int64) (xo fa ma : Nat) (t : Nat → Nat) (S : Nat → FS) {H : Heap} (hX : PX D cI cF xo fa ma t S H) (hok : ∀ i, i < 4 → okS (S i)) (hon : onS s0 H) (ht0 : ∀ q, q < s0.heap.size → t q = 0) (hts : ∀ q, H.size ≤ q → t q ≤ 13) (v9 : Option Value) (hv : isNum v = false) : Mx l s0 y_F_remove (.code y_F_remove b_F_remove 5 (some .int)) { frames := 8, cells := 4, slots := 1094, locals := 180 } [.ref xo, .int v, .long x] H (FX t H.size) (Rq s0 (some E_I) v9 (fun H1 => PXn D cI cF xo fa ma t H.size S H1)) := by
  have hX0 := hX
  obtain ⟨fi, mk, O, hP, hD, -, -, h3⟩ := hX0
  exact Mx.mono (c_F_remove_no G xo fa ma fi mk v x hP hv hon) (Nat.le_of_ble_eq_true rfl) (Nat.le_of_ble_eq_true rfl) (Nat.le_of_ble_eq_true rfl) (Nat.le_of_ble_eq_true rfl) (fun _ h => h.elim) (fun o H1 hz hk hq => ⟨hq.1, (hX.same (fun q h9 _ _ => hk q h9 (fun h => h))).n hts⟩)

theorem x_remove_none {l : Launch} {s0 : State} {D : va_G} {cI cF cJ : ClassId} (G : Gx l s0 D cI cF cJ) (j : Nat) (x : Int64) (xo fa ma : Nat) (t : Nat → Nat) (S : Nat → FS) {H : Heap} (hX : PX D cI cF xo fa ma t S H) (hok : ∀ i, i < 4 → okS (S i)) (hon : onS s0 H) (ht0 : ∀ q, q < s0.heap.size → t q = 0) (hts : ∀ q, H.size ≤ q → t q ≤ 13) (v9 : Option Value) (hj : j < 4) (h0 : (S j).1 = 0) : Mx l s0 y_F_remove (.code y_F_remove b_F_remove 5 (some .int)) { frames := 8, cells := 4, slots := 1094, locals := 180 } [.ref xo, .int (nI j), .long x] H (FX t H.size) (Rq s0 (some E_S) v9 (fun H1 => PXn D cI cF xo fa ma t H.size S H1)) := by
  have hX0 := hX
  obtain ⟨fi, mk, O, hP, hD, -, -, h3⟩ := hX0
  have hfi : fi j = none := (h3 j hj).elim (fun h => h.2) (fun h => by obtain ⟨_, h8, _⟩ := h; exact absurd h0 h8)
  exact Mx.mono (c_F_remove_none G xo fa ma fi mk j x hP hj hfi hon) (Nat.le_of_ble_eq_true rfl) (Nat.le_of_ble_eq_true rfl) (Nat.le_of_ble_eq_true rfl) (Nat.le_of_ble_eq_true rfl) (fun _ h => h.elim) (fun o H1 hz hk hq => ⟨hq.1, (hX.same (fun q h9 _ _ => hk q h9 (fun h => h))).n hts⟩)

theorem x_has_no {l : Launch} {s0 : State} {D : va_G} {cI cF cJ : ClassId} (G : Gx l s0 D cI cF cJ) (v : Int32) (x : Int64) (xo fa ma : Nat) (t : Nat → Nat) (S : Nat → FS) {H : Heap} (hX : PX D cI cF xo fa ma t S H) (hok : ∀ i, i < 4 → okS (S i)) (hon : onS s0 H) (ht0 : ∀ q, q < s0.heap.size → t q = 0) (hts : ∀ q, H.size ≤ q → t q ≤ 13) (v9 : Option Value) (hv : isNum v = false) : Mx l s0 y_F_has (.code y_F_has b_F_has 4 (some .boolean)) { frames := 8, cells := 4, slots := 1094, locals := 180 } [.ref xo, .int v, .long x] H (FX t H.size) (Rq s0 (some E_I) v9 (fun H1 => PXn D cI cF xo fa ma t H.size S H1)) := by
  have hX0 := hX
  obtain ⟨fi, mk, O, hP, hD, -, -, h3⟩ := hX0
  exact Mx.mono (c_F_has_no G xo fa ma fi mk v x hP hv hon) (Nat.le_of_ble_eq_true rfl) (Nat.le_of_ble_eq_true rfl) (Nat.le_of_ble_eq_true rfl) (Nat.le_of_ble_eq_true rfl) (fun _ h => h.elim) (fun o H1 hz hk hq => ⟨hq.1, (hX.same (fun q h9 _ _ => hk q h9 (fun h => h))).n hts⟩)

theorem x_has_none {l : Launch} {s0 : State} {D : va_G} {cI cF cJ : ClassId} (G : Gx l s0 D cI cF cJ) (j : Nat) (x : Int64) (xo fa ma : Nat) (t : Nat → Nat) (S : Nat → FS) {H : Heap} (hX : PX D cI cF xo fa ma t S H) (hok : ∀ i, i < 4 → okS (S i)) (hon : onS s0 H) (ht0 : ∀ q, q < s0.heap.size → t q = 0) (hts : ∀ q, H.size ≤ q → t q ≤ 13) (v9 : Option Value) (hj : j < 4) (h0 : (S j).1 = 0) : Mx l s0 y_F_has (.code y_F_has b_F_has 4 (some .boolean)) { frames := 8, cells := 4, slots := 1094, locals := 180 } [.ref xo, .int (nI j), .long x] H (FX t H.size) (Rq s0 (some E_S) v9 (fun H1 => PXn D cI cF xo fa ma t H.size S H1)) := by
  have hX0 := hX
  obtain ⟨fi, mk, O, hP, hD, -, -, h3⟩ := hX0
  have hfi : fi j = none := (h3 j hj).elim (fun h => h.2) (fun h => by obtain ⟨_, h8, _⟩ := h; exact absurd h0 h8)
  exact Mx.mono (c_F_has_none G xo fa ma fi mk j x hP hj hfi hon) (Nat.le_of_ble_eq_true rfl) (Nat.le_of_ble_eq_true rfl) (Nat.le_of_ble_eq_true rfl) (Nat.le_of_ble_eq_true rfl) (fun _ h => h.elim) (fun o H1 hz hk hq => ⟨hq.1, (hX.same (fun q h9 _ _ => hk q h9 (fun h => h))).n hts⟩)

theorem x_same_no {l : Launch} {s0 : State} {D : va_G} {cI cF cJ : ClassId} (G : Gx l s0 D cI cF cJ) (v : Int32) (x y : Int64) (xo fa ma : Nat) (t : Nat → Nat) (S : Nat → FS) {H : Heap} (hX : PX D cI cF xo fa ma t S H) (hok : ∀ i, i < 4 → okS (S i)) (hon : onS s0 H) (ht0 : ∀ q, q < s0.heap.size → t q = 0) (hts : ∀ q, H.size ≤ q → t q ≤ 13) (v9 : Option Value) (hv : isNum v = false) : Mx l s0 y_F_same (.code y_F_same b_F_same 6 (some .boolean)) { frames := 8, cells := 4, slots := 1094, locals := 180 } [.ref xo, .int v, .long x, .long y] H (FX t H.size) (Rq s0 (some E_I) v9 (fun H1 => PXn D cI cF xo fa ma t H.size S H1)) := by
  have hX0 := hX
  obtain ⟨fi, mk, O, hP, hD, -, -, h3⟩ := hX0
  exact Mx.mono (c_F_same_no G xo fa ma fi mk v x y hP hv hon) (Nat.le_of_ble_eq_true rfl) (Nat.le_of_ble_eq_true rfl) (Nat.le_of_ble_eq_true rfl) (Nat.le_of_ble_eq_true rfl) (fun _ h => h.elim) (fun o H1 hz hk hq => ⟨hq.1, (hX.same (fun q h9 _ _ => hk q h9 (fun h => h))).n hts⟩)

theorem x_same_none {l : Launch} {s0 : State} {D : va_G} {cI cF cJ : ClassId} (G : Gx l s0 D cI cF cJ) (j : Nat) (x y : Int64) (xo fa ma : Nat) (t : Nat → Nat) (S : Nat → FS) {H : Heap} (hX : PX D cI cF xo fa ma t S H) (hok : ∀ i, i < 4 → okS (S i)) (hon : onS s0 H) (ht0 : ∀ q, q < s0.heap.size → t q = 0) (hts : ∀ q, H.size ≤ q → t q ≤ 13) (v9 : Option Value) (hj : j < 4) (h0 : (S j).1 = 0) : Mx l s0 y_F_same (.code y_F_same b_F_same 6 (some .boolean)) { frames := 8, cells := 4, slots := 1094, locals := 180 } [.ref xo, .int (nI j), .long x, .long y] H (FX t H.size) (Rq s0 (some E_S) v9 (fun H1 => PXn D cI cF xo fa ma t H.size S H1)) := by
  have hX0 := hX
  obtain ⟨fi, mk, O, hP, hD, -, -, h3⟩ := hX0
  have hfi : fi j = none := (h3 j hj).elim (fun h => h.2) (fun h => by obtain ⟨_, h8, _⟩ := h; exact absurd h0 h8)
  exact Mx.mono (c_F_same_none G xo fa ma fi mk j x y hP hj hfi hon) (Nat.le_of_ble_eq_true rfl) (Nat.le_of_ble_eq_true rfl) (Nat.le_of_ble_eq_true rfl) (Nat.le_of_ble_eq_true rfl) (fun _ h => h.elim) (fun o H1 hz hk hq => ⟨hq.1, (hX.same (fun q h9 _ _ => hk q h9 (fun h => h))).n hts⟩)

theorem x_addAll_no {l : Launch} {s0 : State} {D : va_G} {cI cF cJ : ClassId} (G : Gx l s0 D cI cF cJ) (v : Int32) (x st : Int64) (nv : Int32) (xo fa ma : Nat) (t : Nat → Nat) (S : Nat → FS) {H : Heap} (hX : PX D cI cF xo fa ma t S H) (hok : ∀ i, i < 4 → okS (S i)) (hon : onS s0 H) (ht0 : ∀ q, q < s0.heap.size → t q = 0) (hts : ∀ q, H.size ≤ q → t q ≤ 13) (v9 : Option Value) (hv : isNum v = false) : Mx l s0 y_F_addAll (.code y_F_addAll b_F_addAll 11 (some .int)) { frames := 8, cells := 4, slots := 1094, locals := 180 } [.ref xo, .int v, .long x, .long st, .int nv] H (FX t H.size) (Rq s0 (some E_I) v9 (fun H1 => PXn D cI cF xo fa ma t H.size S H1)) := by
  have hX0 := hX
  obtain ⟨fi, mk, O, hP, hD, -, -, h3⟩ := hX0
  exact Mx.mono (c_F_addAll_no G xo fa ma fi mk v x st nv hP hv hon) (Nat.le_of_ble_eq_true rfl) (Nat.le_of_ble_eq_true rfl) (Nat.le_of_ble_eq_true rfl) (Nat.le_of_ble_eq_true rfl) (fun _ h => h.elim) (fun o H1 hz hk hq => ⟨hq.1, (hX.same (fun q h9 _ _ => hk q h9 (fun h => h))).n hts⟩)

theorem x_addAll_none {l : Launch} {s0 : State} {D : va_G} {cI cF cJ : ClassId} (G : Gx l s0 D cI cF cJ) (j : Nat) (x st : Int64) (nv : Int32) (xo fa ma : Nat) (t : Nat → Nat) (S : Nat → FS) {H : Heap} (hX : PX D cI cF xo fa ma t S H) (hok : ∀ i, i < 4 → okS (S i)) (hon : onS s0 H) (ht0 : ∀ q, q < s0.heap.size → t q = 0) (hts : ∀ q, H.size ≤ q → t q ≤ 13) (v9 : Option Value) (hj : j < 4) (h0 : (S j).1 = 0) : Mx l s0 y_F_addAll (.code y_F_addAll b_F_addAll 11 (some .int)) { frames := 8, cells := 4, slots := 1094, locals := 180 } [.ref xo, .int (nI j), .long x, .long st, .int nv] H (FX t H.size) (Rq s0 (some E_S) v9 (fun H1 => PXn D cI cF xo fa ma t H.size S H1)) := by
  have hX0 := hX
  obtain ⟨fi, mk, O, hP, hD, -, -, h3⟩ := hX0
  have hfi : fi j = none := (h3 j hj).elim (fun h => h.2) (fun h => by obtain ⟨_, h8, _⟩ := h; exact absurd h0 h8)
  exact Mx.mono (c_F_addAll_none G xo fa ma fi mk j x st nv hP hj hfi hon) (Nat.le_of_ble_eq_true rfl) (Nat.le_of_ble_eq_true rfl) (Nat.le_of_ble_eq_true rfl) (Nat.le_of_ble_eq_true rfl) (fun _ h => h.elim) (fun o H1 hz hk hq => ⟨hq.1, (hX.same (fun q h9 _ _ => hk q h9 (fun h => h))).n hts⟩)

theorem x_hasAll_no {l : Launch} {s0 : State} {D : va_G} {cI cF cJ : ClassId} (G : Gx l s0 D cI cF cJ) (v : Int32) (x st : Int64) (nv : Int32) (xo fa ma : Nat) (t : Nat → Nat) (S : Nat → FS) {H : Heap} (hX : PX D cI cF xo fa ma t S H) (hok : ∀ i, i < 4 → okS (S i)) (hon : onS s0 H) (ht0 : ∀ q, q < s0.heap.size → t q = 0) (hts : ∀ q, H.size ≤ q → t q ≤ 13) (v9 : Option Value) (hv : isNum v = false) : Mx l s0 y_F_hasAll (.code y_F_hasAll b_F_hasAll 12 (some .int)) { frames := 8, cells := 4, slots := 1094, locals := 180 } [.ref xo, .int v, .long x, .long st, .int nv] H (FX t H.size) (Rq s0 (some E_I) v9 (fun H1 => PXn D cI cF xo fa ma t H.size S H1)) := by
  have hX0 := hX
  obtain ⟨fi, mk, O, hP, hD, -, -, h3⟩ := hX0
  exact Mx.mono (c_F_hasAll_no G xo fa ma fi mk v x st nv hP hv hon) (Nat.le_of_ble_eq_true rfl) (Nat.le_of_ble_eq_true rfl) (Nat.le_of_ble_eq_true rfl) (Nat.le_of_ble_eq_true rfl) (fun _ h => h.elim) (fun o H1 hz hk hq => ⟨hq.1, (hX.same (fun q h9 _ _ => hk q h9 (fun h => h))).n hts⟩)

theorem x_hasAll_none {l : Launch} {s0 : State} {D : va_G} {cI cF cJ : ClassId} (G : Gx l s0 D cI cF cJ) (j : Nat) (x st : Int64) (nv : Int32) (xo fa ma : Nat) (t : Nat → Nat) (S : Nat → FS) {H : Heap} (hX : PX D cI cF xo fa ma t S H) (hok : ∀ i, i < 4 → okS (S i)) (hon : onS s0 H) (ht0 : ∀ q, q < s0.heap.size → t q = 0) (hts : ∀ q, H.size ≤ q → t q ≤ 13) (v9 : Option Value) (hj : j < 4) (h0 : (S j).1 = 0) : Mx l s0 y_F_hasAll (.code y_F_hasAll b_F_hasAll 12 (some .int)) { frames := 8, cells := 4, slots := 1094, locals := 180 } [.ref xo, .int (nI j), .long x, .long st, .int nv] H (FX t H.size) (Rq s0 (some E_S) v9 (fun H1 => PXn D cI cF xo fa ma t H.size S H1)) := by
  have hX0 := hX
  obtain ⟨fi, mk, O, hP, hD, -, -, h3⟩ := hX0
  have hfi : fi j = none := (h3 j hj).elim (fun h => h.2) (fun h => by obtain ⟨_, h8, _⟩ := h; exact absurd h0 h8)
  exact Mx.mono (c_F_hasAll_none G xo fa ma fi mk j x st nv hP hj hfi hon) (Nat.le_of_ble_eq_true rfl) (Nat.le_of_ble_eq_true rfl) (Nat.le_of_ble_eq_true rfl) (Nat.le_of_ble_eq_true rfl) (fun _ h => h.elim) (fun o H1 hz hk hq => ⟨hq.1, (hX.same (fun q h9 _ _ => hk q h9 (fun h => h))).n hts⟩)

theorem x_count_no {l : Launch} {s0 : State} {D : va_G} {cI cF cJ : ClassId} (G : Gx l s0 D cI cF cJ) (v : Int32) (wv : Int32) (xo fa ma : Nat) (t : Nat → Nat) (S : Nat → FS) {H : Heap} (hX : PX D cI cF xo fa ma t S H) (hok : ∀ i, i < 4 → okS (S i)) (hon : onS s0 H) (ht0 : ∀ q, q < s0.heap.size → t q = 0) (hts : ∀ q, H.size ≤ q → t q ≤ 13) (v9 : Option Value) (hv : isNum v = false) : Mx l s0 y_F_count (.code y_F_count b_F_count 4 (some .int)) { frames := 8, cells := 4, slots := 1094, locals := 180 } [.ref xo, .int v, .int wv] H (FX t H.size) (Rq s0 (some E_I) v9 (fun H1 => PXn D cI cF xo fa ma t H.size S H1)) := by
  have hX0 := hX
  obtain ⟨fi, mk, O, hP, hD, -, -, h3⟩ := hX0
  exact Mx.mono (c_F_count_no G xo fa ma fi mk v wv hP hv hon) (Nat.le_of_ble_eq_true rfl) (Nat.le_of_ble_eq_true rfl) (Nat.le_of_ble_eq_true rfl) (Nat.le_of_ble_eq_true rfl) (fun _ h => h.elim) (fun o H1 hz hk hq => ⟨hq.1, (hX.same (fun q h9 _ _ => hk q h9 (fun h => h))).n hts⟩)

theorem x_count_none {l : Launch} {s0 : State} {D : va_G} {cI cF cJ : ClassId} (G : Gx l s0 D cI cF cJ) (j : Nat) (wv : Int32) (xo fa ma : Nat) (t : Nat → Nat) (S : Nat → FS) {H : Heap} (hX : PX D cI cF xo fa ma t S H) (hok : ∀ i, i < 4 → okS (S i)) (hon : onS s0 H) (ht0 : ∀ q, q < s0.heap.size → t q = 0) (hts : ∀ q, H.size ≤ q → t q ≤ 13) (v9 : Option Value) (hj : j < 4) (h0 : (S j).1 = 0) : Mx l s0 y_F_count (.code y_F_count b_F_count 4 (some .int)) { frames := 8, cells := 4, slots := 1094, locals := 180 } [.ref xo, .int (nI j), .int wv] H (FX t H.size) (Rq s0 (some E_S) v9 (fun H1 => PXn D cI cF xo fa ma t H.size S H1)) := by
  have hX0 := hX
  obtain ⟨fi, mk, O, hP, hD, -, -, h3⟩ := hX0
  have hfi : fi j = none := (h3 j hj).elim (fun h => h.2) (fun h => by obtain ⟨_, h8, _⟩ := h; exact absurd h0 h8)
  exact Mx.mono (c_F_count_none G xo fa ma fi mk j wv hP hj hfi hon) (Nat.le_of_ble_eq_true rfl) (Nat.le_of_ble_eq_true rfl) (Nat.le_of_ble_eq_true rfl) (Nat.le_of_ble_eq_true rfl) (fun _ h => h.elim) (fun o H1 hz hk hq => ⟨hq.1, (hX.same (fun q h9 _ _ => hk q h9 (fun h => h))).n hts⟩)

theorem x_grow_no {l : Launch} {s0 : State} {D : va_G} {cI cF cJ : ClassId} (G : Gx l s0 D cI cF cJ) (v : Int32)  (xo fa ma : Nat) (t : Nat → Nat) (S : Nat → FS) {H : Heap} (hX : PX D cI cF xo fa ma t S H) (hok : ∀ i, i < 4 → okS (S i)) (hon : onS s0 H) (ht0 : ∀ q, q < s0.heap.size → t q = 0) (hts : ∀ q, H.size ≤ q → t q ≤ 13) (v9 : Option Value) (hv : isNum v = false) : Mx l s0 y_F_grow (.code y_F_grow b_F_grow 3 none) { frames := 8, cells := 4, slots := 1094, locals := 180 } [.ref xo, .int v] H (FX t H.size) (Rq s0 (some E_I) v9 (fun H1 => PXn D cI cF xo fa ma t H.size S H1)) := by
  have hX0 := hX
  obtain ⟨fi, mk, O, hP, hD, -, -, h3⟩ := hX0
  exact Mx.mono (c_F_grow_no G xo fa ma fi mk v  hP hv hon) (Nat.le_of_ble_eq_true rfl) (Nat.le_of_ble_eq_true rfl) (Nat.le_of_ble_eq_true rfl) (Nat.le_of_ble_eq_true rfl) (fun _ h => h.elim) (fun o H1 hz hk hq => ⟨hq.1, (hX.same (fun q h9 _ _ => hk q h9 (fun h => h))).n hts⟩)

theorem x_grow_none {l : Launch} {s0 : State} {D : va_G} {cI cF cJ : ClassId} (G : Gx l s0 D cI cF cJ) (j : Nat)  (xo fa ma : Nat) (t : Nat → Nat) (S : Nat → FS) {H : Heap} (hX : PX D cI cF xo fa ma t S H) (hok : ∀ i, i < 4 → okS (S i)) (hon : onS s0 H) (ht0 : ∀ q, q < s0.heap.size → t q = 0) (hts : ∀ q, H.size ≤ q → t q ≤ 13) (v9 : Option Value) (hj : j < 4) (h0 : (S j).1 = 0) : Mx l s0 y_F_grow (.code y_F_grow b_F_grow 3 none) { frames := 8, cells := 4, slots := 1094, locals := 180 } [.ref xo, .int (nI j)] H (FX t H.size) (Rq s0 (some E_S) v9 (fun H1 => PXn D cI cF xo fa ma t H.size S H1)) := by
  have hX0 := hX
  obtain ⟨fi, mk, O, hP, hD, -, -, h3⟩ := hX0
  have hfi : fi j = none := (h3 j hj).elim (fun h => h.2) (fun h => by obtain ⟨_, h8, _⟩ := h; exact absurd h0 h8)
  exact Mx.mono (c_F_grow_none G xo fa ma fi mk j  hP hj hfi hon) (Nat.le_of_ble_eq_true rfl) (Nat.le_of_ble_eq_true rfl) (Nat.le_of_ble_eq_true rfl) (Nat.le_of_ble_eq_true rfl) (fun _ h => h.elim) (fun o H1 hz hk hq => ⟨hq.1, (hX.same (fun q h9 _ _ => hk q h9 (fun h => h))).n hts⟩)

theorem x_clear_no {l : Launch} {s0 : State} {D : va_G} {cI cF cJ : ClassId} (G : Gx l s0 D cI cF cJ) (v : Int32)  (xo fa ma : Nat) (t : Nat → Nat) (S : Nat → FS) {H : Heap} (hX : PX D cI cF xo fa ma t S H) (hok : ∀ i, i < 4 → okS (S i)) (hon : onS s0 H) (ht0 : ∀ q, q < s0.heap.size → t q = 0) (hts : ∀ q, H.size ≤ q → t q ≤ 13) (v9 : Option Value) (hv : isNum v = false) : Mx l s0 y_F_clear (.code y_F_clear b_F_clear 4 (some .int)) { frames := 8, cells := 4, slots := 1094, locals := 180 } [.ref xo, .int v] H (FX t H.size) (Rq s0 (some E_I) v9 (fun H1 => PXn D cI cF xo fa ma t H.size S H1)) := by
  have hX0 := hX
  obtain ⟨fi, mk, O, hP, hD, -, -, h3⟩ := hX0
  exact Mx.mono (c_F_clear_no G xo fa ma fi mk v  hP hv hon) (Nat.le_of_ble_eq_true rfl) (Nat.le_of_ble_eq_true rfl) (Nat.le_of_ble_eq_true rfl) (Nat.le_of_ble_eq_true rfl) (fun _ h => h.elim) (fun o H1 hz hk hq => ⟨hq.1, (hX.same (fun q h9 _ _ => hk q h9 (fun h => h))).n hts⟩)

theorem x_clear_none {l : Launch} {s0 : State} {D : va_G} {cI cF cJ : ClassId} (G : Gx l s0 D cI cF cJ) (j : Nat)  (xo fa ma : Nat) (t : Nat → Nat) (S : Nat → FS) {H : Heap} (hX : PX D cI cF xo fa ma t S H) (hok : ∀ i, i < 4 → okS (S i)) (hon : onS s0 H) (ht0 : ∀ q, q < s0.heap.size → t q = 0) (hts : ∀ q, H.size ≤ q → t q ≤ 13) (v9 : Option Value) (hj : j < 4) (h0 : (S j).1 = 0) : Mx l s0 y_F_clear (.code y_F_clear b_F_clear 4 (some .int)) { frames := 8, cells := 4, slots := 1094, locals := 180 } [.ref xo, .int (nI j)] H (FX t H.size) (Rq s0 (some E_S) v9 (fun H1 => PXn D cI cF xo fa ma t H.size S H1)) := by
  have hX0 := hX
  obtain ⟨fi, mk, O, hP, hD, -, -, h3⟩ := hX0
  have hfi : fi j = none := (h3 j hj).elim (fun h => h.2) (fun h => by obtain ⟨_, h8, _⟩ := h; exact absurd h0 h8)
  exact Mx.mono (c_F_clear_none G xo fa ma fi mk j  hP hj hfi hon) (Nat.le_of_ble_eq_true rfl) (Nat.le_of_ble_eq_true rfl) (Nat.le_of_ble_eq_true rfl) (Nat.le_of_ble_eq_true rfl) (fun _ h => h.elim) (fun o H1 hz hk hq => ⟨hq.1, (hX.same (fun q h9 _ _ => hk q h9 (fun h => h))).n hts⟩)

theorem x_cell_no {l : Launch} {s0 : State} {D : va_G} {cI cF cJ : ClassId} (G : Gx l s0 D cI cF cJ) (v : Int32) (iv : Int32) (xo fa ma : Nat) (t : Nat → Nat) (S : Nat → FS) {H : Heap} (hX : PX D cI cF xo fa ma t S H) (hok : ∀ i, i < 4 → okS (S i)) (hon : onS s0 H) (ht0 : ∀ q, q < s0.heap.size → t q = 0) (hts : ∀ q, H.size ≤ q → t q ≤ 13) (v9 : Option Value) (hv : isNum v = false) : Mx l s0 y_F_cell (.code y_F_cell b_F_cell 4 (some .int)) { frames := 8, cells := 4, slots := 1094, locals := 180 } [.ref xo, .int v, .int iv] H (FX t H.size) (Rq s0 (some E_S) v9 (fun H1 => PXn D cI cF xo fa ma t H.size S H1)) := by
  have hX0 := hX
  obtain ⟨fi, mk, O, hP, hD, -, -, h3⟩ := hX0
  exact Mx.mono (c_F_cell_no G xo fa ma fi mk v iv hP hv hon) (Nat.le_of_ble_eq_true rfl) (Nat.le_of_ble_eq_true rfl) (Nat.le_of_ble_eq_true rfl) (Nat.le_of_ble_eq_true rfl) (fun _ h => h.elim) (fun o H1 hz hk hq => ⟨hq.1, (hX.same (fun q h9 _ _ => hk q h9 (fun h => h))).n hts⟩)

theorem x_cell_none {l : Launch} {s0 : State} {D : va_G} {cI cF cJ : ClassId} (G : Gx l s0 D cI cF cJ) (j : Nat) (iv : Int32) (xo fa ma : Nat) (t : Nat → Nat) (S : Nat → FS) {H : Heap} (hX : PX D cI cF xo fa ma t S H) (hok : ∀ i, i < 4 → okS (S i)) (hon : onS s0 H) (ht0 : ∀ q, q < s0.heap.size → t q = 0) (hts : ∀ q, H.size ≤ q → t q ≤ 13) (v9 : Option Value) (hj : j < 4) (h0 : (S j).1 = 0) : Mx l s0 y_F_cell (.code y_F_cell b_F_cell 4 (some .int)) { frames := 8, cells := 4, slots := 1094, locals := 180 } [.ref xo, .int (nI j), .int iv] H (FX t H.size) (Rq s0 (some E_S) v9 (fun H1 => PXn D cI cF xo fa ma t H.size S H1)) := by
  have hX0 := hX
  obtain ⟨fi, mk, O, hP, hD, -, -, h3⟩ := hX0
  have hfi : fi j = none := (h3 j hj).elim (fun h => h.2) (fun h => by obtain ⟨_, h8, _⟩ := h; exact absurd h0 h8)
  exact Mx.mono (c_F_cell_none G xo fa ma fi mk j iv hP hj hfi hon) (Nat.le_of_ble_eq_true rfl) (Nat.le_of_ble_eq_true rfl) (Nat.le_of_ble_eq_true rfl) (Nat.le_of_ble_eq_true rfl) (fun _ h => h.elim) (fun o H1 hz hk hq => ⟨hq.1, (hX.same (fun q h9 _ _ => hk q h9 (fun h => h))).n hts⟩)

theorem x_add_C {l : Launch} {s0 : State} {D : va_G} {cI cF cJ : ClassId} (G : Gx l s0 D cI cF cJ) (j A B n : Nat) (hd pv : Int32) (cs f : Nat → Nat) (x : Int64) (xo fa ma : Nat) (t : Nat → Nat) (S : Nat → FS) {H : Heap} (hX : PX D cI cF xo fa ma t S H) (hok : ∀ i, i < 4 → okS (S i)) (hon : onS s0 H) (ht0 : ∀ q, q < s0.heap.size → t q = 0) (hts : ∀ q, H.size ≤ q → t q ≤ 13)  (hj : j < 4) (hSj : S j = (1, A, B, hd, pv, cs, n, f))  : Mx l s0 y_F_add (.code y_F_add b_F_add 5 (some .int)) { frames := 8, cells := 4, slots := 1094, locals := 180 } [.ref xo, .int (nI j), .long x] H (FX t H.size) (Rq s0 (if (addS (S j) x).1 then none else some E_U) (some (.int (addS (S j) x).2.2.2.2.1)) (fun H1 => PXn D cI cF xo fa ma t H.size (va_up S j (addS (S j) x).2) H1)) := by
  have h0 : (S j).1 ≠ 0 := by rw [hSj]; exact (by decide : 1 ≠ 0)
  have hoj := hok j hj
  obtain ⟨fi, mk, h, hP, hD, hfi, ho, hcl⟩ := hX.at hj h0
  rw [hSj] at ho hcl hoj
  have hkx : kx j 1 < 12 := kx_lt hj (by decide) (by decide)
  rcases ho with ⟨-, h1, h2, h3, pl, pb, hPo, hDo⟩ | ⟨e9, -⟩ | ⟨e9, -⟩
  all_goals first | (cases e9; done) | skip
  skip
  have hPj := va_P.app hP hPo
  have hDj := va_D.join2 hD hDo (fun q a b => by have a9 : t q = 1 := a; have b9 : t q = 2 + kx j 1 := b; omega)
  have hMr := c_F_add_C G xo fa ma fi mk h h1 h2 h3 A B hd pv cs pl pb n f j x hPj hDj hoj hj hfi hon (had_of (t := t) hDj ht0 (fun q h9 => by rcases h9 with h9 | h9 <;> (have h8 : t q = _ := h9; omega))) 
  refine Mx.mono hMr (Nat.le_of_ble_eq_true rfl) (Nat.le_of_ble_eq_true rfl) (Nat.le_of_ble_eq_true rfl) (Nat.le_of_ble_eq_true rfl) (FX.of (g := 0) hDj (fun q h9 => by rcases h9 with h9 | h9 <;> (have h8 : t q = _ := h9; have h7 : kx j ((1, A, B, hd, pv, cs, n, f) : FS).1 < 12 := hkx; omega))) (fun o H1 hz hk hq => ?_)
  obtain ⟨hr, hw⟩ := hq
  refine ⟨by rw [hSj, addS_1]; exact hr, PX.n (hcl H1 _ (hw.sub [0, 1, 2] rfl) (by rw [addS_kd, hSj]) ?_ (fun q h9 a b => hk q h9 (notA (t := t) hDj h9 (fun h8 => h8.elim a b)))) hts⟩
  rw [hSj, addS_1]
  exact Or.inl ⟨rfl, h1, h2, h3, _, _, hw.sub [3, 4, 5, 6] rfl, va_D.same2 [h, h1, h2, h3] hDo rfl rfl⟩

theorem x_remove_C {l : Launch} {s0 : State} {D : va_G} {cI cF cJ : ClassId} (G : Gx l s0 D cI cF cJ) (j A B n : Nat) (hd pv : Int32) (cs f : Nat → Nat) (x : Int64) (xo fa ma : Nat) (t : Nat → Nat) (S : Nat → FS) {H : Heap} (hX : PX D cI cF xo fa ma t S H) (hok : ∀ i, i < 4 → okS (S i)) (hon : onS s0 H) (ht0 : ∀ q, q < s0.heap.size → t q = 0) (hts : ∀ q, H.size ≤ q → t q ≤ 13)  (hj : j < 4) (hSj : S j = (1, A, B, hd, pv, cs, n, f))  : Mx l s0 y_F_remove (.code y_F_remove b_F_remove 5 (some .int)) { frames := 8, cells := 4, slots := 1094, locals := 180 } [.ref xo, .int (nI j), .long x] H (FX t H.size) (Rq s0 (if (remS (S j) x).1 then none else some E_N) (some (.int (remS (S j) x).2.2.2.2.1)) (fun H1 => PXn D cI cF xo fa ma t H.size (va_up S j (remS (S j) x).2) H1)) := by
  have h0 : (S j).1 ≠ 0 := by rw [hSj]; exact (by decide : 1 ≠ 0)
  have hoj := hok j hj
  obtain ⟨fi, mk, h, hP, hD, hfi, ho, hcl⟩ := hX.at hj h0
  rw [hSj] at ho hcl hoj
  have hkx : kx j 1 < 12 := kx_lt hj (by decide) (by decide)
  rcases ho with ⟨-, h1, h2, h3, pl, pb, hPo, hDo⟩ | ⟨e9, -⟩ | ⟨e9, -⟩
  all_goals first | (cases e9; done) | skip
  skip
  have hPj := va_P.app hP hPo
  have hDj := va_D.join2 hD hDo (fun q a b => by have a9 : t q = 1 := a; have b9 : t q = 2 + kx j 1 := b; omega)
  have hMr := c_F_remove_C G xo fa ma fi mk h h1 h2 h3 A B hd pv cs pl pb n f j x hPj hDj hoj hj hfi hon (had_of (t := t) hDj ht0 (fun q h9 => by rcases h9 with h9 | h9 <;> (have h8 : t q = _ := h9; omega))) 
  refine Mx.mono hMr (Nat.le_of_ble_eq_true rfl) (Nat.le_of_ble_eq_true rfl) (Nat.le_of_ble_eq_true rfl) (Nat.le_of_ble_eq_true rfl) (FX.of (g := 0) hDj (fun q h9 => by rcases h9 with h9 | h9 <;> (have h8 : t q = _ := h9; have h7 : kx j ((1, A, B, hd, pv, cs, n, f) : FS).1 < 12 := hkx; omega))) (fun o H1 hz hk hq => ?_)
  obtain ⟨hr, hw⟩ := hq
  refine ⟨by rw [hSj, remS_1]; exact hr, PX.n (hcl H1 _ (hw.sub [0, 1, 2] rfl) (by rw [remS_kd, hSj]) ?_ (fun q h9 a b => hk q h9 (notA (t := t) hDj h9 (fun h8 => h8.elim a b)))) hts⟩
  rw [hSj, remS_1]
  exact Or.inl ⟨rfl, h1, h2, h3, _, _, hw.sub [3, 4, 5, 6] rfl, va_D.same2 [h, h1, h2, h3] hDo rfl rfl⟩

theorem x_has_C {l : Launch} {s0 : State} {D : va_G} {cI cF cJ : ClassId} (G : Gx l s0 D cI cF cJ) (j A B n : Nat) (hd pv : Int32) (cs f : Nat → Nat) (x : Int64) (xo fa ma : Nat) (t : Nat → Nat) (S : Nat → FS) {H : Heap} (hX : PX D cI cF xo fa ma t S H) (hok : ∀ i, i < 4 → okS (S i)) (hon : onS s0 H) (ht0 : ∀ q, q < s0.heap.size → t q = 0) (hts : ∀ q, H.size ≤ q → t q ≤ 13)  (hj : j < 4) (hSj : S j = (1, A, B, hd, pv, cs, n, f))  : Mx l s0 y_F_has (.code y_F_has b_F_has 4 (some .boolean)) { frames := 8, cells := 4, slots := 1094, locals := 180 } [.ref xo, .int (nI j), .long x] H (FX t H.size) (Rq s0 none (some (.int (bI (hasS (S j) x)))) (fun H1 => PXn D cI cF xo fa ma t H.size (va_up S j (S j)) H1)) := by
  have h0 : (S j).1 ≠ 0 := by rw [hSj]; exact (by decide : 1 ≠ 0)
  have hoj := hok j hj
  obtain ⟨fi, mk, h, hP, hD, hfi, ho, hcl⟩ := hX.at hj h0
  rw [hSj] at ho hcl hoj
  have hkx : kx j 1 < 12 := kx_lt hj (by decide) (by decide)
  rcases ho with ⟨-, h1, h2, h3, pl, pb, hPo, hDo⟩ | ⟨e9, -⟩ | ⟨e9, -⟩
  all_goals first | (cases e9; done) | skip
  skip
  have hPj := va_P.app hP hPo
  have hDj := va_D.join2 hD hDo (fun q a b => by have a9 : t q = 1 := a; have b9 : t q = 2 + kx j 1 := b; omega)
  have hMr := c_F_has_C G xo fa ma fi mk h h1 h2 h3 A B hd pv cs pl pb n f j x hPj hDj hoj hj hfi hon (had_of (t := t) hDj ht0 (fun q h9 => by rcases h9 with h9 | h9 <;> (have h8 : t q = _ := h9; omega))) 
  refine Mx.mono hMr (Nat.le_of_ble_eq_true rfl) (Nat.le_of_ble_eq_true rfl) (Nat.le_of_ble_eq_true rfl) (Nat.le_of_ble_eq_true rfl) (FX.of (g := 0) hDj (fun q h9 => by rcases h9 with h9 | h9 <;> (have h8 : t q = _ := h9; have h7 : kx j ((1, A, B, hd, pv, cs, n, f) : FS).1 < 12 := hkx; omega))) (fun o H1 hz hk hq => ?_)
  obtain ⟨hr, hw⟩ := hq
  refine ⟨by (try rw [hSj]); exact hr, PX.n (hcl H1 _ (hw.sub [0, 1, 2] rfl) (by rw [hSj]) ?_ (fun q h9 a b => hk q h9 (notA (t := t) hDj h9 (fun h8 => h8.elim a b)))) hts⟩
  try rw [hSj]
  exact Or.inl ⟨rfl, h1, h2, h3, _, _, hw.sub [3, 4, 5, 6] rfl, va_D.same2 [h, h1, h2, h3] hDo rfl rfl⟩

theorem x_same_C {l : Launch} {s0 : State} {D : va_G} {cI cF cJ : ClassId} (G : Gx l s0 D cI cF cJ) (j A B n : Nat) (hd pv : Int32) (cs f : Nat → Nat) (x y : Int64) (xo fa ma : Nat) (t : Nat → Nat) (S : Nat → FS) {H : Heap} (hX : PX D cI cF xo fa ma t S H) (hok : ∀ i, i < 4 → okS (S i)) (hon : onS s0 H) (ht0 : ∀ q, q < s0.heap.size → t q = 0) (hts : ∀ q, H.size ≤ q → t q ≤ 13)  (hj : j < 4) (hSj : S j = (1, A, B, hd, pv, cs, n, f))  : Mx l s0 y_F_same (.code y_F_same b_F_same 6 (some .boolean)) { frames := 8, cells := 4, slots := 1094, locals := 180 } [.ref xo, .int (nI j), .long x, .long y] H (FX t H.size) (Rq s0 none (some (.int (bI (sameS (S j) x y)))) (fun H1 => PXn D cI cF xo fa ma t H.size (va_up S j (S j)) H1)) := by
  have h0 : (S j).1 ≠ 0 := by rw [hSj]; exact (by decide : 1 ≠ 0)
  have hoj := hok j hj
  obtain ⟨fi, mk, h, hP, hD, hfi, ho, hcl⟩ := hX.at hj h0
  rw [hSj] at ho hcl hoj
  have hkx : kx j 1 < 12 := kx_lt hj (by decide) (by decide)
  rcases ho with ⟨-, h1, h2, h3, pl, pb, hPo, hDo⟩ | ⟨e9, -⟩ | ⟨e9, -⟩
  all_goals first | (cases e9; done) | skip
  skip
  have hPj := va_P.app hP hPo
  have hDj := va_D.join2 hD hDo (fun q a b => by have a9 : t q = 1 := a; have b9 : t q = 2 + kx j 1 := b; omega)
  have hMr := c_F_same_C G xo fa ma fi mk h h1 h2 h3 A B hd pv cs pl pb n f j x y hPj hDj hoj hj hfi hon (had_of (t := t) hDj ht0 (fun q h9 => by rcases h9 with h9 | h9 <;> (have h8 : t q = _ := h9; omega))) 
  refine Mx.mono hMr (Nat.le_of_ble_eq_true rfl) (Nat.le_of_ble_eq_true rfl) (Nat.le_of_ble_eq_true rfl) (Nat.le_of_ble_eq_true rfl) (FX.of (g := 0) hDj (fun q h9 => by rcases h9 with h9 | h9 <;> (have h8 : t q = _ := h9; have h7 : kx j ((1, A, B, hd, pv, cs, n, f) : FS).1 < 12 := hkx; omega))) (fun o H1 hz hk hq => ?_)
  obtain ⟨hr, hw⟩ := hq
  refine ⟨by rw [hSj, sameS_1]; exact hr, PX.n (hcl H1 _ (hw.sub [0, 1, 2] rfl) (by rw [hSj]) ?_ (fun q h9 a b => hk q h9 (notA (t := t) hDj h9 (fun h8 => h8.elim a b)))) hts⟩
  try rw [hSj]
  exact Or.inl ⟨rfl, h1, h2, h3, _, _, hw.sub [3, 4, 5, 6] rfl, va_D.same2 [h, h1, h2, h3] hDo rfl rfl⟩

theorem x_hasAll_C {l : Launch} {s0 : State} {D : va_G} {cI cF cJ : ClassId} (G : Gx l s0 D cI cF cJ) (j A B n : Nat) (hd pv : Int32) (cs f : Nat → Nat) (x st : Int64) (nN : Nat) (xo fa ma : Nat) (t : Nat → Nat) (S : Nat → FS) {H : Heap} (hX : PX D cI cF xo fa ma t S H) (hok : ∀ i, i < 4 → okS (S i)) (hon : onS s0 H) (ht0 : ∀ q, q < s0.heap.size → t q = 0) (hts : ∀ q, H.size ≤ q → t q ≤ 13)  (hj : j < 4) (hSj : S j = (1, A, B, hd, pv, cs, n, f)) (hn4 : nN ≤ 400) : Mx l s0 y_F_hasAll (.code y_F_hasAll b_F_hasAll 12 (some .int)) { frames := 8, cells := 4, slots := 1094, locals := 180 } [.ref xo, .int (nI j), .long x, .long st, .int (nI nN)] H (FX t H.size) (Rq s0 none (some (.int (nI (haS (S j) nN x st)))) (fun H1 => PXn D cI cF xo fa ma t H.size (va_up S j (S j)) H1)) := by
  have h0 : (S j).1 ≠ 0 := by rw [hSj]; exact (by decide : 1 ≠ 0)
  have hoj := hok j hj
  obtain ⟨fi, mk, h, hP, hD, hfi, ho, hcl⟩ := hX.at hj h0
  rw [hSj] at ho hcl hoj
  have hkx : kx j 1 < 12 := kx_lt hj (by decide) (by decide)
  rcases ho with ⟨-, h1, h2, h3, pl, pb, hPo, hDo⟩ | ⟨e9, -⟩ | ⟨e9, -⟩
  all_goals first | (cases e9; done) | skip
  skip
  have hPj := va_P.app hP hPo
  have hDj := va_D.join2 hD hDo (fun q a b => by have a9 : t q = 1 := a; have b9 : t q = 2 + kx j 1 := b; omega)
  have hMr := c_F_hasAll_C G xo fa ma fi mk h h1 h2 h3 A B hd pv cs pl pb n f j x st nN hPj hDj hoj hj hfi hon (had_of (t := t) hDj ht0 (fun q h9 => by rcases h9 with h9 | h9 <;> (have h8 : t q = _ := h9; omega))) hn4
  refine Mx.mono hMr (Nat.le_of_ble_eq_true rfl) (Nat.le_of_ble_eq_true rfl) (Nat.le_of_ble_eq_true rfl) (Nat.le_of_ble_eq_true rfl) (FX.of (g := 0) hDj (fun q h9 => by rcases h9 with h9 | h9 <;> (have h8 : t q = _ := h9; have h7 : kx j ((1, A, B, hd, pv, cs, n, f) : FS).1 < 12 := hkx; omega))) (fun o H1 hz hk hq => ?_)
  obtain ⟨hr, pl2, hw⟩ := hq
  refine ⟨by (try rw [hSj]); exact hr, PX.n (hcl H1 _ (hw.sub [0, 1, 2] rfl) (by rw [hSj]) ?_ (fun q h9 a b => hk q h9 (notA (t := t) hDj h9 (fun h8 => h8.elim a b)))) hts⟩
  try rw [hSj]
  exact Or.inl ⟨rfl, h1, h2, h3, _, _, hw.sub [3, 4, 5, 6] rfl, va_D.same2 [h, h1, h2, h3] hDo rfl rfl⟩

theorem x_addAll_C {l : Launch} {s0 : State} {D : va_G} {cI cF cJ : ClassId} (G : Gx l s0 D cI cF cJ) (j A B n : Nat) (hd pv : Int32) (cs f : Nat → Nat) (x st : Int64) (nN : Nat) (xo fa ma : Nat) (t : Nat → Nat) (S : Nat → FS) {H : Heap} (hX : PX D cI cF xo fa ma t S H) (hok : ∀ i, i < 4 → okS (S i)) (hon : onS s0 H) (ht0 : ∀ q, q < s0.heap.size → t q = 0) (hts : ∀ q, H.size ≤ q → t q ≤ 13)  (hj : j < 4) (hSj : S j = (1, A, B, hd, pv, cs, n, f)) (hn4 : nN ≤ 400) : Mx l s0 y_F_addAll (.code y_F_addAll b_F_addAll 11 (some .int)) { frames := 8, cells := 4, slots := 1094, locals := 180 } [.ref xo, .int (nI j), .long x, .long st, .int (nI nN)] H (FX t H.size) (Rq s0 none (some (.int (nI (aaS nN (S j) x st).1))) (fun H1 => PXn D cI cF xo fa ma t H.size (va_up S j (aaS nN (S j) x st).2) H1)) := by
  have h0 : (S j).1 ≠ 0 := by rw [hSj]; exact (by decide : 1 ≠ 0)
  have hoj := hok j hj
  obtain ⟨fi, mk, h, hP, hD, hfi, ho, hcl⟩ := hX.at hj h0
  rw [hSj] at ho hcl hoj
  have hkx : kx j 1 < 12 := kx_lt hj (by decide) (by decide)
  rcases ho with ⟨-, h1, h2, h3, pl, pb, hPo, hDo⟩ | ⟨e9, -⟩ | ⟨e9, -⟩
  all_goals first | (cases e9; done) | skip
  skip
  have hPj := va_P.app hP hPo
  have hDj := va_D.join2 hD hDo (fun q a b => by have a9 : t q = 1 := a; have b9 : t q = 2 + kx j 1 := b; omega)
  have hMr := c_F_addAll_C G xo fa ma fi mk h h1 h2 h3 A B hd pv cs pl pb n f j x st nN hPj hDj hoj hj hfi hon (had_of (t := t) hDj ht0 (fun q h9 => by rcases h9 with h9 | h9 <;> (have h8 : t q = _ := h9; omega))) hn4
  refine Mx.mono hMr (Nat.le_of_ble_eq_true rfl) (Nat.le_of_ble_eq_true rfl) (Nat.le_of_ble_eq_true rfl) (Nat.le_of_ble_eq_true rfl) (FX.of (g := 0) hDj (fun q h9 => by rcases h9 with h9 | h9 <;> (have h8 : t q = _ := h9; have h7 : kx j ((1, A, B, hd, pv, cs, n, f) : FS).1 < 12 := hkx; omega))) (fun o H1 hz hk hq => ?_)
  obtain ⟨hr, hd2, cs2, pl2, he9, hw⟩ := hq
  refine ⟨by (try rw [hSj]); exact hr, PX.n (hcl H1 _ (hw.sub [0, 1, 2] rfl) (by rw [(okS_aa (hok j hj) h0).2, hSj]) ?_ (fun q h9 a b => hk q h9 (notA (t := t) hDj h9 (fun h8 => h8.elim a b)))) hts⟩
  rw [hSj, he9]
  exact Or.inl ⟨rfl, h1, h2, h3, _, _, hw.sub [3, 4, 5, 6] rfl, va_D.same2 [h, h1, h2, h3] hDo rfl rfl⟩

theorem x_addAll_items_C {l : Launch} {s0 : State} {D : va_G} {cI cF cJ : ClassId} (G : Gx l s0 D cI cF cJ) (j A B n : Nat) (hd pv : Int32) (cs f : Nat → Nat) (x st : Int64) (v : Int32) (v9 : Option Value) (xo fa ma : Nat) (t : Nat → Nat) (S : Nat → FS) {H : Heap} (hX : PX D cI cF xo fa ma t S H) (hok : ∀ i, i < 4 → okS (S i)) (hon : onS s0 H) (ht0 : ∀ q, q < s0.heap.size → t q = 0) (hts : ∀ q, H.size ≤ q → t q ≤ 13)  (hj : j < 4) (hSj : S j = (1, A, B, hd, pv, cs, n, f)) (hv : wth v (nI 0) (nI 400) = false) : Mx l s0 y_F_addAll (.code y_F_addAll b_F_addAll 11 (some .int)) { frames := 8, cells := 4, slots := 1094, locals := 180 } [.ref xo, .int (nI j), .long x, .long st, .int v] H (FX t H.size) (Rq s0 (some E_A) v9 (fun H1 => PXn D cI cF xo fa ma t H.size (va_up S j (S j)) H1)) := by
  have h0 : (S j).1 ≠ 0 := by rw [hSj]; exact (by decide : 1 ≠ 0)
  have hoj := hok j hj
  obtain ⟨fi, mk, h, hP, hD, hfi, ho, hcl⟩ := hX.at hj h0
  rw [hSj] at ho hcl hoj
  have hkx : kx j 1 < 12 := kx_lt hj (by decide) (by decide)
  rcases ho with ⟨-, h1, h2, h3, pl, pb, hPo, hDo⟩ | ⟨e9, -⟩ | ⟨e9, -⟩
  all_goals first | (cases e9; done) | skip
  skip
  have hPj := va_P.app hP hPo
  have hDj := va_D.join2 hD hDo (fun q a b => by have a9 : t q = 1 := a; have b9 : t q = 2 + kx j 1 := b; omega)
  have hMr := c_F_addAll_C_items G xo fa ma fi mk h h1 h2 h3 A B hd pv cs pl pb n f j x st v hPj hDj hoj hj hfi hon (had_of (t := t) hDj ht0 (fun q h9 => by rcases h9 with h9 | h9 <;> (have h8 : t q = _ := h9; omega))) hv
  refine Mx.mono hMr (Nat.le_of_ble_eq_true rfl) (Nat.le_of_ble_eq_true rfl) (Nat.le_of_ble_eq_true rfl) (Nat.le_of_ble_eq_true rfl) (FX.of (g := 0) hDj (fun q h9 => by rcases h9 with h9 | h9 <;> (have h8 : t q = _ := h9; have h7 : kx j ((1, A, B, hd, pv, cs, n, f) : FS).1 < 12 := hkx; omega))) (fun o H1 hz hk hq => ?_)
  obtain ⟨hr, hw⟩ := hq
  refine ⟨by (try rw [hSj]); exact hr, PX.n (hcl H1 _ (hw.sub [0, 1, 2] rfl) (by rw [hSj]) ?_ (fun q h9 a b => hk q h9 (notA (t := t) hDj h9 (fun h8 => h8.elim a b)))) hts⟩
  try rw [hSj]
  exact Or.inl ⟨rfl, h1, h2, h3, _, _, hw.sub [3, 4, 5, 6] rfl, va_D.same2 [h, h1, h2, h3] hDo rfl rfl⟩

theorem x_hasAll_items_C {l : Launch} {s0 : State} {D : va_G} {cI cF cJ : ClassId} (G : Gx l s0 D cI cF cJ) (j A B n : Nat) (hd pv : Int32) (cs f : Nat → Nat) (x st : Int64) (v : Int32) (v9 : Option Value) (xo fa ma : Nat) (t : Nat → Nat) (S : Nat → FS) {H : Heap} (hX : PX D cI cF xo fa ma t S H) (hok : ∀ i, i < 4 → okS (S i)) (hon : onS s0 H) (ht0 : ∀ q, q < s0.heap.size → t q = 0) (hts : ∀ q, H.size ≤ q → t q ≤ 13)  (hj : j < 4) (hSj : S j = (1, A, B, hd, pv, cs, n, f)) (hv : wth v (nI 0) (nI 400) = false) : Mx l s0 y_F_hasAll (.code y_F_hasAll b_F_hasAll 12 (some .int)) { frames := 8, cells := 4, slots := 1094, locals := 180 } [.ref xo, .int (nI j), .long x, .long st, .int v] H (FX t H.size) (Rq s0 (some E_A) v9 (fun H1 => PXn D cI cF xo fa ma t H.size (va_up S j (S j)) H1)) := by
  have h0 : (S j).1 ≠ 0 := by rw [hSj]; exact (by decide : 1 ≠ 0)
  have hoj := hok j hj
  obtain ⟨fi, mk, h, hP, hD, hfi, ho, hcl⟩ := hX.at hj h0
  rw [hSj] at ho hcl hoj
  have hkx : kx j 1 < 12 := kx_lt hj (by decide) (by decide)
  rcases ho with ⟨-, h1, h2, h3, pl, pb, hPo, hDo⟩ | ⟨e9, -⟩ | ⟨e9, -⟩
  all_goals first | (cases e9; done) | skip
  skip
  have hPj := va_P.app hP hPo
  have hDj := va_D.join2 hD hDo (fun q a b => by have a9 : t q = 1 := a; have b9 : t q = 2 + kx j 1 := b; omega)
  have hMr := c_F_hasAll_C_items G xo fa ma fi mk h h1 h2 h3 A B hd pv cs pl pb n f j x st v hPj hDj hoj hj hfi hon (had_of (t := t) hDj ht0 (fun q h9 => by rcases h9 with h9 | h9 <;> (have h8 : t q = _ := h9; omega))) hv
  refine Mx.mono hMr (Nat.le_of_ble_eq_true rfl) (Nat.le_of_ble_eq_true rfl) (Nat.le_of_ble_eq_true rfl) (Nat.le_of_ble_eq_true rfl) (FX.of (g := 0) hDj (fun q h9 => by rcases h9 with h9 | h9 <;> (have h8 : t q = _ := h9; have h7 : kx j ((1, A, B, hd, pv, cs, n, f) : FS).1 < 12 := hkx; omega))) (fun o H1 hz hk hq => ?_)
  obtain ⟨hr, hw⟩ := hq
  refine ⟨by (try rw [hSj]); exact hr, PX.n (hcl H1 _ (hw.sub [0, 1, 2] rfl) (by rw [hSj]) ?_ (fun q h9 a b => hk q h9 (notA (t := t) hDj h9 (fun h8 => h8.elim a b)))) hts⟩
  try rw [hSj]
  exact Or.inl ⟨rfl, h1, h2, h3, _, _, hw.sub [3, 4, 5, 6] rfl, va_D.same2 [h, h1, h2, h3] hDo rfl rfl⟩

theorem x_count_0_C {l : Launch} {s0 : State} {D : va_G} {cI cF cJ : ClassId} (G : Gx l s0 D cI cF cJ) (j A B n : Nat) (hd pv : Int32) (cs f : Nat → Nat)  (xo fa ma : Nat) (t : Nat → Nat) (S : Nat → FS) {H : Heap} (hX : PX D cI cF xo fa ma t S H) (hok : ∀ i, i < 4 → okS (S i)) (hon : onS s0 H) (ht0 : ∀ q, q < s0.heap.size → t q = 0) (hts : ∀ q, H.size ≤ q → t q ≤ 13)  (hj : j < 4) (hSj : S j = (1, A, B, hd, pv, cs, n, f))  : Mx l s0 y_F_count (.code y_F_count b_F_count 4 (some .int)) { frames := 8, cells := 4, slots := 1094, locals := 180 } [.ref xo, .int (nI j), .int (nI 0)] H (FX t H.size) (Rq s0 none (some (.int (cntS (S j) 0))) (fun H1 => PXn D cI cF xo fa ma t H.size (va_up S j (S j)) H1)) := by
  have h0 : (S j).1 ≠ 0 := by rw [hSj]; exact (by decide : 1 ≠ 0)
  have hoj := hok j hj
  obtain ⟨fi, mk, h, hP, hD, hfi, ho, hcl⟩ := hX.at hj h0
  rw [hSj] at ho hcl hoj
  have hkx : kx j 1 < 12 := kx_lt hj (by decide) (by decide)
  rcases ho with ⟨-, h1, h2, h3, pl, pb, hPo, hDo⟩ | ⟨e9, -⟩ | ⟨e9, -⟩
  all_goals first | (cases e9; done) | skip
  skip
  have hPj := va_P.app hP hPo
  have hDj := va_D.join2 hD hDo (fun q a b => by have a9 : t q = 1 := a; have b9 : t q = 2 + kx j 1 := b; omega)
  have hMr := c_F_count_C_0 G xo fa ma fi mk h h1 h2 h3 A B hd pv cs pl pb n f j  hPj hDj hoj hj hfi hon (had_of (t := t) hDj ht0 (fun q h9 => by rcases h9 with h9 | h9 <;> (have h8 : t q = _ := h9; omega))) 
  refine Mx.mono hMr (Nat.le_of_ble_eq_true rfl) (Nat.le_of_ble_eq_true rfl) (Nat.le_of_ble_eq_true rfl) (Nat.le_of_ble_eq_true rfl) (FX.of (g := 0) hDj (fun q h9 => by rcases h9 with h9 | h9 <;> (have h8 : t q = _ := h9; have h7 : kx j ((1, A, B, hd, pv, cs, n, f) : FS).1 < 12 := hkx; omega))) (fun o H1 hz hk hq => ?_)
  obtain ⟨hr, hw⟩ := hq
  refine ⟨by (try rw [hSj]); exact hr, PX.n (hcl H1 _ (hw.sub [0, 1, 2] rfl) (by rw [hSj]) ?_ (fun q h9 a b => hk q h9 (notA (t := t) hDj h9 (fun h8 => h8.elim a b)))) hts⟩
  try rw [hSj]
  exact Or.inl ⟨rfl, h1, h2, h3, _, _, hw.sub [3, 4, 5, 6] rfl, va_D.same2 [h, h1, h2, h3] hDo rfl rfl⟩

theorem x_count_1_C {l : Launch} {s0 : State} {D : va_G} {cI cF cJ : ClassId} (G : Gx l s0 D cI cF cJ) (j A B n : Nat) (hd pv : Int32) (cs f : Nat → Nat)  (xo fa ma : Nat) (t : Nat → Nat) (S : Nat → FS) {H : Heap} (hX : PX D cI cF xo fa ma t S H) (hok : ∀ i, i < 4 → okS (S i)) (hon : onS s0 H) (ht0 : ∀ q, q < s0.heap.size → t q = 0) (hts : ∀ q, H.size ≤ q → t q ≤ 13)  (hj : j < 4) (hSj : S j = (1, A, B, hd, pv, cs, n, f))  : Mx l s0 y_F_count (.code y_F_count b_F_count 4 (some .int)) { frames := 8, cells := 4, slots := 1094, locals := 180 } [.ref xo, .int (nI j), .int (nI 1)] H (FX t H.size) (Rq s0 none (some (.int (cntS (S j) 1))) (fun H1 => PXn D cI cF xo fa ma t H.size (va_up S j (S j)) H1)) := by
  have h0 : (S j).1 ≠ 0 := by rw [hSj]; exact (by decide : 1 ≠ 0)
  have hoj := hok j hj
  obtain ⟨fi, mk, h, hP, hD, hfi, ho, hcl⟩ := hX.at hj h0
  rw [hSj] at ho hcl hoj
  have hkx : kx j 1 < 12 := kx_lt hj (by decide) (by decide)
  rcases ho with ⟨-, h1, h2, h3, pl, pb, hPo, hDo⟩ | ⟨e9, -⟩ | ⟨e9, -⟩
  all_goals first | (cases e9; done) | skip
  skip
  have hPj := va_P.app hP hPo
  have hDj := va_D.join2 hD hDo (fun q a b => by have a9 : t q = 1 := a; have b9 : t q = 2 + kx j 1 := b; omega)
  have hMr := c_F_count_C_1 G xo fa ma fi mk h h1 h2 h3 A B hd pv cs pl pb n f j  hPj hDj hoj hj hfi hon (had_of (t := t) hDj ht0 (fun q h9 => by rcases h9 with h9 | h9 <;> (have h8 : t q = _ := h9; omega))) 
  refine Mx.mono hMr (Nat.le_of_ble_eq_true rfl) (Nat.le_of_ble_eq_true rfl) (Nat.le_of_ble_eq_true rfl) (Nat.le_of_ble_eq_true rfl) (FX.of (g := 0) hDj (fun q h9 => by rcases h9 with h9 | h9 <;> (have h8 : t q = _ := h9; have h7 : kx j ((1, A, B, hd, pv, cs, n, f) : FS).1 < 12 := hkx; omega))) (fun o H1 hz hk hq => ?_)
  obtain ⟨hr, hw⟩ := hq
  refine ⟨by (try rw [hSj]); exact hr, PX.n (hcl H1 _ (hw.sub [0, 1, 2] rfl) (by rw [hSj]) ?_ (fun q h9 a b => hk q h9 (notA (t := t) hDj h9 (fun h8 => h8.elim a b)))) hts⟩
  try rw [hSj]
  exact Or.inl ⟨rfl, h1, h2, h3, _, _, hw.sub [3, 4, 5, 6] rfl, va_D.same2 [h, h1, h2, h3] hDo rfl rfl⟩

theorem x_count_2_C {l : Launch} {s0 : State} {D : va_G} {cI cF cJ : ClassId} (G : Gx l s0 D cI cF cJ) (j A B n : Nat) (hd pv : Int32) (cs f : Nat → Nat)  (xo fa ma : Nat) (t : Nat → Nat) (S : Nat → FS) {H : Heap} (hX : PX D cI cF xo fa ma t S H) (hok : ∀ i, i < 4 → okS (S i)) (hon : onS s0 H) (ht0 : ∀ q, q < s0.heap.size → t q = 0) (hts : ∀ q, H.size ≤ q → t q ≤ 13)  (hj : j < 4) (hSj : S j = (1, A, B, hd, pv, cs, n, f))  : Mx l s0 y_F_count (.code y_F_count b_F_count 4 (some .int)) { frames := 8, cells := 4, slots := 1094, locals := 180 } [.ref xo, .int (nI j), .int (nI 2)] H (FX t H.size) (Rq s0 none (some (.int (cntS (S j) 2))) (fun H1 => PXn D cI cF xo fa ma t H.size (va_up S j (S j)) H1)) := by
  have h0 : (S j).1 ≠ 0 := by rw [hSj]; exact (by decide : 1 ≠ 0)
  have hoj := hok j hj
  obtain ⟨fi, mk, h, hP, hD, hfi, ho, hcl⟩ := hX.at hj h0
  rw [hSj] at ho hcl hoj
  have hkx : kx j 1 < 12 := kx_lt hj (by decide) (by decide)
  rcases ho with ⟨-, h1, h2, h3, pl, pb, hPo, hDo⟩ | ⟨e9, -⟩ | ⟨e9, -⟩
  all_goals first | (cases e9; done) | skip
  skip
  have hPj := va_P.app hP hPo
  have hDj := va_D.join2 hD hDo (fun q a b => by have a9 : t q = 1 := a; have b9 : t q = 2 + kx j 1 := b; omega)
  have hMr := c_F_count_C_2 G xo fa ma fi mk h h1 h2 h3 A B hd pv cs pl pb n f j  hPj hDj hoj hj hfi hon (had_of (t := t) hDj ht0 (fun q h9 => by rcases h9 with h9 | h9 <;> (have h8 : t q = _ := h9; omega))) 
  refine Mx.mono hMr (Nat.le_of_ble_eq_true rfl) (Nat.le_of_ble_eq_true rfl) (Nat.le_of_ble_eq_true rfl) (Nat.le_of_ble_eq_true rfl) (FX.of (g := 0) hDj (fun q h9 => by rcases h9 with h9 | h9 <;> (have h8 : t q = _ := h9; have h7 : kx j ((1, A, B, hd, pv, cs, n, f) : FS).1 < 12 := hkx; omega))) (fun o H1 hz hk hq => ?_)
  obtain ⟨hr, hw⟩ := hq
  refine ⟨by (try rw [hSj]); exact hr, PX.n (hcl H1 _ (hw.sub [0, 1, 2] rfl) (by rw [hSj]) ?_ (fun q h9 a b => hk q h9 (notA (t := t) hDj h9 (fun h8 => h8.elim a b)))) hts⟩
  try rw [hSj]
  exact Or.inl ⟨rfl, h1, h2, h3, _, _, hw.sub [3, 4, 5, 6] rfl, va_D.same2 [h, h1, h2, h3] hDo rfl rfl⟩

theorem x_count_3_C {l : Launch} {s0 : State} {D : va_G} {cI cF cJ : ClassId} (G : Gx l s0 D cI cF cJ) (j A B n : Nat) (hd pv : Int32) (cs f : Nat → Nat)  (xo fa ma : Nat) (t : Nat → Nat) (S : Nat → FS) {H : Heap} (hX : PX D cI cF xo fa ma t S H) (hok : ∀ i, i < 4 → okS (S i)) (hon : onS s0 H) (ht0 : ∀ q, q < s0.heap.size → t q = 0) (hts : ∀ q, H.size ≤ q → t q ≤ 13)  (hj : j < 4) (hSj : S j = (1, A, B, hd, pv, cs, n, f))  : Mx l s0 y_F_count (.code y_F_count b_F_count 4 (some .int)) { frames := 8, cells := 4, slots := 1094, locals := 180 } [.ref xo, .int (nI j), .int (nI 3)] H (FX t H.size) (Rq s0 none (some (.int (cntS (S j) 3))) (fun H1 => PXn D cI cF xo fa ma t H.size (va_up S j (S j)) H1)) := by
  have h0 : (S j).1 ≠ 0 := by rw [hSj]; exact (by decide : 1 ≠ 0)
  have hoj := hok j hj
  obtain ⟨fi, mk, h, hP, hD, hfi, ho, hcl⟩ := hX.at hj h0
  rw [hSj] at ho hcl hoj
  have hkx : kx j 1 < 12 := kx_lt hj (by decide) (by decide)
  rcases ho with ⟨-, h1, h2, h3, pl, pb, hPo, hDo⟩ | ⟨e9, -⟩ | ⟨e9, -⟩
  all_goals first | (cases e9; done) | skip
  skip
  have hPj := va_P.app hP hPo
  have hDj := va_D.join2 hD hDo (fun q a b => by have a9 : t q = 1 := a; have b9 : t q = 2 + kx j 1 := b; omega)
  have hMr := c_F_count_C_3 G xo fa ma fi mk h h1 h2 h3 A B hd pv cs pl pb n f j  hPj hDj hoj hj hfi hon (had_of (t := t) hDj ht0 (fun q h9 => by rcases h9 with h9 | h9 <;> (have h8 : t q = _ := h9; omega))) 
  refine Mx.mono hMr (Nat.le_of_ble_eq_true rfl) (Nat.le_of_ble_eq_true rfl) (Nat.le_of_ble_eq_true rfl) (Nat.le_of_ble_eq_true rfl) (FX.of (g := 0) hDj (fun q h9 => by rcases h9 with h9 | h9 <;> (have h8 : t q = _ := h9; have h7 : kx j ((1, A, B, hd, pv, cs, n, f) : FS).1 < 12 := hkx; omega))) (fun o H1 hz hk hq => ?_)
  obtain ⟨hr, hw⟩ := hq
  refine ⟨by (try rw [hSj]); exact hr, PX.n (hcl H1 _ (hw.sub [0, 1, 2] rfl) (by rw [hSj]) ?_ (fun q h9 a b => hk q h9 (notA (t := t) hDj h9 (fun h8 => h8.elim a b)))) hts⟩
  try rw [hSj]
  exact Or.inl ⟨rfl, h1, h2, h3, _, _, hw.sub [3, 4, 5, 6] rfl, va_D.same2 [h, h1, h2, h3] hDo rfl rfl⟩

theorem x_count_4_C {l : Launch} {s0 : State} {D : va_G} {cI cF cJ : ClassId} (G : Gx l s0 D cI cF cJ) (j A B n : Nat) (hd pv : Int32) (cs f : Nat → Nat)  (xo fa ma : Nat) (t : Nat → Nat) (S : Nat → FS) {H : Heap} (hX : PX D cI cF xo fa ma t S H) (hok : ∀ i, i < 4 → okS (S i)) (hon : onS s0 H) (ht0 : ∀ q, q < s0.heap.size → t q = 0) (hts : ∀ q, H.size ≤ q → t q ≤ 13)  (hj : j < 4) (hSj : S j = (1, A, B, hd, pv, cs, n, f))  : Mx l s0 y_F_count (.code y_F_count b_F_count 4 (some .int)) { frames := 8, cells := 4, slots := 1094, locals := 180 } [.ref xo, .int (nI j), .int (nI 4)] H (FX t H.size) (Rq s0 none (some (.int (cntS (S j) 4))) (fun H1 => PXn D cI cF xo fa ma t H.size (va_up S j (S j)) H1)) := by
  have h0 : (S j).1 ≠ 0 := by rw [hSj]; exact (by decide : 1 ≠ 0)
  have hoj := hok j hj
  obtain ⟨fi, mk, h, hP, hD, hfi, ho, hcl⟩ := hX.at hj h0
  rw [hSj] at ho hcl hoj
  have hkx : kx j 1 < 12 := kx_lt hj (by decide) (by decide)
  rcases ho with ⟨-, h1, h2, h3, pl, pb, hPo, hDo⟩ | ⟨e9, -⟩ | ⟨e9, -⟩
  all_goals first | (cases e9; done) | skip
  skip
  have hPj := va_P.app hP hPo
  have hDj := va_D.join2 hD hDo (fun q a b => by have a9 : t q = 1 := a; have b9 : t q = 2 + kx j 1 := b; omega)
  have hMr := c_F_count_C_4 G xo fa ma fi mk h h1 h2 h3 A B hd pv cs pl pb n f j  hPj hDj hoj hj hfi hon (had_of (t := t) hDj ht0 (fun q h9 => by rcases h9 with h9 | h9 <;> (have h8 : t q = _ := h9; omega))) 
  refine Mx.mono hMr (Nat.le_of_ble_eq_true rfl) (Nat.le_of_ble_eq_true rfl) (Nat.le_of_ble_eq_true rfl) (Nat.le_of_ble_eq_true rfl) (FX.of (g := 0) hDj (fun q h9 => by rcases h9 with h9 | h9 <;> (have h8 : t q = _ := h9; have h7 : kx j ((1, A, B, hd, pv, cs, n, f) : FS).1 < 12 := hkx; omega))) (fun o H1 hz hk hq => ?_)
  obtain ⟨hr, hw⟩ := hq
  refine ⟨by (try rw [hSj]); exact hr, PX.n (hcl H1 _ (hw.sub [0, 1, 2] rfl) (by rw [hSj]) ?_ (fun q h9 a b => hk q h9 (notA (t := t) hDj h9 (fun h8 => h8.elim a b)))) hts⟩
  try rw [hSj]
  exact Or.inl ⟨rfl, h1, h2, h3, _, _, hw.sub [3, 4, 5, 6] rfl, va_D.same2 [h, h1, h2, h3] hDo rfl rfl⟩

theorem x_count_5_C {l : Launch} {s0 : State} {D : va_G} {cI cF cJ : ClassId} (G : Gx l s0 D cI cF cJ) (j A B n : Nat) (hd pv : Int32) (cs f : Nat → Nat)  (xo fa ma : Nat) (t : Nat → Nat) (S : Nat → FS) {H : Heap} (hX : PX D cI cF xo fa ma t S H) (hok : ∀ i, i < 4 → okS (S i)) (hon : onS s0 H) (ht0 : ∀ q, q < s0.heap.size → t q = 0) (hts : ∀ q, H.size ≤ q → t q ≤ 13)  (hj : j < 4) (hSj : S j = (1, A, B, hd, pv, cs, n, f))  : Mx l s0 y_F_count (.code y_F_count b_F_count 4 (some .int)) { frames := 8, cells := 4, slots := 1094, locals := 180 } [.ref xo, .int (nI j), .int (nI 5)] H (FX t H.size) (Rq s0 none (some (.int (cntS (S j) 5))) (fun H1 => PXn D cI cF xo fa ma t H.size (va_up S j (S j)) H1)) := by
  have h0 : (S j).1 ≠ 0 := by rw [hSj]; exact (by decide : 1 ≠ 0)
  have hoj := hok j hj
  obtain ⟨fi, mk, h, hP, hD, hfi, ho, hcl⟩ := hX.at hj h0
  rw [hSj] at ho hcl hoj
  have hkx : kx j 1 < 12 := kx_lt hj (by decide) (by decide)
  rcases ho with ⟨-, h1, h2, h3, pl, pb, hPo, hDo⟩ | ⟨e9, -⟩ | ⟨e9, -⟩
  all_goals first | (cases e9; done) | skip
  skip
  have hPj := va_P.app hP hPo
  have hDj := va_D.join2 hD hDo (fun q a b => by have a9 : t q = 1 := a; have b9 : t q = 2 + kx j 1 := b; omega)
  have hMr := c_F_count_C_5 G xo fa ma fi mk h h1 h2 h3 A B hd pv cs pl pb n f j  hPj hDj hoj hj hfi hon (had_of (t := t) hDj ht0 (fun q h9 => by rcases h9 with h9 | h9 <;> (have h8 : t q = _ := h9; omega))) 
  refine Mx.mono hMr (Nat.le_of_ble_eq_true rfl) (Nat.le_of_ble_eq_true rfl) (Nat.le_of_ble_eq_true rfl) (Nat.le_of_ble_eq_true rfl) (FX.of (g := 0) hDj (fun q h9 => by rcases h9 with h9 | h9 <;> (have h8 : t q = _ := h9; have h7 : kx j ((1, A, B, hd, pv, cs, n, f) : FS).1 < 12 := hkx; omega))) (fun o H1 hz hk hq => ?_)
  obtain ⟨hr, hw⟩ := hq
  refine ⟨by (try rw [hSj]); exact hr, PX.n (hcl H1 _ (hw.sub [0, 1, 2] rfl) (by rw [hSj]) ?_ (fun q h9 a b => hk q h9 (notA (t := t) hDj h9 (fun h8 => h8.elim a b)))) hts⟩
  try rw [hSj]
  exact Or.inl ⟨rfl, h1, h2, h3, _, _, hw.sub [3, 4, 5, 6] rfl, va_D.same2 [h, h1, h2, h3] hDo rfl rfl⟩

theorem x_count_out_C {l : Launch} {s0 : State} {D : va_G} {cI cF cJ : ClassId} (G : Gx l s0 D cI cF cJ) (j A B n : Nat) (hd pv : Int32) (cs f : Nat → Nat) (wv : Int32) (v9 : Option Value) (xo fa ma : Nat) (t : Nat → Nat) (S : Nat → FS) {H : Heap} (hX : PX D cI cF xo fa ma t S H) (hok : ∀ i, i < 4 → okS (S i)) (hon : onS s0 H) (ht0 : ∀ q, q < s0.heap.size → t q = 0) (hts : ∀ q, H.size ≤ q → t q ≤ 13)  (hj : j < 4) (hSj : S j = (1, A, B, hd, pv, cs, n, f)) (hw9 : wv.toInt < 0 ∨ 5 < wv.toInt) : Mx l s0 y_F_count (.code y_F_count b_F_count 4 (some .int)) { frames := 8, cells := 4, slots := 1094, locals := 180 } [.ref xo, .int (nI j), .int wv] H (FX t H.size) (Rq s0 (some E_A) v9 (fun H1 => PXn D cI cF xo fa ma t H.size (va_up S j (S j)) H1)) := by
  have h0 : (S j).1 ≠ 0 := by rw [hSj]; exact (by decide : 1 ≠ 0)
  have hoj := hok j hj
  obtain ⟨fi, mk, h, hP, hD, hfi, ho, hcl⟩ := hX.at hj h0
  rw [hSj] at ho hcl hoj
  have hkx : kx j 1 < 12 := kx_lt hj (by decide) (by decide)
  rcases ho with ⟨-, h1, h2, h3, pl, pb, hPo, hDo⟩ | ⟨e9, -⟩ | ⟨e9, -⟩
  all_goals first | (cases e9; done) | skip
  skip
  have hPj := va_P.app hP hPo
  have hDj := va_D.join2 hD hDo (fun q a b => by have a9 : t q = 1 := a; have b9 : t q = 2 + kx j 1 := b; omega)
  have hMr := c_F_count_C_out G xo fa ma fi mk h h1 h2 h3 A B hd pv cs pl pb n f j wv hPj hDj hoj hj hfi hon (had_of (t := t) hDj ht0 (fun q h9 => by rcases h9 with h9 | h9 <;> (have h8 : t q = _ := h9; omega))) hw9
  refine Mx.mono hMr (Nat.le_of_ble_eq_true rfl) (Nat.le_of_ble_eq_true rfl) (Nat.le_of_ble_eq_true rfl) (Nat.le_of_ble_eq_true rfl) (FX.of (g := 0) hDj (fun q h9 => by rcases h9 with h9 | h9 <;> (have h8 : t q = _ := h9; have h7 : kx j ((1, A, B, hd, pv, cs, n, f) : FS).1 < 12 := hkx; omega))) (fun o H1 hz hk hq => ?_)
  obtain ⟨hr, hw⟩ := hq
  refine ⟨by (try rw [hSj]); exact hr, PX.n (hcl H1 _ (hw.sub [0, 1, 2] rfl) (by rw [hSj]) ?_ (fun q h9 a b => hk q h9 (notA (t := t) hDj h9 (fun h8 => h8.elim a b)))) hts⟩
  try rw [hSj]
  exact Or.inl ⟨rfl, h1, h2, h3, _, _, hw.sub [3, 4, 5, 6] rfl, va_D.same2 [h, h1, h2, h3] hDo rfl rfl⟩

theorem x_cell_C {l : Launch} {s0 : State} {D : va_G} {cI cF cJ : ClassId} (G : Gx l s0 D cI cF cJ) (j A B n : Nat) (hd pv : Int32) (cs f : Nat → Nat) (z : Nat) (xo fa ma : Nat) (t : Nat → Nat) (S : Nat → FS) {H : Heap} (hX : PX D cI cF xo fa ma t S H) (hok : ∀ i, i < 4 → okS (S i)) (hon : onS s0 H) (ht0 : ∀ q, q < s0.heap.size → t q = 0) (hts : ∀ q, H.size ≤ q → t q ≤ 13)  (hj : j < 4) (hSj : S j = (1, A, B, hd, pv, cs, n, f)) (hz9 : z < (2 ^ A)) : Mx l s0 y_F_cell (.code y_F_cell b_F_cell 4 (some .int)) { frames := 8, cells := 4, slots := 1094, locals := 180 } [.ref xo, .int (nI j), .int (nI z)] H (FX t H.size) (Rq s0 none (some (.int (lokS (S j) z))) (fun H1 => PXn D cI cF xo fa ma t H.size (va_up S j (S j)) H1)) := by
  have h0 : (S j).1 ≠ 0 := by rw [hSj]; exact (by decide : 1 ≠ 0)
  have hoj := hok j hj
  obtain ⟨fi, mk, h, hP, hD, hfi, ho, hcl⟩ := hX.at hj h0
  rw [hSj] at ho hcl hoj
  have hkx : kx j 1 < 12 := kx_lt hj (by decide) (by decide)
  rcases ho with ⟨-, h1, h2, h3, pl, pb, hPo, hDo⟩ | ⟨e9, -⟩ | ⟨e9, -⟩
  all_goals first | (cases e9; done) | skip
  skip
  have hPj := va_P.app hP hPo
  have hDj := va_D.join2 hD hDo (fun q a b => by have a9 : t q = 1 := a; have b9 : t q = 2 + kx j 1 := b; omega)
  have hMr := c_F_cell_C G xo fa ma fi mk h h1 h2 h3 A B hd pv cs pl pb n f j z hPj hDj hoj hj hfi hon (had_of (t := t) hDj ht0 (fun q h9 => by rcases h9 with h9 | h9 <;> (have h8 : t q = _ := h9; omega))) hz9
  refine Mx.mono hMr (Nat.le_of_ble_eq_true rfl) (Nat.le_of_ble_eq_true rfl) (Nat.le_of_ble_eq_true rfl) (Nat.le_of_ble_eq_true rfl) (FX.of (g := 0) hDj (fun q h9 => by rcases h9 with h9 | h9 <;> (have h8 : t q = _ := h9; have h7 : kx j ((1, A, B, hd, pv, cs, n, f) : FS).1 < 12 := hkx; omega))) (fun o H1 hz hk hq => ?_)
  obtain ⟨hr, hw⟩ := hq
  refine ⟨by (try rw [hSj]); exact hr, PX.n (hcl H1 _ (hw.sub [0, 1, 2] rfl) (by rw [hSj]) ?_ (fun q h9 a b => hk q h9 (notA (t := t) hDj h9 (fun h8 => h8.elim a b)))) hts⟩
  try rw [hSj]
  exact Or.inl ⟨rfl, h1, h2, h3, _, _, hw.sub [3, 4, 5, 6] rfl, va_D.same2 [h, h1, h2, h3] hDo rfl rfl⟩

theorem x_cell_out_C {l : Launch} {s0 : State} {D : va_G} {cI cF cJ : ClassId} (G : Gx l s0 D cI cF cJ) (j A B n : Nat) (hd pv : Int32) (cs f : Nat → Nat) (iv : Int32) (v9 : Option Value) (xo fa ma : Nat) (t : Nat → Nat) (S : Nat → FS) {H : Heap} (hX : PX D cI cF xo fa ma t S H) (hok : ∀ i, i < 4 → okS (S i)) (hon : onS s0 H) (ht0 : ∀ q, q < s0.heap.size → t q = 0) (hts : ∀ q, H.size ≤ q → t q ≤ 13)  (hj : j < 4) (hSj : S j = (1, A, B, hd, pv, cs, n, f)) (hb9 : iv < 0 ∨ nI (2 ^ A) ≤ iv) : Mx l s0 y_F_cell (.code y_F_cell b_F_cell 4 (some .int)) { frames := 8, cells := 4, slots := 1094, locals := 180 } [.ref xo, .int (nI j), .int iv] H (FX t H.size) (Rq s0 (some E_I) v9 (fun H1 => PXn D cI cF xo fa ma t H.size (va_up S j (S j)) H1)) := by
  have h0 : (S j).1 ≠ 0 := by rw [hSj]; exact (by decide : 1 ≠ 0)
  have hoj := hok j hj
  obtain ⟨fi, mk, h, hP, hD, hfi, ho, hcl⟩ := hX.at hj h0
  rw [hSj] at ho hcl hoj
  have hkx : kx j 1 < 12 := kx_lt hj (by decide) (by decide)
  rcases ho with ⟨-, h1, h2, h3, pl, pb, hPo, hDo⟩ | ⟨e9, -⟩ | ⟨e9, -⟩
  all_goals first | (cases e9; done) | skip
  skip
  have hPj := va_P.app hP hPo
  have hDj := va_D.join2 hD hDo (fun q a b => by have a9 : t q = 1 := a; have b9 : t q = 2 + kx j 1 := b; omega)
  have hMr := c_F_cell_C_out G xo fa ma fi mk h h1 h2 h3 A B hd pv cs pl pb n f j iv hPj hDj hoj hj hfi hon (had_of (t := t) hDj ht0 (fun q h9 => by rcases h9 with h9 | h9 <;> (have h8 : t q = _ := h9; omega))) hb9
  refine Mx.mono hMr (Nat.le_of_ble_eq_true rfl) (Nat.le_of_ble_eq_true rfl) (Nat.le_of_ble_eq_true rfl) (Nat.le_of_ble_eq_true rfl) (FX.of (g := 0) hDj (fun q h9 => by rcases h9 with h9 | h9 <;> (have h8 : t q = _ := h9; have h7 : kx j ((1, A, B, hd, pv, cs, n, f) : FS).1 < 12 := hkx; omega))) (fun o H1 hz hk hq => ?_)
  obtain ⟨hr, hw⟩ := hq
  refine ⟨by (try rw [hSj]); exact hr, PX.n (hcl H1 _ (hw.sub [0, 1, 2] rfl) (by rw [hSj]) ?_ (fun q h9 a b => hk q h9 (notA (t := t) hDj h9 (fun h8 => h8.elim a b)))) hts⟩
  try rw [hSj]
  exact Or.inl ⟨rfl, h1, h2, h3, _, _, hw.sub [3, 4, 5, 6] rfl, va_D.same2 [h, h1, h2, h3] hDo rfl rfl⟩

theorem x_clear_C {l : Launch} {s0 : State} {D : va_G} {cI cF cJ : ClassId} (G : Gx l s0 D cI cF cJ) (j A B n : Nat) (hd pv : Int32) (cs f : Nat → Nat)  (xo fa ma : Nat) (t : Nat → Nat) (S : Nat → FS) {H : Heap} (hX : PX D cI cF xo fa ma t S H) (hok : ∀ i, i < 4 → okS (S i)) (hon : onS s0 H) (ht0 : ∀ q, q < s0.heap.size → t q = 0) (hts : ∀ q, H.size ≤ q → t q ≤ 13)  (hj : j < 4) (hSj : S j = (1, A, B, hd, pv, cs, n, f))  : Mx l s0 y_F_clear (.code y_F_clear b_F_clear 4 (some .int)) { frames := 8, cells := 4, slots := 1094, locals := 180 } [.ref xo, .int (nI j)] H (FX t H.size) (Rq s0 none (some (.int (S j).2.2.2.1)) (fun H1 => PXn D cI cF xo fa ma t H.size (va_up S j (mkS (S j).1 (S j).2.1 (S j).2.2.1 (S j).2.2.2.2.2.2.2)) H1)) := by
  have h0 : (S j).1 ≠ 0 := by rw [hSj]; exact (by decide : 1 ≠ 0)
  have hoj := hok j hj
  obtain ⟨fi, mk, h, hP, hD, hfi, ho, hcl⟩ := hX.at hj h0
  rw [hSj] at ho hcl hoj
  have hkx : kx j 1 < 12 := kx_lt hj (by decide) (by decide)
  rcases ho with ⟨-, h1, h2, h3, pl, pb, hPo, hDo⟩ | ⟨e9, -⟩ | ⟨e9, -⟩
  all_goals first | (cases e9; done) | skip
  skip
  have hPj := va_P.app hP hPo
  have hDj := va_D.join2 hD hDo (fun q a b => by have a9 : t q = 1 := a; have b9 : t q = 2 + kx j 1 := b; omega)
  have hMr := c_F_clear_C G xo fa ma fi mk h h1 h2 h3 A B hd pv cs pl pb n f j  hPj hDj hoj hj hfi hon (had_of (t := t) hDj ht0 (fun q h9 => by rcases h9 with h9 | h9 <;> (have h8 : t q = _ := h9; omega))) 
  refine Mx.mono hMr (Nat.le_of_ble_eq_true rfl) (Nat.le_of_ble_eq_true rfl) (Nat.le_of_ble_eq_true rfl) (Nat.le_of_ble_eq_true rfl) (FX.of (g := 0) hDj (fun q h9 => by rcases h9 with h9 | h9 <;> (have h8 : t q = _ := h9; have h7 : kx j ((1, A, B, hd, pv, cs, n, f) : FS).1 < 12 := hkx; omega))) (fun o H1 hz hk hq => ?_)
  obtain ⟨hr, hw⟩ := hq
  refine ⟨by (try rw [hSj]); exact hr, PX.n (hcl H1 _ (hw.sub [0, 1, 2] rfl) (by rw [hSj]; rfl) ?_ (fun q h9 a b => hk q h9 (notA (t := t) hDj h9 (fun h8 => h8.elim a b)))) hts⟩
  try rw [hSj]
  exact Or.inl ⟨rfl, h1, h2, h3, _, _, hw.sub [3, 4, 5, 6] rfl, va_D.same2 [h, h1, h2, h3] hDo rfl rfl⟩

theorem x_grow_C {l : Launch} {s0 : State} {D : va_G} {cI cF cJ : ClassId} (G : Gx l s0 D cI cF cJ) (j A B n : Nat) (hd pv : Int32) (cs f : Nat → Nat) (v9 : Option Value) (xo fa ma : Nat) (t : Nat → Nat) (S : Nat → FS) {H : Heap} (hX : PX D cI cF xo fa ma t S H) (hok : ∀ i, i < 4 → okS (S i)) (hon : onS s0 H) (ht0 : ∀ q, q < s0.heap.size → t q = 0) (hts : ∀ q, H.size ≤ q → t q ≤ 13)  (hj : j < 4) (hSj : S j = (1, A, B, hd, pv, cs, n, f))  : Mx l s0 y_F_grow (.code y_F_grow b_F_grow 3 none) { frames := 8, cells := 4, slots := 1094, locals := 180 } [.ref xo, .int (nI j)] H (FX t H.size) (Rq s0 (some E_A) v9 (fun H1 => PXn D cI cF xo fa ma t H.size (va_up S j (S j)) H1)) := by
  have h0 : (S j).1 ≠ 0 := by rw [hSj]; exact (by decide : 1 ≠ 0)
  have hoj := hok j hj
  obtain ⟨fi, mk, h, hP, hD, hfi, ho, hcl⟩ := hX.at hj h0
  rw [hSj] at ho hcl hoj
  have hkx : kx j 1 < 12 := kx_lt hj (by decide) (by decide)
  rcases ho with ⟨-, h1, h2, h3, pl, pb, hPo, hDo⟩ | ⟨e9, -⟩ | ⟨e9, -⟩
  all_goals first | (cases e9; done) | skip
  skip
  have hPj := va_P.app hP hPo
  have hDj := va_D.join2 hD hDo (fun q a b => by have a9 : t q = 1 := a; have b9 : t q = 2 + kx j 1 := b; omega)
  have hMr := c_F_grow_C G xo fa ma fi mk h h1 h2 h3 A B hd pv cs pl pb n f j  hPj hDj hoj hj hfi hon (had_of (t := t) hDj ht0 (fun q h9 => by rcases h9 with h9 | h9 <;> (have h8 : t q = _ := h9; omega))) 
  refine Mx.mono hMr (Nat.le_of_ble_eq_true rfl) (Nat.le_of_ble_eq_true rfl) (Nat.le_of_ble_eq_true rfl) (Nat.le_of_ble_eq_true rfl) (FX.of (g := 0) hDj (fun q h9 => by rcases h9 with h9 | h9 <;> (have h8 : t q = _ := h9; have h7 : kx j ((1, A, B, hd, pv, cs, n, f) : FS).1 < 12 := hkx; omega))) (fun o H1 hz hk hq => ?_)
  obtain ⟨hr, hw⟩ := hq
  refine ⟨by (try rw [hSj]); exact hr, PX.n (hcl H1 _ (hw.sub [0, 1, 2] rfl) (by rw [hSj]) ?_ (fun q h9 a b => hk q h9 (notA (t := t) hDj h9 (fun h8 => h8.elim a b)))) hts⟩
  try rw [hSj]
  exact Or.inl ⟨rfl, h1, h2, h3, _, _, hw.sub [3, 4, 5, 6] rfl, va_D.same2 [h, h1, h2, h3] hDo rfl rfl⟩

theorem x_add_B {l : Launch} {s0 : State} {D : va_G} {cI cF cJ : ClassId} (G : Gx l s0 D cI cF cJ) (j A B n : Nat) (hd pv : Int32) (cs f : Nat → Nat) (x : Int64) (xo fa ma : Nat) (t : Nat → Nat) (S : Nat → FS) {H : Heap} (hX : PX D cI cF xo fa ma t S H) (hok : ∀ i, i < 4 → okS (S i)) (hon : onS s0 H) (ht0 : ∀ q, q < s0.heap.size → t q = 0) (hts : ∀ q, H.size ≤ q → t q ≤ 13)  (hj : j < 4) (hSj : S j = (2, A, B, hd, pv, cs, n, f))  : Mx l s0 y_F_add (.code y_F_add b_F_add 5 (some .int)) { frames := 8, cells := 4, slots := 1094, locals := 180 } [.ref xo, .int (nI j), .long x] H (FX t H.size) (Rq s0 (if (addS (S j) x).1 then none else some E_U) (some (.int (addS (S j) x).2.2.2.2.1)) (fun H1 => PXn D cI cF xo fa ma t H.size (va_up S j (addS (S j) x).2) H1)) := by
  have h0 : (S j).1 ≠ 0 := by rw [hSj]; exact (by decide : 2 ≠ 0)
  have hoj := hok j hj
  obtain ⟨fi, mk, h, hP, hD, hfi, ho, hcl⟩ := hX.at hj h0
  rw [hSj] at ho hcl hoj
  have hkx : kx j 2 < 12 := kx_lt hj (by decide) (by decide)
  rcases ho with ⟨e9, -⟩ | ⟨-, h1, h2, pt, hPo, hDo⟩ | ⟨e9, -⟩
  all_goals first | (cases e9; done) | skip
  skip
  have hPj := va_P.app hP hPo
  have hDj := va_D.join2 hD hDo (fun q a b => by have a9 : t q = 1 := a; have b9 : t q = 2 + kx j 2 := b; omega)
  have hMr := c_F_add_B G xo fa ma fi mk h h1 h2 A B hd pv cs pt n f j x hPj hDj hoj hj hfi hon (had_of (t := t) hDj ht0 (fun q h9 => by rcases h9 with h9 | h9 <;> (have h8 : t q = _ := h9; omega))) 
  refine Mx.mono hMr (Nat.le_of_ble_eq_true rfl) (Nat.le_of_ble_eq_true rfl) (Nat.le_of_ble_eq_true rfl) (Nat.le_of_ble_eq_true rfl) (FX.of (g := 0) hDj (fun q h9 => by rcases h9 with h9 | h9 <;> (have h8 : t q = _ := h9; have h7 : kx j ((2, A, B, hd, pv, cs, n, f) : FS).1 < 12 := hkx; omega))) (fun o H1 hz hk hq => ?_)
  obtain ⟨hr, pt1, hw⟩ := hq
  refine ⟨by rw [hSj, addS_2]; exact hr, PX.n (hcl H1 _ (hw.sub [0, 1, 2] rfl) (by rw [addS_kd, hSj]) ?_ (fun q h9 a b => hk q h9 (notA (t := t) hDj h9 (fun h8 => h8.elim a b)))) hts⟩
  rw [hSj, addS_2]
  exact Or.inr (Or.inl ⟨rfl, h1, h2, _, hw.sub [3, 4, 5] rfl, va_D.same2 [h, h1, h2] hDo rfl rfl⟩)

theorem x_remove_B {l : Launch} {s0 : State} {D : va_G} {cI cF cJ : ClassId} (G : Gx l s0 D cI cF cJ) (j A B n : Nat) (hd pv : Int32) (cs f : Nat → Nat) (x : Int64) (xo fa ma : Nat) (t : Nat → Nat) (S : Nat → FS) {H : Heap} (hX : PX D cI cF xo fa ma t S H) (hok : ∀ i, i < 4 → okS (S i)) (hon : onS s0 H) (ht0 : ∀ q, q < s0.heap.size → t q = 0) (hts : ∀ q, H.size ≤ q → t q ≤ 13)  (hj : j < 4) (hSj : S j = (2, A, B, hd, pv, cs, n, f))  : Mx l s0 y_F_remove (.code y_F_remove b_F_remove 5 (some .int)) { frames := 8, cells := 4, slots := 1094, locals := 180 } [.ref xo, .int (nI j), .long x] H (FX t H.size) (Rq s0 (if (remS (S j) x).1 then none else some E_N) (some (.int (remS (S j) x).2.2.2.2.1)) (fun H1 => PXn D cI cF xo fa ma t H.size (va_up S j (remS (S j) x).2) H1)) := by
  have h0 : (S j).1 ≠ 0 := by rw [hSj]; exact (by decide : 2 ≠ 0)
  have hoj := hok j hj
  obtain ⟨fi, mk, h, hP, hD, hfi, ho, hcl⟩ := hX.at hj h0
  rw [hSj] at ho hcl hoj
  have hkx : kx j 2 < 12 := kx_lt hj (by decide) (by decide)
  rcases ho with ⟨e9, -⟩ | ⟨-, h1, h2, pt, hPo, hDo⟩ | ⟨e9, -⟩
  all_goals first | (cases e9; done) | skip
  skip
  have hPj := va_P.app hP hPo
  have hDj := va_D.join2 hD hDo (fun q a b => by have a9 : t q = 1 := a; have b9 : t q = 2 + kx j 2 := b; omega)
  have hMr := c_F_remove_B G xo fa ma fi mk h h1 h2 A B hd pv cs pt n f j x hPj hDj hoj hj hfi hon (had_of (t := t) hDj ht0 (fun q h9 => by rcases h9 with h9 | h9 <;> (have h8 : t q = _ := h9; omega))) 
  refine Mx.mono hMr (Nat.le_of_ble_eq_true rfl) (Nat.le_of_ble_eq_true rfl) (Nat.le_of_ble_eq_true rfl) (Nat.le_of_ble_eq_true rfl) (FX.of (g := 0) hDj (fun q h9 => by rcases h9 with h9 | h9 <;> (have h8 : t q = _ := h9; have h7 : kx j ((2, A, B, hd, pv, cs, n, f) : FS).1 < 12 := hkx; omega))) (fun o H1 hz hk hq => ?_)
  obtain ⟨hr, hw⟩ := hq
  refine ⟨by rw [hSj, remS_2]; exact hr, PX.n (hcl H1 _ (hw.sub [0, 1, 2] rfl) (by rw [remS_kd, hSj]) ?_ (fun q h9 a b => hk q h9 (notA (t := t) hDj h9 (fun h8 => h8.elim a b)))) hts⟩
  rw [hSj, remS_2]
  exact Or.inr (Or.inl ⟨rfl, h1, h2, _, hw.sub [3, 4, 5] rfl, va_D.same2 [h, h1, h2] hDo rfl rfl⟩)

theorem x_has_B {l : Launch} {s0 : State} {D : va_G} {cI cF cJ : ClassId} (G : Gx l s0 D cI cF cJ) (j A B n : Nat) (hd pv : Int32) (cs f : Nat → Nat) (x : Int64) (xo fa ma : Nat) (t : Nat → Nat) (S : Nat → FS) {H : Heap} (hX : PX D cI cF xo fa ma t S H) (hok : ∀ i, i < 4 → okS (S i)) (hon : onS s0 H) (ht0 : ∀ q, q < s0.heap.size → t q = 0) (hts : ∀ q, H.size ≤ q → t q ≤ 13)  (hj : j < 4) (hSj : S j = (2, A, B, hd, pv, cs, n, f))  : Mx l s0 y_F_has (.code y_F_has b_F_has 4 (some .boolean)) { frames := 8, cells := 4, slots := 1094, locals := 180 } [.ref xo, .int (nI j), .long x] H (FX t H.size) (Rq s0 none (some (.int (bI (hasS (S j) x)))) (fun H1 => PXn D cI cF xo fa ma t H.size (va_up S j (S j)) H1)) := by
  have h0 : (S j).1 ≠ 0 := by rw [hSj]; exact (by decide : 2 ≠ 0)
  have hoj := hok j hj
  obtain ⟨fi, mk, h, hP, hD, hfi, ho, hcl⟩ := hX.at hj h0
  rw [hSj] at ho hcl hoj
  have hkx : kx j 2 < 12 := kx_lt hj (by decide) (by decide)
  rcases ho with ⟨e9, -⟩ | ⟨-, h1, h2, pt, hPo, hDo⟩ | ⟨e9, -⟩
  all_goals first | (cases e9; done) | skip
  skip
  have hPj := va_P.app hP hPo
  have hDj := va_D.join2 hD hDo (fun q a b => by have a9 : t q = 1 := a; have b9 : t q = 2 + kx j 2 := b; omega)
  have hMr := c_F_has_B G xo fa ma fi mk h h1 h2 A B hd pv cs pt n f j x hPj hDj hoj hj hfi hon (had_of (t := t) hDj ht0 (fun q h9 => by rcases h9 with h9 | h9 <;> (have h8 : t q = _ := h9; omega))) 
  refine Mx.mono hMr (Nat.le_of_ble_eq_true rfl) (Nat.le_of_ble_eq_true rfl) (Nat.le_of_ble_eq_true rfl) (Nat.le_of_ble_eq_true rfl) (FX.of (g := 0) hDj (fun q h9 => by rcases h9 with h9 | h9 <;> (have h8 : t q = _ := h9; have h7 : kx j ((2, A, B, hd, pv, cs, n, f) : FS).1 < 12 := hkx; omega))) (fun o H1 hz hk hq => ?_)
  obtain ⟨hr, hw⟩ := hq
  refine ⟨by (try rw [hSj]); exact hr, PX.n (hcl H1 _ (hw.sub [0, 1, 2] rfl) (by rw [hSj]) ?_ (fun q h9 a b => hk q h9 (notA (t := t) hDj h9 (fun h8 => h8.elim a b)))) hts⟩
  try rw [hSj]
  exact Or.inr (Or.inl ⟨rfl, h1, h2, _, hw.sub [3, 4, 5] rfl, va_D.same2 [h, h1, h2] hDo rfl rfl⟩)

theorem x_same_B {l : Launch} {s0 : State} {D : va_G} {cI cF cJ : ClassId} (G : Gx l s0 D cI cF cJ) (j A B n : Nat) (hd pv : Int32) (cs f : Nat → Nat) (x y : Int64) (xo fa ma : Nat) (t : Nat → Nat) (S : Nat → FS) {H : Heap} (hX : PX D cI cF xo fa ma t S H) (hok : ∀ i, i < 4 → okS (S i)) (hon : onS s0 H) (ht0 : ∀ q, q < s0.heap.size → t q = 0) (hts : ∀ q, H.size ≤ q → t q ≤ 13)  (hj : j < 4) (hSj : S j = (2, A, B, hd, pv, cs, n, f))  : Mx l s0 y_F_same (.code y_F_same b_F_same 6 (some .boolean)) { frames := 8, cells := 4, slots := 1094, locals := 180 } [.ref xo, .int (nI j), .long x, .long y] H (FX t H.size) (Rq s0 none (some (.int (bI (sameS (S j) x y)))) (fun H1 => PXn D cI cF xo fa ma t H.size (va_up S j (S j)) H1)) := by
  have h0 : (S j).1 ≠ 0 := by rw [hSj]; exact (by decide : 2 ≠ 0)
  have hoj := hok j hj
  obtain ⟨fi, mk, h, hP, hD, hfi, ho, hcl⟩ := hX.at hj h0
  rw [hSj] at ho hcl hoj
  have hkx : kx j 2 < 12 := kx_lt hj (by decide) (by decide)
  rcases ho with ⟨e9, -⟩ | ⟨-, h1, h2, pt, hPo, hDo⟩ | ⟨e9, -⟩
  all_goals first | (cases e9; done) | skip
  skip
  have hPj := va_P.app hP hPo
  have hDj := va_D.join2 hD hDo (fun q a b => by have a9 : t q = 1 := a; have b9 : t q = 2 + kx j 2 := b; omega)
  have hMr := c_F_same_B G xo fa ma fi mk h h1 h2 A B hd pv cs pt n f j x y hPj hDj hoj hj hfi hon (had_of (t := t) hDj ht0 (fun q h9 => by rcases h9 with h9 | h9 <;> (have h8 : t q = _ := h9; omega))) 
  refine Mx.mono hMr (Nat.le_of_ble_eq_true rfl) (Nat.le_of_ble_eq_true rfl) (Nat.le_of_ble_eq_true rfl) (Nat.le_of_ble_eq_true rfl) (FX.of (g := 0) hDj (fun q h9 => by rcases h9 with h9 | h9 <;> (have h8 : t q = _ := h9; have h7 : kx j ((2, A, B, hd, pv, cs, n, f) : FS).1 < 12 := hkx; omega))) (fun o H1 hz hk hq => ?_)
  obtain ⟨hr, hw⟩ := hq
  refine ⟨by rw [hSj, sameS_2]; exact hr, PX.n (hcl H1 _ (hw.sub [0, 1, 2] rfl) (by rw [hSj]) ?_ (fun q h9 a b => hk q h9 (notA (t := t) hDj h9 (fun h8 => h8.elim a b)))) hts⟩
  try rw [hSj]
  exact Or.inr (Or.inl ⟨rfl, h1, h2, _, hw.sub [3, 4, 5] rfl, va_D.same2 [h, h1, h2] hDo rfl rfl⟩)

theorem x_hasAll_B {l : Launch} {s0 : State} {D : va_G} {cI cF cJ : ClassId} (G : Gx l s0 D cI cF cJ) (j A B n : Nat) (hd pv : Int32) (cs f : Nat → Nat) (x st : Int64) (nN : Nat) (xo fa ma : Nat) (t : Nat → Nat) (S : Nat → FS) {H : Heap} (hX : PX D cI cF xo fa ma t S H) (hok : ∀ i, i < 4 → okS (S i)) (hon : onS s0 H) (ht0 : ∀ q, q < s0.heap.size → t q = 0) (hts : ∀ q, H.size ≤ q → t q ≤ 13)  (hj : j < 4) (hSj : S j = (2, A, B, hd, pv, cs, n, f)) (hn4 : nN ≤ 400) : Mx l s0 y_F_hasAll (.code y_F_hasAll b_F_hasAll 12 (some .int)) { frames := 8, cells := 4, slots := 1094, locals := 180 } [.ref xo, .int (nI j), .long x, .long st, .int (nI nN)] H (FX t H.size) (Rq s0 none (some (.int (nI (haS (S j) nN x st)))) (fun H1 => PXn D cI cF xo fa ma t H.size (va_up S j (S j)) H1)) := by
  have h0 : (S j).1 ≠ 0 := by rw [hSj]; exact (by decide : 2 ≠ 0)
  have hoj := hok j hj
  obtain ⟨fi, mk, h, hP, hD, hfi, ho, hcl⟩ := hX.at hj h0
  rw [hSj] at ho hcl hoj
  have hkx : kx j 2 < 12 := kx_lt hj (by decide) (by decide)
  rcases ho with ⟨e9, -⟩ | ⟨-, h1, h2, pt, hPo, hDo⟩ | ⟨e9, -⟩
  all_goals first | (cases e9; done) | skip
  skip
  have hPj := va_P.app hP hPo
  have hDj := va_D.join2 hD hDo (fun q a b => by have a9 : t q = 1 := a; have b9 : t q = 2 + kx j 2 := b; omega)
  have hMr := c_F_hasAll_B G xo fa ma fi mk h h1 h2 A B hd pv cs pt n f j x st nN hPj hDj hoj hj hfi hon (had_of (t := t) hDj ht0 (fun q h9 => by rcases h9 with h9 | h9 <;> (have h8 : t q = _ := h9; omega))) hn4
  refine Mx.mono hMr (Nat.le_of_ble_eq_true rfl) (Nat.le_of_ble_eq_true rfl) (Nat.le_of_ble_eq_true rfl) (Nat.le_of_ble_eq_true rfl) (FX.of (g := 0) hDj (fun q h9 => by rcases h9 with h9 | h9 <;> (have h8 : t q = _ := h9; have h7 : kx j ((2, A, B, hd, pv, cs, n, f) : FS).1 < 12 := hkx; omega))) (fun o H1 hz hk hq => ?_)
  obtain ⟨hr, hw⟩ := hq
  refine ⟨by (try rw [hSj]); exact hr, PX.n (hcl H1 _ (hw.sub [0, 1, 2] rfl) (by rw [hSj]) ?_ (fun q h9 a b => hk q h9 (notA (t := t) hDj h9 (fun h8 => h8.elim a b)))) hts⟩
  try rw [hSj]
  exact Or.inr (Or.inl ⟨rfl, h1, h2, _, hw.sub [3, 4, 5] rfl, va_D.same2 [h, h1, h2] hDo rfl rfl⟩)

theorem x_addAll_B {l : Launch} {s0 : State} {D : va_G} {cI cF cJ : ClassId} (G : Gx l s0 D cI cF cJ) (j A B n : Nat) (hd pv : Int32) (cs f : Nat → Nat) (x st : Int64) (nN : Nat) (xo fa ma : Nat) (t : Nat → Nat) (S : Nat → FS) {H : Heap} (hX : PX D cI cF xo fa ma t S H) (hok : ∀ i, i < 4 → okS (S i)) (hon : onS s0 H) (ht0 : ∀ q, q < s0.heap.size → t q = 0) (hts : ∀ q, H.size ≤ q → t q ≤ 13)  (hj : j < 4) (hSj : S j = (2, A, B, hd, pv, cs, n, f)) (hn4 : nN ≤ 400) : Mx l s0 y_F_addAll (.code y_F_addAll b_F_addAll 11 (some .int)) { frames := 8, cells := 4, slots := 1094, locals := 180 } [.ref xo, .int (nI j), .long x, .long st, .int (nI nN)] H (FX t H.size) (Rq s0 none (some (.int (nI (aaS nN (S j) x st).1))) (fun H1 => PXn D cI cF xo fa ma t H.size (va_up S j (aaS nN (S j) x st).2) H1)) := by
  have h0 : (S j).1 ≠ 0 := by rw [hSj]; exact (by decide : 2 ≠ 0)
  have hoj := hok j hj
  obtain ⟨fi, mk, h, hP, hD, hfi, ho, hcl⟩ := hX.at hj h0
  rw [hSj] at ho hcl hoj
  have hkx : kx j 2 < 12 := kx_lt hj (by decide) (by decide)
  rcases ho with ⟨e9, -⟩ | ⟨-, h1, h2, pt, hPo, hDo⟩ | ⟨e9, -⟩
  all_goals first | (cases e9; done) | skip
  skip
  have hPj := va_P.app hP hPo
  have hDj := va_D.join2 hD hDo (fun q a b => by have a9 : t q = 1 := a; have b9 : t q = 2 + kx j 2 := b; omega)
  have hMr := c_F_addAll_B G xo fa ma fi mk h h1 h2 A B hd pv cs pt n f j x st nN hPj hDj hoj hj hfi hon (had_of (t := t) hDj ht0 (fun q h9 => by rcases h9 with h9 | h9 <;> (have h8 : t q = _ := h9; omega))) hn4
  refine Mx.mono hMr (Nat.le_of_ble_eq_true rfl) (Nat.le_of_ble_eq_true rfl) (Nat.le_of_ble_eq_true rfl) (Nat.le_of_ble_eq_true rfl) (FX.of (g := 0) hDj (fun q h9 => by rcases h9 with h9 | h9 <;> (have h8 : t q = _ := h9; have h7 : kx j ((2, A, B, hd, pv, cs, n, f) : FS).1 < 12 := hkx; omega))) (fun o H1 hz hk hq => ?_)
  obtain ⟨hr, hd2, pu2, sl2, pt2, he9, hw⟩ := hq
  refine ⟨by (try rw [hSj]); exact hr, PX.n (hcl H1 _ (hw.sub [0, 1, 2] rfl) (by rw [(okS_aa (hok j hj) h0).2, hSj]) ?_ (fun q h9 a b => hk q h9 (notA (t := t) hDj h9 (fun h8 => h8.elim a b)))) hts⟩
  rw [hSj, he9]
  exact Or.inr (Or.inl ⟨rfl, h1, h2, _, hw.sub [3, 4, 5] rfl, va_D.same2 [h, h1, h2] hDo rfl rfl⟩)

theorem x_addAll_items_B {l : Launch} {s0 : State} {D : va_G} {cI cF cJ : ClassId} (G : Gx l s0 D cI cF cJ) (j A B n : Nat) (hd pv : Int32) (cs f : Nat → Nat) (x st : Int64) (v : Int32) (v9 : Option Value) (xo fa ma : Nat) (t : Nat → Nat) (S : Nat → FS) {H : Heap} (hX : PX D cI cF xo fa ma t S H) (hok : ∀ i, i < 4 → okS (S i)) (hon : onS s0 H) (ht0 : ∀ q, q < s0.heap.size → t q = 0) (hts : ∀ q, H.size ≤ q → t q ≤ 13)  (hj : j < 4) (hSj : S j = (2, A, B, hd, pv, cs, n, f)) (hv : wth v (nI 0) (nI 400) = false) : Mx l s0 y_F_addAll (.code y_F_addAll b_F_addAll 11 (some .int)) { frames := 8, cells := 4, slots := 1094, locals := 180 } [.ref xo, .int (nI j), .long x, .long st, .int v] H (FX t H.size) (Rq s0 (some E_A) v9 (fun H1 => PXn D cI cF xo fa ma t H.size (va_up S j (S j)) H1)) := by
  have h0 : (S j).1 ≠ 0 := by rw [hSj]; exact (by decide : 2 ≠ 0)
  have hoj := hok j hj
  obtain ⟨fi, mk, h, hP, hD, hfi, ho, hcl⟩ := hX.at hj h0
  rw [hSj] at ho hcl hoj
  have hkx : kx j 2 < 12 := kx_lt hj (by decide) (by decide)
  rcases ho with ⟨e9, -⟩ | ⟨-, h1, h2, pt, hPo, hDo⟩ | ⟨e9, -⟩
  all_goals first | (cases e9; done) | skip
  skip
  have hPj := va_P.app hP hPo
  have hDj := va_D.join2 hD hDo (fun q a b => by have a9 : t q = 1 := a; have b9 : t q = 2 + kx j 2 := b; omega)
  have hMr := c_F_addAll_B_items G xo fa ma fi mk h h1 h2 A B hd pv cs pt n f j x st v hPj hDj hoj hj hfi hon (had_of (t := t) hDj ht0 (fun q h9 => by rcases h9 with h9 | h9 <;> (have h8 : t q = _ := h9; omega))) hv
  refine Mx.mono hMr (Nat.le_of_ble_eq_true rfl) (Nat.le_of_ble_eq_true rfl) (Nat.le_of_ble_eq_true rfl) (Nat.le_of_ble_eq_true rfl) (FX.of (g := 0) hDj (fun q h9 => by rcases h9 with h9 | h9 <;> (have h8 : t q = _ := h9; have h7 : kx j ((2, A, B, hd, pv, cs, n, f) : FS).1 < 12 := hkx; omega))) (fun o H1 hz hk hq => ?_)
  obtain ⟨hr, hw⟩ := hq
  refine ⟨by (try rw [hSj]); exact hr, PX.n (hcl H1 _ (hw.sub [0, 1, 2] rfl) (by rw [hSj]) ?_ (fun q h9 a b => hk q h9 (notA (t := t) hDj h9 (fun h8 => h8.elim a b)))) hts⟩
  try rw [hSj]
  exact Or.inr (Or.inl ⟨rfl, h1, h2, _, hw.sub [3, 4, 5] rfl, va_D.same2 [h, h1, h2] hDo rfl rfl⟩)

theorem x_hasAll_items_B {l : Launch} {s0 : State} {D : va_G} {cI cF cJ : ClassId} (G : Gx l s0 D cI cF cJ) (j A B n : Nat) (hd pv : Int32) (cs f : Nat → Nat) (x st : Int64) (v : Int32) (v9 : Option Value) (xo fa ma : Nat) (t : Nat → Nat) (S : Nat → FS) {H : Heap} (hX : PX D cI cF xo fa ma t S H) (hok : ∀ i, i < 4 → okS (S i)) (hon : onS s0 H) (ht0 : ∀ q, q < s0.heap.size → t q = 0) (hts : ∀ q, H.size ≤ q → t q ≤ 13)  (hj : j < 4) (hSj : S j = (2, A, B, hd, pv, cs, n, f)) (hv : wth v (nI 0) (nI 400) = false) : Mx l s0 y_F_hasAll (.code y_F_hasAll b_F_hasAll 12 (some .int)) { frames := 8, cells := 4, slots := 1094, locals := 180 } [.ref xo, .int (nI j), .long x, .long st, .int v] H (FX t H.size) (Rq s0 (some E_A) v9 (fun H1 => PXn D cI cF xo fa ma t H.size (va_up S j (S j)) H1)) := by
  have h0 : (S j).1 ≠ 0 := by rw [hSj]; exact (by decide : 2 ≠ 0)
  have hoj := hok j hj
  obtain ⟨fi, mk, h, hP, hD, hfi, ho, hcl⟩ := hX.at hj h0
  rw [hSj] at ho hcl hoj
  have hkx : kx j 2 < 12 := kx_lt hj (by decide) (by decide)
  rcases ho with ⟨e9, -⟩ | ⟨-, h1, h2, pt, hPo, hDo⟩ | ⟨e9, -⟩
  all_goals first | (cases e9; done) | skip
  skip
  have hPj := va_P.app hP hPo
  have hDj := va_D.join2 hD hDo (fun q a b => by have a9 : t q = 1 := a; have b9 : t q = 2 + kx j 2 := b; omega)
  have hMr := c_F_hasAll_B_items G xo fa ma fi mk h h1 h2 A B hd pv cs pt n f j x st v hPj hDj hoj hj hfi hon (had_of (t := t) hDj ht0 (fun q h9 => by rcases h9 with h9 | h9 <;> (have h8 : t q = _ := h9; omega))) hv
  refine Mx.mono hMr (Nat.le_of_ble_eq_true rfl) (Nat.le_of_ble_eq_true rfl) (Nat.le_of_ble_eq_true rfl) (Nat.le_of_ble_eq_true rfl) (FX.of (g := 0) hDj (fun q h9 => by rcases h9 with h9 | h9 <;> (have h8 : t q = _ := h9; have h7 : kx j ((2, A, B, hd, pv, cs, n, f) : FS).1 < 12 := hkx; omega))) (fun o H1 hz hk hq => ?_)
  obtain ⟨hr, hw⟩ := hq
  refine ⟨by (try rw [hSj]); exact hr, PX.n (hcl H1 _ (hw.sub [0, 1, 2] rfl) (by rw [hSj]) ?_ (fun q h9 a b => hk q h9 (notA (t := t) hDj h9 (fun h8 => h8.elim a b)))) hts⟩
  try rw [hSj]
  exact Or.inr (Or.inl ⟨rfl, h1, h2, _, hw.sub [3, 4, 5] rfl, va_D.same2 [h, h1, h2] hDo rfl rfl⟩)

theorem x_count_0_B {l : Launch} {s0 : State} {D : va_G} {cI cF cJ : ClassId} (G : Gx l s0 D cI cF cJ) (j A B n : Nat) (hd pv : Int32) (cs f : Nat → Nat)  (xo fa ma : Nat) (t : Nat → Nat) (S : Nat → FS) {H : Heap} (hX : PX D cI cF xo fa ma t S H) (hok : ∀ i, i < 4 → okS (S i)) (hon : onS s0 H) (ht0 : ∀ q, q < s0.heap.size → t q = 0) (hts : ∀ q, H.size ≤ q → t q ≤ 13)  (hj : j < 4) (hSj : S j = (2, A, B, hd, pv, cs, n, f))  : Mx l s0 y_F_count (.code y_F_count b_F_count 4 (some .int)) { frames := 8, cells := 4, slots := 1094, locals := 180 } [.ref xo, .int (nI j), .int (nI 0)] H (FX t H.size) (Rq s0 none (some (.int (cntS (S j) 0))) (fun H1 => PXn D cI cF xo fa ma t H.size (va_up S j (S j)) H1)) := by
  have h0 : (S j).1 ≠ 0 := by rw [hSj]; exact (by decide : 2 ≠ 0)
  have hoj := hok j hj
  obtain ⟨fi, mk, h, hP, hD, hfi, ho, hcl⟩ := hX.at hj h0
  rw [hSj] at ho hcl hoj
  have hkx : kx j 2 < 12 := kx_lt hj (by decide) (by decide)
  rcases ho with ⟨e9, -⟩ | ⟨-, h1, h2, pt, hPo, hDo⟩ | ⟨e9, -⟩
  all_goals first | (cases e9; done) | skip
  skip
  have hPj := va_P.app hP hPo
  have hDj := va_D.join2 hD hDo (fun q a b => by have a9 : t q = 1 := a; have b9 : t q = 2 + kx j 2 := b; omega)
  have hMr := c_F_count_B_0 G xo fa ma fi mk h h1 h2 A B hd pv cs pt n f j  hPj hDj hoj hj hfi hon (had_of (t := t) hDj ht0 (fun q h9 => by rcases h9 with h9 | h9 <;> (have h8 : t q = _ := h9; omega))) 
  refine Mx.mono hMr (Nat.le_of_ble_eq_true rfl) (Nat.le_of_ble_eq_true rfl) (Nat.le_of_ble_eq_true rfl) (Nat.le_of_ble_eq_true rfl) (FX.of (g := 0) hDj (fun q h9 => by rcases h9 with h9 | h9 <;> (have h8 : t q = _ := h9; have h7 : kx j ((2, A, B, hd, pv, cs, n, f) : FS).1 < 12 := hkx; omega))) (fun o H1 hz hk hq => ?_)
  obtain ⟨hr, hw⟩ := hq
  refine ⟨by (try rw [hSj]); exact hr, PX.n (hcl H1 _ (hw.sub [0, 1, 2] rfl) (by rw [hSj]) ?_ (fun q h9 a b => hk q h9 (notA (t := t) hDj h9 (fun h8 => h8.elim a b)))) hts⟩
  try rw [hSj]
  exact Or.inr (Or.inl ⟨rfl, h1, h2, _, hw.sub [3, 4, 5] rfl, va_D.same2 [h, h1, h2] hDo rfl rfl⟩)

theorem x_count_1_B {l : Launch} {s0 : State} {D : va_G} {cI cF cJ : ClassId} (G : Gx l s0 D cI cF cJ) (j A B n : Nat) (hd pv : Int32) (cs f : Nat → Nat)  (xo fa ma : Nat) (t : Nat → Nat) (S : Nat → FS) {H : Heap} (hX : PX D cI cF xo fa ma t S H) (hok : ∀ i, i < 4 → okS (S i)) (hon : onS s0 H) (ht0 : ∀ q, q < s0.heap.size → t q = 0) (hts : ∀ q, H.size ≤ q → t q ≤ 13)  (hj : j < 4) (hSj : S j = (2, A, B, hd, pv, cs, n, f))  : Mx l s0 y_F_count (.code y_F_count b_F_count 4 (some .int)) { frames := 8, cells := 4, slots := 1094, locals := 180 } [.ref xo, .int (nI j), .int (nI 1)] H (FX t H.size) (Rq s0 none (some (.int (cntS (S j) 1))) (fun H1 => PXn D cI cF xo fa ma t H.size (va_up S j (S j)) H1)) := by
  have h0 : (S j).1 ≠ 0 := by rw [hSj]; exact (by decide : 2 ≠ 0)
  have hoj := hok j hj
  obtain ⟨fi, mk, h, hP, hD, hfi, ho, hcl⟩ := hX.at hj h0
  rw [hSj] at ho hcl hoj
  have hkx : kx j 2 < 12 := kx_lt hj (by decide) (by decide)
  rcases ho with ⟨e9, -⟩ | ⟨-, h1, h2, pt, hPo, hDo⟩ | ⟨e9, -⟩
  all_goals first | (cases e9; done) | skip
  skip
  have hPj := va_P.app hP hPo
  have hDj := va_D.join2 hD hDo (fun q a b => by have a9 : t q = 1 := a; have b9 : t q = 2 + kx j 2 := b; omega)
  have hMr := c_F_count_B_1 G xo fa ma fi mk h h1 h2 A B hd pv cs pt n f j  hPj hDj hoj hj hfi hon (had_of (t := t) hDj ht0 (fun q h9 => by rcases h9 with h9 | h9 <;> (have h8 : t q = _ := h9; omega))) 
  refine Mx.mono hMr (Nat.le_of_ble_eq_true rfl) (Nat.le_of_ble_eq_true rfl) (Nat.le_of_ble_eq_true rfl) (Nat.le_of_ble_eq_true rfl) (FX.of (g := 0) hDj (fun q h9 => by rcases h9 with h9 | h9 <;> (have h8 : t q = _ := h9; have h7 : kx j ((2, A, B, hd, pv, cs, n, f) : FS).1 < 12 := hkx; omega))) (fun o H1 hz hk hq => ?_)
  obtain ⟨hr, hw⟩ := hq
  refine ⟨by (try rw [hSj]); exact hr, PX.n (hcl H1 _ (hw.sub [0, 1, 2] rfl) (by rw [hSj]) ?_ (fun q h9 a b => hk q h9 (notA (t := t) hDj h9 (fun h8 => h8.elim a b)))) hts⟩
  try rw [hSj]
  exact Or.inr (Or.inl ⟨rfl, h1, h2, _, hw.sub [3, 4, 5] rfl, va_D.same2 [h, h1, h2] hDo rfl rfl⟩)

theorem x_count_2_B {l : Launch} {s0 : State} {D : va_G} {cI cF cJ : ClassId} (G : Gx l s0 D cI cF cJ) (j A B n : Nat) (hd pv : Int32) (cs f : Nat → Nat)  (xo fa ma : Nat) (t : Nat → Nat) (S : Nat → FS) {H : Heap} (hX : PX D cI cF xo fa ma t S H) (hok : ∀ i, i < 4 → okS (S i)) (hon : onS s0 H) (ht0 : ∀ q, q < s0.heap.size → t q = 0) (hts : ∀ q, H.size ≤ q → t q ≤ 13)  (hj : j < 4) (hSj : S j = (2, A, B, hd, pv, cs, n, f))  : Mx l s0 y_F_count (.code y_F_count b_F_count 4 (some .int)) { frames := 8, cells := 4, slots := 1094, locals := 180 } [.ref xo, .int (nI j), .int (nI 2)] H (FX t H.size) (Rq s0 none (some (.int (cntS (S j) 2))) (fun H1 => PXn D cI cF xo fa ma t H.size (va_up S j (S j)) H1)) := by
  have h0 : (S j).1 ≠ 0 := by rw [hSj]; exact (by decide : 2 ≠ 0)
  have hoj := hok j hj
  obtain ⟨fi, mk, h, hP, hD, hfi, ho, hcl⟩ := hX.at hj h0
  rw [hSj] at ho hcl hoj
  have hkx : kx j 2 < 12 := kx_lt hj (by decide) (by decide)
  rcases ho with ⟨e9, -⟩ | ⟨-, h1, h2, pt, hPo, hDo⟩ | ⟨e9, -⟩
  all_goals first | (cases e9; done) | skip
  skip
  have hPj := va_P.app hP hPo
  have hDj := va_D.join2 hD hDo (fun q a b => by have a9 : t q = 1 := a; have b9 : t q = 2 + kx j 2 := b; omega)
  have hMr := c_F_count_B_2 G xo fa ma fi mk h h1 h2 A B hd pv cs pt n f j  hPj hDj hoj hj hfi hon (had_of (t := t) hDj ht0 (fun q h9 => by rcases h9 with h9 | h9 <;> (have h8 : t q = _ := h9; omega))) 
  refine Mx.mono hMr (Nat.le_of_ble_eq_true rfl) (Nat.le_of_ble_eq_true rfl) (Nat.le_of_ble_eq_true rfl) (Nat.le_of_ble_eq_true rfl) (FX.of (g := 0) hDj (fun q h9 => by rcases h9 with h9 | h9 <;> (have h8 : t q = _ := h9; have h7 : kx j ((2, A, B, hd, pv, cs, n, f) : FS).1 < 12 := hkx; omega))) (fun o H1 hz hk hq => ?_)
  obtain ⟨hr, hw⟩ := hq
  refine ⟨by (try rw [hSj]); exact hr, PX.n (hcl H1 _ (hw.sub [0, 1, 2] rfl) (by rw [hSj]) ?_ (fun q h9 a b => hk q h9 (notA (t := t) hDj h9 (fun h8 => h8.elim a b)))) hts⟩
  try rw [hSj]
  exact Or.inr (Or.inl ⟨rfl, h1, h2, _, hw.sub [3, 4, 5] rfl, va_D.same2 [h, h1, h2] hDo rfl rfl⟩)

theorem x_count_3_B {l : Launch} {s0 : State} {D : va_G} {cI cF cJ : ClassId} (G : Gx l s0 D cI cF cJ) (j A B n : Nat) (hd pv : Int32) (cs f : Nat → Nat)  (xo fa ma : Nat) (t : Nat → Nat) (S : Nat → FS) {H : Heap} (hX : PX D cI cF xo fa ma t S H) (hok : ∀ i, i < 4 → okS (S i)) (hon : onS s0 H) (ht0 : ∀ q, q < s0.heap.size → t q = 0) (hts : ∀ q, H.size ≤ q → t q ≤ 13)  (hj : j < 4) (hSj : S j = (2, A, B, hd, pv, cs, n, f))  : Mx l s0 y_F_count (.code y_F_count b_F_count 4 (some .int)) { frames := 8, cells := 4, slots := 1094, locals := 180 } [.ref xo, .int (nI j), .int (nI 3)] H (FX t H.size) (Rq s0 none (some (.int (cntS (S j) 3))) (fun H1 => PXn D cI cF xo fa ma t H.size (va_up S j (S j)) H1)) := by
  have h0 : (S j).1 ≠ 0 := by rw [hSj]; exact (by decide : 2 ≠ 0)
  have hoj := hok j hj
  obtain ⟨fi, mk, h, hP, hD, hfi, ho, hcl⟩ := hX.at hj h0
  rw [hSj] at ho hcl hoj
  have hkx : kx j 2 < 12 := kx_lt hj (by decide) (by decide)
  rcases ho with ⟨e9, -⟩ | ⟨-, h1, h2, pt, hPo, hDo⟩ | ⟨e9, -⟩
  all_goals first | (cases e9; done) | skip
  skip
  have hPj := va_P.app hP hPo
  have hDj := va_D.join2 hD hDo (fun q a b => by have a9 : t q = 1 := a; have b9 : t q = 2 + kx j 2 := b; omega)
  have hMr := c_F_count_B_3 G xo fa ma fi mk h h1 h2 A B hd pv cs pt n f j  hPj hDj hoj hj hfi hon (had_of (t := t) hDj ht0 (fun q h9 => by rcases h9 with h9 | h9 <;> (have h8 : t q = _ := h9; omega))) 
  refine Mx.mono hMr (Nat.le_of_ble_eq_true rfl) (Nat.le_of_ble_eq_true rfl) (Nat.le_of_ble_eq_true rfl) (Nat.le_of_ble_eq_true rfl) (FX.of (g := 0) hDj (fun q h9 => by rcases h9 with h9 | h9 <;> (have h8 : t q = _ := h9; have h7 : kx j ((2, A, B, hd, pv, cs, n, f) : FS).1 < 12 := hkx; omega))) (fun o H1 hz hk hq => ?_)
  obtain ⟨hr, hw⟩ := hq
  refine ⟨by (try rw [hSj]); exact hr, PX.n (hcl H1 _ (hw.sub [0, 1, 2] rfl) (by rw [hSj]) ?_ (fun q h9 a b => hk q h9 (notA (t := t) hDj h9 (fun h8 => h8.elim a b)))) hts⟩
  try rw [hSj]
  exact Or.inr (Or.inl ⟨rfl, h1, h2, _, hw.sub [3, 4, 5] rfl, va_D.same2 [h, h1, h2] hDo rfl rfl⟩)

theorem x_count_4_B {l : Launch} {s0 : State} {D : va_G} {cI cF cJ : ClassId} (G : Gx l s0 D cI cF cJ) (j A B n : Nat) (hd pv : Int32) (cs f : Nat → Nat)  (xo fa ma : Nat) (t : Nat → Nat) (S : Nat → FS) {H : Heap} (hX : PX D cI cF xo fa ma t S H) (hok : ∀ i, i < 4 → okS (S i)) (hon : onS s0 H) (ht0 : ∀ q, q < s0.heap.size → t q = 0) (hts : ∀ q, H.size ≤ q → t q ≤ 13)  (hj : j < 4) (hSj : S j = (2, A, B, hd, pv, cs, n, f))  : Mx l s0 y_F_count (.code y_F_count b_F_count 4 (some .int)) { frames := 8, cells := 4, slots := 1094, locals := 180 } [.ref xo, .int (nI j), .int (nI 4)] H (FX t H.size) (Rq s0 none (some (.int (cntS (S j) 4))) (fun H1 => PXn D cI cF xo fa ma t H.size (va_up S j (S j)) H1)) := by
  have h0 : (S j).1 ≠ 0 := by rw [hSj]; exact (by decide : 2 ≠ 0)
  have hoj := hok j hj
  obtain ⟨fi, mk, h, hP, hD, hfi, ho, hcl⟩ := hX.at hj h0
  rw [hSj] at ho hcl hoj
  have hkx : kx j 2 < 12 := kx_lt hj (by decide) (by decide)
  rcases ho with ⟨e9, -⟩ | ⟨-, h1, h2, pt, hPo, hDo⟩ | ⟨e9, -⟩
  all_goals first | (cases e9; done) | skip
  skip
  have hPj := va_P.app hP hPo
  have hDj := va_D.join2 hD hDo (fun q a b => by have a9 : t q = 1 := a; have b9 : t q = 2 + kx j 2 := b; omega)
  have hMr := c_F_count_B_4 G xo fa ma fi mk h h1 h2 A B hd pv cs pt n f j  hPj hDj hoj hj hfi hon (had_of (t := t) hDj ht0 (fun q h9 => by rcases h9 with h9 | h9 <;> (have h8 : t q = _ := h9; omega))) 
  refine Mx.mono hMr (Nat.le_of_ble_eq_true rfl) (Nat.le_of_ble_eq_true rfl) (Nat.le_of_ble_eq_true rfl) (Nat.le_of_ble_eq_true rfl) (FX.of (g := 0) hDj (fun q h9 => by rcases h9 with h9 | h9 <;> (have h8 : t q = _ := h9; have h7 : kx j ((2, A, B, hd, pv, cs, n, f) : FS).1 < 12 := hkx; omega))) (fun o H1 hz hk hq => ?_)
  obtain ⟨hr, hw⟩ := hq
  refine ⟨by (try rw [hSj]); exact hr, PX.n (hcl H1 _ (hw.sub [0, 1, 2] rfl) (by rw [hSj]) ?_ (fun q h9 a b => hk q h9 (notA (t := t) hDj h9 (fun h8 => h8.elim a b)))) hts⟩
  try rw [hSj]
  exact Or.inr (Or.inl ⟨rfl, h1, h2, _, hw.sub [3, 4, 5] rfl, va_D.same2 [h, h1, h2] hDo rfl rfl⟩)

theorem x_count_5_B {l : Launch} {s0 : State} {D : va_G} {cI cF cJ : ClassId} (G : Gx l s0 D cI cF cJ) (j A B n : Nat) (hd pv : Int32) (cs f : Nat → Nat)  (xo fa ma : Nat) (t : Nat → Nat) (S : Nat → FS) {H : Heap} (hX : PX D cI cF xo fa ma t S H) (hok : ∀ i, i < 4 → okS (S i)) (hon : onS s0 H) (ht0 : ∀ q, q < s0.heap.size → t q = 0) (hts : ∀ q, H.size ≤ q → t q ≤ 13)  (hj : j < 4) (hSj : S j = (2, A, B, hd, pv, cs, n, f))  : Mx l s0 y_F_count (.code y_F_count b_F_count 4 (some .int)) { frames := 8, cells := 4, slots := 1094, locals := 180 } [.ref xo, .int (nI j), .int (nI 5)] H (FX t H.size) (Rq s0 none (some (.int (cntS (S j) 5))) (fun H1 => PXn D cI cF xo fa ma t H.size (va_up S j (S j)) H1)) := by
  have h0 : (S j).1 ≠ 0 := by rw [hSj]; exact (by decide : 2 ≠ 0)
  have hoj := hok j hj
  obtain ⟨fi, mk, h, hP, hD, hfi, ho, hcl⟩ := hX.at hj h0
  rw [hSj] at ho hcl hoj
  have hkx : kx j 2 < 12 := kx_lt hj (by decide) (by decide)
  rcases ho with ⟨e9, -⟩ | ⟨-, h1, h2, pt, hPo, hDo⟩ | ⟨e9, -⟩
  all_goals first | (cases e9; done) | skip
  skip
  have hPj := va_P.app hP hPo
  have hDj := va_D.join2 hD hDo (fun q a b => by have a9 : t q = 1 := a; have b9 : t q = 2 + kx j 2 := b; omega)
  have hMr := c_F_count_B_5 G xo fa ma fi mk h h1 h2 A B hd pv cs pt n f j  hPj hDj hoj hj hfi hon (had_of (t := t) hDj ht0 (fun q h9 => by rcases h9 with h9 | h9 <;> (have h8 : t q = _ := h9; omega))) 
  refine Mx.mono hMr (Nat.le_of_ble_eq_true rfl) (Nat.le_of_ble_eq_true rfl) (Nat.le_of_ble_eq_true rfl) (Nat.le_of_ble_eq_true rfl) (FX.of (g := 0) hDj (fun q h9 => by rcases h9 with h9 | h9 <;> (have h8 : t q = _ := h9; have h7 : kx j ((2, A, B, hd, pv, cs, n, f) : FS).1 < 12 := hkx; omega))) (fun o H1 hz hk hq => ?_)
  obtain ⟨hr, hw⟩ := hq
  refine ⟨by (try rw [hSj]); exact hr, PX.n (hcl H1 _ (hw.sub [0, 1, 2] rfl) (by rw [hSj]) ?_ (fun q h9 a b => hk q h9 (notA (t := t) hDj h9 (fun h8 => h8.elim a b)))) hts⟩
  try rw [hSj]
  exact Or.inr (Or.inl ⟨rfl, h1, h2, _, hw.sub [3, 4, 5] rfl, va_D.same2 [h, h1, h2] hDo rfl rfl⟩)

theorem x_count_out_B {l : Launch} {s0 : State} {D : va_G} {cI cF cJ : ClassId} (G : Gx l s0 D cI cF cJ) (j A B n : Nat) (hd pv : Int32) (cs f : Nat → Nat) (wv : Int32) (v9 : Option Value) (xo fa ma : Nat) (t : Nat → Nat) (S : Nat → FS) {H : Heap} (hX : PX D cI cF xo fa ma t S H) (hok : ∀ i, i < 4 → okS (S i)) (hon : onS s0 H) (ht0 : ∀ q, q < s0.heap.size → t q = 0) (hts : ∀ q, H.size ≤ q → t q ≤ 13)  (hj : j < 4) (hSj : S j = (2, A, B, hd, pv, cs, n, f)) (hw9 : wv.toInt < 0 ∨ 5 < wv.toInt) : Mx l s0 y_F_count (.code y_F_count b_F_count 4 (some .int)) { frames := 8, cells := 4, slots := 1094, locals := 180 } [.ref xo, .int (nI j), .int wv] H (FX t H.size) (Rq s0 (some E_A) v9 (fun H1 => PXn D cI cF xo fa ma t H.size (va_up S j (S j)) H1)) := by
  have h0 : (S j).1 ≠ 0 := by rw [hSj]; exact (by decide : 2 ≠ 0)
  have hoj := hok j hj
  obtain ⟨fi, mk, h, hP, hD, hfi, ho, hcl⟩ := hX.at hj h0
  rw [hSj] at ho hcl hoj
  have hkx : kx j 2 < 12 := kx_lt hj (by decide) (by decide)
  rcases ho with ⟨e9, -⟩ | ⟨-, h1, h2, pt, hPo, hDo⟩ | ⟨e9, -⟩
  all_goals first | (cases e9; done) | skip
  skip
  have hPj := va_P.app hP hPo
  have hDj := va_D.join2 hD hDo (fun q a b => by have a9 : t q = 1 := a; have b9 : t q = 2 + kx j 2 := b; omega)
  have hMr := c_F_count_B_out G xo fa ma fi mk h h1 h2 A B hd pv cs pt n f j wv hPj hDj hoj hj hfi hon (had_of (t := t) hDj ht0 (fun q h9 => by rcases h9 with h9 | h9 <;> (have h8 : t q = _ := h9; omega))) hw9
  refine Mx.mono hMr (Nat.le_of_ble_eq_true rfl) (Nat.le_of_ble_eq_true rfl) (Nat.le_of_ble_eq_true rfl) (Nat.le_of_ble_eq_true rfl) (FX.of (g := 0) hDj (fun q h9 => by rcases h9 with h9 | h9 <;> (have h8 : t q = _ := h9; have h7 : kx j ((2, A, B, hd, pv, cs, n, f) : FS).1 < 12 := hkx; omega))) (fun o H1 hz hk hq => ?_)
  obtain ⟨hr, hw⟩ := hq
  refine ⟨by (try rw [hSj]); exact hr, PX.n (hcl H1 _ (hw.sub [0, 1, 2] rfl) (by rw [hSj]) ?_ (fun q h9 a b => hk q h9 (notA (t := t) hDj h9 (fun h8 => h8.elim a b)))) hts⟩
  try rw [hSj]
  exact Or.inr (Or.inl ⟨rfl, h1, h2, _, hw.sub [3, 4, 5] rfl, va_D.same2 [h, h1, h2] hDo rfl rfl⟩)

theorem x_cell_B {l : Launch} {s0 : State} {D : va_G} {cI cF cJ : ClassId} (G : Gx l s0 D cI cF cJ) (j A B n : Nat) (hd pv : Int32) (cs f : Nat → Nat) (z : Nat) (xo fa ma : Nat) (t : Nat → Nat) (S : Nat → FS) {H : Heap} (hX : PX D cI cF xo fa ma t S H) (hok : ∀ i, i < 4 → okS (S i)) (hon : onS s0 H) (ht0 : ∀ q, q < s0.heap.size → t q = 0) (hts : ∀ q, H.size ≤ q → t q ≤ 13)  (hj : j < 4) (hSj : S j = (2, A, B, hd, pv, cs, n, f)) (hz9 : z < (4 * 2 ^ A)) : Mx l s0 y_F_cell (.code y_F_cell b_F_cell 4 (some .int)) { frames := 8, cells := 4, slots := 1094, locals := 180 } [.ref xo, .int (nI j), .int (nI z)] H (FX t H.size) (Rq s0 none (some (.int (lokS (S j) z))) (fun H1 => PXn D cI cF xo fa ma t H.size (va_up S j (S j)) H1)) := by
  have h0 : (S j).1 ≠ 0 := by rw [hSj]; exact (by decide : 2 ≠ 0)
  have hoj := hok j hj
  obtain ⟨fi, mk, h, hP, hD, hfi, ho, hcl⟩ := hX.at hj h0
  rw [hSj] at ho hcl hoj
  have hkx : kx j 2 < 12 := kx_lt hj (by decide) (by decide)
  rcases ho with ⟨e9, -⟩ | ⟨-, h1, h2, pt, hPo, hDo⟩ | ⟨e9, -⟩
  all_goals first | (cases e9; done) | skip
  skip
  have hPj := va_P.app hP hPo
  have hDj := va_D.join2 hD hDo (fun q a b => by have a9 : t q = 1 := a; have b9 : t q = 2 + kx j 2 := b; omega)
  have hMr := c_F_cell_B G xo fa ma fi mk h h1 h2 A B hd pv cs pt n f j z hPj hDj hoj hj hfi hon (had_of (t := t) hDj ht0 (fun q h9 => by rcases h9 with h9 | h9 <;> (have h8 : t q = _ := h9; omega))) hz9
  refine Mx.mono hMr (Nat.le_of_ble_eq_true rfl) (Nat.le_of_ble_eq_true rfl) (Nat.le_of_ble_eq_true rfl) (Nat.le_of_ble_eq_true rfl) (FX.of (g := 0) hDj (fun q h9 => by rcases h9 with h9 | h9 <;> (have h8 : t q = _ := h9; have h7 : kx j ((2, A, B, hd, pv, cs, n, f) : FS).1 < 12 := hkx; omega))) (fun o H1 hz hk hq => ?_)
  obtain ⟨hr, hw⟩ := hq
  refine ⟨by (try rw [hSj]); exact hr, PX.n (hcl H1 _ (hw.sub [0, 1, 2] rfl) (by rw [hSj]) ?_ (fun q h9 a b => hk q h9 (notA (t := t) hDj h9 (fun h8 => h8.elim a b)))) hts⟩
  try rw [hSj]
  exact Or.inr (Or.inl ⟨rfl, h1, h2, _, hw.sub [3, 4, 5] rfl, va_D.same2 [h, h1, h2] hDo rfl rfl⟩)

theorem x_cell_out_B {l : Launch} {s0 : State} {D : va_G} {cI cF cJ : ClassId} (G : Gx l s0 D cI cF cJ) (j A B n : Nat) (hd pv : Int32) (cs f : Nat → Nat) (iv : Int32) (v9 : Option Value) (xo fa ma : Nat) (t : Nat → Nat) (S : Nat → FS) {H : Heap} (hX : PX D cI cF xo fa ma t S H) (hok : ∀ i, i < 4 → okS (S i)) (hon : onS s0 H) (ht0 : ∀ q, q < s0.heap.size → t q = 0) (hts : ∀ q, H.size ≤ q → t q ≤ 13)  (hj : j < 4) (hSj : S j = (2, A, B, hd, pv, cs, n, f)) (hb9 : iv < 0 ∨ nI (4 * 2 ^ A) ≤ iv) : Mx l s0 y_F_cell (.code y_F_cell b_F_cell 4 (some .int)) { frames := 8, cells := 4, slots := 1094, locals := 180 } [.ref xo, .int (nI j), .int iv] H (FX t H.size) (Rq s0 (some E_I) v9 (fun H1 => PXn D cI cF xo fa ma t H.size (va_up S j (S j)) H1)) := by
  have h0 : (S j).1 ≠ 0 := by rw [hSj]; exact (by decide : 2 ≠ 0)
  have hoj := hok j hj
  obtain ⟨fi, mk, h, hP, hD, hfi, ho, hcl⟩ := hX.at hj h0
  rw [hSj] at ho hcl hoj
  have hkx : kx j 2 < 12 := kx_lt hj (by decide) (by decide)
  rcases ho with ⟨e9, -⟩ | ⟨-, h1, h2, pt, hPo, hDo⟩ | ⟨e9, -⟩
  all_goals first | (cases e9; done) | skip
  skip
  have hPj := va_P.app hP hPo
  have hDj := va_D.join2 hD hDo (fun q a b => by have a9 : t q = 1 := a; have b9 : t q = 2 + kx j 2 := b; omega)
  have hMr := c_F_cell_B_out G xo fa ma fi mk h h1 h2 A B hd pv cs pt n f j iv hPj hDj hoj hj hfi hon (had_of (t := t) hDj ht0 (fun q h9 => by rcases h9 with h9 | h9 <;> (have h8 : t q = _ := h9; omega))) hb9
  refine Mx.mono hMr (Nat.le_of_ble_eq_true rfl) (Nat.le_of_ble_eq_true rfl) (Nat.le_of_ble_eq_true rfl) (Nat.le_of_ble_eq_true rfl) (FX.of (g := 0) hDj (fun q h9 => by rcases h9 with h9 | h9 <;> (have h8 : t q = _ := h9; have h7 : kx j ((2, A, B, hd, pv, cs, n, f) : FS).1 < 12 := hkx; omega))) (fun o H1 hz hk hq => ?_)
  obtain ⟨hr, hw⟩ := hq
  refine ⟨by (try rw [hSj]); exact hr, PX.n (hcl H1 _ (hw.sub [0, 1, 2] rfl) (by rw [hSj]) ?_ (fun q h9 a b => hk q h9 (notA (t := t) hDj h9 (fun h8 => h8.elim a b)))) hts⟩
  try rw [hSj]
  exact Or.inr (Or.inl ⟨rfl, h1, h2, _, hw.sub [3, 4, 5] rfl, va_D.same2 [h, h1, h2] hDo rfl rfl⟩)

theorem x_clear_B {l : Launch} {s0 : State} {D : va_G} {cI cF cJ : ClassId} (G : Gx l s0 D cI cF cJ) (j A B n : Nat) (hd pv : Int32) (cs f : Nat → Nat)  (xo fa ma : Nat) (t : Nat → Nat) (S : Nat → FS) {H : Heap} (hX : PX D cI cF xo fa ma t S H) (hok : ∀ i, i < 4 → okS (S i)) (hon : onS s0 H) (ht0 : ∀ q, q < s0.heap.size → t q = 0) (hts : ∀ q, H.size ≤ q → t q ≤ 13)  (hj : j < 4) (hSj : S j = (2, A, B, hd, pv, cs, n, f))  : Mx l s0 y_F_clear (.code y_F_clear b_F_clear 4 (some .int)) { frames := 8, cells := 4, slots := 1094, locals := 180 } [.ref xo, .int (nI j)] H (FX t H.size) (Rq s0 none (some (.int (S j).2.2.2.1)) (fun H1 => PXn D cI cF xo fa ma t H.size (va_up S j (mkS (S j).1 (S j).2.1 (S j).2.2.1 (S j).2.2.2.2.2.2.2)) H1)) := by
  have h0 : (S j).1 ≠ 0 := by rw [hSj]; exact (by decide : 2 ≠ 0)
  have hoj := hok j hj
  obtain ⟨fi, mk, h, hP, hD, hfi, ho, hcl⟩ := hX.at hj h0
  rw [hSj] at ho hcl hoj
  have hkx : kx j 2 < 12 := kx_lt hj (by decide) (by decide)
  rcases ho with ⟨e9, -⟩ | ⟨-, h1, h2, pt, hPo, hDo⟩ | ⟨e9, -⟩
  all_goals first | (cases e9; done) | skip
  skip
  have hPj := va_P.app hP hPo
  have hDj := va_D.join2 hD hDo (fun q a b => by have a9 : t q = 1 := a; have b9 : t q = 2 + kx j 2 := b; omega)
  have hMr := c_F_clear_B G xo fa ma fi mk h h1 h2 A B hd pv cs pt n f j  hPj hDj hoj hj hfi hon (had_of (t := t) hDj ht0 (fun q h9 => by rcases h9 with h9 | h9 <;> (have h8 : t q = _ := h9; omega))) 
  refine Mx.mono hMr (Nat.le_of_ble_eq_true rfl) (Nat.le_of_ble_eq_true rfl) (Nat.le_of_ble_eq_true rfl) (Nat.le_of_ble_eq_true rfl) (FX.of (g := 0) hDj (fun q h9 => by rcases h9 with h9 | h9 <;> (have h8 : t q = _ := h9; have h7 : kx j ((2, A, B, hd, pv, cs, n, f) : FS).1 < 12 := hkx; omega))) (fun o H1 hz hk hq => ?_)
  obtain ⟨hr, hw⟩ := hq
  refine ⟨by (try rw [hSj]); exact hr, PX.n (hcl H1 _ (hw.sub [0, 1, 2] rfl) (by rw [hSj]; rfl) ?_ (fun q h9 a b => hk q h9 (notA (t := t) hDj h9 (fun h8 => h8.elim a b)))) hts⟩
  try rw [hSj]
  exact Or.inr (Or.inl ⟨rfl, h1, h2, _, hw.sub [3, 4, 5] rfl, va_D.same2 [h, h1, h2] hDo rfl rfl⟩)

theorem x_grow_B {l : Launch} {s0 : State} {D : va_G} {cI cF cJ : ClassId} (G : Gx l s0 D cI cF cJ) (j A B n : Nat) (hd pv : Int32) (cs f : Nat → Nat) (v9 : Option Value) (xo fa ma : Nat) (t : Nat → Nat) (S : Nat → FS) {H : Heap} (hX : PX D cI cF xo fa ma t S H) (hok : ∀ i, i < 4 → okS (S i)) (hon : onS s0 H) (ht0 : ∀ q, q < s0.heap.size → t q = 0) (hts : ∀ q, H.size ≤ q → t q ≤ 13)  (hj : j < 4) (hSj : S j = (2, A, B, hd, pv, cs, n, f))  : Mx l s0 y_F_grow (.code y_F_grow b_F_grow 3 none) { frames := 8, cells := 4, slots := 1094, locals := 180 } [.ref xo, .int (nI j)] H (FX t H.size) (Rq s0 (some E_A) v9 (fun H1 => PXn D cI cF xo fa ma t H.size (va_up S j (S j)) H1)) := by
  have h0 : (S j).1 ≠ 0 := by rw [hSj]; exact (by decide : 2 ≠ 0)
  have hoj := hok j hj
  obtain ⟨fi, mk, h, hP, hD, hfi, ho, hcl⟩ := hX.at hj h0
  rw [hSj] at ho hcl hoj
  have hkx : kx j 2 < 12 := kx_lt hj (by decide) (by decide)
  rcases ho with ⟨e9, -⟩ | ⟨-, h1, h2, pt, hPo, hDo⟩ | ⟨e9, -⟩
  all_goals first | (cases e9; done) | skip
  skip
  have hPj := va_P.app hP hPo
  have hDj := va_D.join2 hD hDo (fun q a b => by have a9 : t q = 1 := a; have b9 : t q = 2 + kx j 2 := b; omega)
  have hMr := c_F_grow_B G xo fa ma fi mk h h1 h2 A B hd pv cs pt n f j  hPj hDj hoj hj hfi hon (had_of (t := t) hDj ht0 (fun q h9 => by rcases h9 with h9 | h9 <;> (have h8 : t q = _ := h9; omega))) 
  refine Mx.mono hMr (Nat.le_of_ble_eq_true rfl) (Nat.le_of_ble_eq_true rfl) (Nat.le_of_ble_eq_true rfl) (Nat.le_of_ble_eq_true rfl) (FX.of (g := 0) hDj (fun q h9 => by rcases h9 with h9 | h9 <;> (have h8 : t q = _ := h9; have h7 : kx j ((2, A, B, hd, pv, cs, n, f) : FS).1 < 12 := hkx; omega))) (fun o H1 hz hk hq => ?_)
  obtain ⟨hr, hw⟩ := hq
  refine ⟨by (try rw [hSj]); exact hr, PX.n (hcl H1 _ (hw.sub [0, 1, 2] rfl) (by rw [hSj]) ?_ (fun q h9 a b => hk q h9 (notA (t := t) hDj h9 (fun h8 => h8.elim a b)))) hts⟩
  try rw [hSj]
  exact Or.inr (Or.inl ⟨rfl, h1, h2, _, hw.sub [3, 4, 5] rfl, va_D.same2 [h, h1, h2] hDo rfl rfl⟩)

theorem x_add_R {l : Launch} {s0 : State} {D : va_G} {cI cF cJ : ClassId} (G : Gx l s0 D cI cF cJ) (j A B n : Nat) (hd pv : Int32) (cs f : Nat → Nat) (x : Int64) (xo fa ma : Nat) (t : Nat → Nat) (S : Nat → FS) {H : Heap} (hX : PX D cI cF xo fa ma t S H) (hok : ∀ i, i < 4 → okS (S i)) (hon : onS s0 H) (ht0 : ∀ q, q < s0.heap.size → t q = 0) (hts : ∀ q, H.size ≤ q → t q ≤ 13)  (hj : j < 4) (hSj : S j = (3, A, B, hd, pv, cs, n, f))  : Mx l s0 y_F_add (.code y_F_add b_F_add 5 (some .int)) { frames := 8, cells := 4, slots := 1094, locals := 180 } [.ref xo, .int (nI j), .long x] H (FX t H.size) (Rq s0 (if (addS (S j) x).1 then none else some E_U) (some (.int (addS (S j) x).2.2.2.2.1)) (fun H1 => PXn D cI cF xo fa ma t H.size (va_up S j (addS (S j) x).2) H1)) := by
  have h0 : (S j).1 ≠ 0 := by rw [hSj]; exact (by decide : 3 ≠ 0)
  have hoj := hok j hj
  obtain ⟨fi, mk, h, hP, hD, hfi, ho, hcl⟩ := hX.at hj h0
  rw [hSj] at ho hcl hoj
  have hkx : kx j 3 < 12 := kx_lt hj (by decide) (by decide)
  rcases ho with ⟨e9, -⟩ | ⟨e9, -⟩ | ⟨-, e2, h1, h2, gg, hPo, hDo⟩
  all_goals first | (cases e9; done) | skip
  subst e2
  have hPj := va_P.app hP hPo
  have hDj := va_D.join2 hD hDo (fun q a b => by have a9 : t q = 1 := a; have b9 : t q = 2 + kx j 3 := b; omega)
  have hMr := c_F_add_R G xo fa ma fi mk h h1 h2 A B n pv cs f gg j x hPj hDj hoj hj hfi hon (had_of (t := t) hDj ht0 (fun q h9 => by rcases h9 with h9 | h9 <;> (have h8 : t q = _ := h9; omega))) 
  refine Mx.mono hMr (Nat.le_of_ble_eq_true rfl) (Nat.le_of_ble_eq_true rfl) (Nat.le_of_ble_eq_true rfl) (Nat.le_of_ble_eq_true rfl) (FX.of (g := 0) hDj (fun q h9 => by rcases h9 with h9 | h9 <;> (have h8 : t q = _ := h9; have h7 : kx j ((3, A, B, nI n, pv, cs, n, f) : FS).1 < 12 := hkx; omega))) (fun o H1 hz hk hq => ?_)
  obtain ⟨hr, hw⟩ := hq
  refine ⟨by rw [hSj, addS_3n]; exact hr, PX.n (hcl H1 _ (hw.sub [0, 1, 2] rfl) (by rw [addS_kd, hSj]) ?_ (fun q h9 a b => hk q h9 (notA (t := t) hDj h9 (fun h8 => h8.elim a b)))) hts⟩
  rw [hSj, addS_3n]
  exact Or.inr (Or.inr ⟨rfl, rfl, h1, h2, _, hw.sub [3, 4, 5] rfl, va_D.same2 [h, h1, h2] hDo rfl rfl⟩)

theorem x_remove_R {l : Launch} {s0 : State} {D : va_G} {cI cF cJ : ClassId} (G : Gx l s0 D cI cF cJ) (j A B n : Nat) (hd pv : Int32) (cs f : Nat → Nat) (x : Int64) (xo fa ma : Nat) (t : Nat → Nat) (S : Nat → FS) {H : Heap} (hX : PX D cI cF xo fa ma t S H) (hok : ∀ i, i < 4 → okS (S i)) (hon : onS s0 H) (ht0 : ∀ q, q < s0.heap.size → t q = 0) (hts : ∀ q, H.size ≤ q → t q ≤ 13)  (hj : j < 4) (hSj : S j = (3, A, B, hd, pv, cs, n, f))  : Mx l s0 y_F_remove (.code y_F_remove b_F_remove 5 (some .int)) { frames := 8, cells := 4, slots := 1094, locals := 180 } [.ref xo, .int (nI j), .long x] H (FX t H.size) (Rq s0 (if (remS (S j) x).1 then none else some E_N) (some (.int (remS (S j) x).2.2.2.2.1)) (fun H1 => PXn D cI cF xo fa ma t H.size (va_up S j (remS (S j) x).2) H1)) := by
  have h0 : (S j).1 ≠ 0 := by rw [hSj]; exact (by decide : 3 ≠ 0)
  have hoj := hok j hj
  obtain ⟨fi, mk, h, hP, hD, hfi, ho, hcl⟩ := hX.at hj h0
  rw [hSj] at ho hcl hoj
  have hkx : kx j 3 < 12 := kx_lt hj (by decide) (by decide)
  rcases ho with ⟨e9, -⟩ | ⟨e9, -⟩ | ⟨-, e2, h1, h2, gg, hPo, hDo⟩
  all_goals first | (cases e9; done) | skip
  subst e2
  have hPj := va_P.app hP hPo
  have hDj := va_D.join2 hD hDo (fun q a b => by have a9 : t q = 1 := a; have b9 : t q = 2 + kx j 3 := b; omega)
  have hMr := c_F_remove_R G xo fa ma fi mk h h1 h2 A B n pv cs f gg j x hPj hDj hoj hj hfi hon (had_of (t := t) hDj ht0 (fun q h9 => by rcases h9 with h9 | h9 <;> (have h8 : t q = _ := h9; omega))) 
  refine Mx.mono hMr (Nat.le_of_ble_eq_true rfl) (Nat.le_of_ble_eq_true rfl) (Nat.le_of_ble_eq_true rfl) (Nat.le_of_ble_eq_true rfl) (FX.of (g := 0) hDj (fun q h9 => by rcases h9 with h9 | h9 <;> (have h8 : t q = _ := h9; have h7 : kx j ((3, A, B, nI n, pv, cs, n, f) : FS).1 < 12 := hkx; omega))) (fun o H1 hz hk hq => ?_)
  obtain ⟨hr, hw⟩ := hq
  refine ⟨by rw [hSj, remS_3n]; exact hr, PX.n (hcl H1 _ (hw.sub [0, 1, 2] rfl) (by rw [remS_kd, hSj]) ?_ (fun q h9 a b => hk q h9 (notA (t := t) hDj h9 (fun h8 => h8.elim a b)))) hts⟩
  rw [hSj, remS_3n]
  exact Or.inr (Or.inr ⟨rfl, rfl, h1, h2, _, hw.sub [3, 4, 5] rfl, va_D.same2 [h, h1, h2] hDo rfl rfl⟩)

theorem x_has_R {l : Launch} {s0 : State} {D : va_G} {cI cF cJ : ClassId} (G : Gx l s0 D cI cF cJ) (j A B n : Nat) (hd pv : Int32) (cs f : Nat → Nat) (x : Int64) (xo fa ma : Nat) (t : Nat → Nat) (S : Nat → FS) {H : Heap} (hX : PX D cI cF xo fa ma t S H) (hok : ∀ i, i < 4 → okS (S i)) (hon : onS s0 H) (ht0 : ∀ q, q < s0.heap.size → t q = 0) (hts : ∀ q, H.size ≤ q → t q ≤ 13)  (hj : j < 4) (hSj : S j = (3, A, B, hd, pv, cs, n, f))  : Mx l s0 y_F_has (.code y_F_has b_F_has 4 (some .boolean)) { frames := 8, cells := 4, slots := 1094, locals := 180 } [.ref xo, .int (nI j), .long x] H (FX t H.size) (Rq s0 none (some (.int (bI (hasS (S j) x)))) (fun H1 => PXn D cI cF xo fa ma t H.size (va_up S j (S j)) H1)) := by
  have h0 : (S j).1 ≠ 0 := by rw [hSj]; exact (by decide : 3 ≠ 0)
  have hoj := hok j hj
  obtain ⟨fi, mk, h, hP, hD, hfi, ho, hcl⟩ := hX.at hj h0
  rw [hSj] at ho hcl hoj
  have hkx : kx j 3 < 12 := kx_lt hj (by decide) (by decide)
  rcases ho with ⟨e9, -⟩ | ⟨e9, -⟩ | ⟨-, e2, h1, h2, gg, hPo, hDo⟩
  all_goals first | (cases e9; done) | skip
  subst e2
  have hPj := va_P.app hP hPo
  have hDj := va_D.join2 hD hDo (fun q a b => by have a9 : t q = 1 := a; have b9 : t q = 2 + kx j 3 := b; omega)
  have hMr := c_F_has_R G xo fa ma fi mk h h1 h2 A B n pv cs f gg j x hPj hDj hoj hj hfi hon (had_of (t := t) hDj ht0 (fun q h9 => by rcases h9 with h9 | h9 <;> (have h8 : t q = _ := h9; omega))) 
  refine Mx.mono hMr (Nat.le_of_ble_eq_true rfl) (Nat.le_of_ble_eq_true rfl) (Nat.le_of_ble_eq_true rfl) (Nat.le_of_ble_eq_true rfl) (FX.of (g := 0) hDj (fun q h9 => by rcases h9 with h9 | h9 <;> (have h8 : t q = _ := h9; have h7 : kx j ((3, A, B, nI n, pv, cs, n, f) : FS).1 < 12 := hkx; omega))) (fun o H1 hz hk hq => ?_)
  obtain ⟨hr, hw⟩ := hq
  refine ⟨by (try rw [hSj]); exact hr, PX.n (hcl H1 _ (hw.sub [0, 1, 2] rfl) (by rw [hSj]) ?_ (fun q h9 a b => hk q h9 (notA (t := t) hDj h9 (fun h8 => h8.elim a b)))) hts⟩
  try rw [hSj]
  exact Or.inr (Or.inr ⟨rfl, rfl, h1, h2, _, hw.sub [3, 4, 5] rfl, va_D.same2 [h, h1, h2] hDo rfl rfl⟩)

theorem x_same_R {l : Launch} {s0 : State} {D : va_G} {cI cF cJ : ClassId} (G : Gx l s0 D cI cF cJ) (j A B n : Nat) (hd pv : Int32) (cs f : Nat → Nat) (x y : Int64) (xo fa ma : Nat) (t : Nat → Nat) (S : Nat → FS) {H : Heap} (hX : PX D cI cF xo fa ma t S H) (hok : ∀ i, i < 4 → okS (S i)) (hon : onS s0 H) (ht0 : ∀ q, q < s0.heap.size → t q = 0) (hts : ∀ q, H.size ≤ q → t q ≤ 13)  (hj : j < 4) (hSj : S j = (3, A, B, hd, pv, cs, n, f))  : Mx l s0 y_F_same (.code y_F_same b_F_same 6 (some .boolean)) { frames := 8, cells := 4, slots := 1094, locals := 180 } [.ref xo, .int (nI j), .long x, .long y] H (FX t H.size) (Rq s0 none (some (.int (bI (sameS (S j) x y)))) (fun H1 => PXn D cI cF xo fa ma t H.size (va_up S j (S j)) H1)) := by
  have h0 : (S j).1 ≠ 0 := by rw [hSj]; exact (by decide : 3 ≠ 0)
  have hoj := hok j hj
  obtain ⟨fi, mk, h, hP, hD, hfi, ho, hcl⟩ := hX.at hj h0
  rw [hSj] at ho hcl hoj
  have hkx : kx j 3 < 12 := kx_lt hj (by decide) (by decide)
  rcases ho with ⟨e9, -⟩ | ⟨e9, -⟩ | ⟨-, e2, h1, h2, gg, hPo, hDo⟩
  all_goals first | (cases e9; done) | skip
  subst e2
  have hPj := va_P.app hP hPo
  have hDj := va_D.join2 hD hDo (fun q a b => by have a9 : t q = 1 := a; have b9 : t q = 2 + kx j 3 := b; omega)
  have hMr := c_F_same_R G xo fa ma fi mk h h1 h2 A B n pv cs f gg j x y hPj hDj hoj hj hfi hon (had_of (t := t) hDj ht0 (fun q h9 => by rcases h9 with h9 | h9 <;> (have h8 : t q = _ := h9; omega))) 
  refine Mx.mono hMr (Nat.le_of_ble_eq_true rfl) (Nat.le_of_ble_eq_true rfl) (Nat.le_of_ble_eq_true rfl) (Nat.le_of_ble_eq_true rfl) (FX.of (g := 0) hDj (fun q h9 => by rcases h9 with h9 | h9 <;> (have h8 : t q = _ := h9; have h7 : kx j ((3, A, B, nI n, pv, cs, n, f) : FS).1 < 12 := hkx; omega))) (fun o H1 hz hk hq => ?_)
  obtain ⟨hr, hw⟩ := hq
  refine ⟨by rw [hSj, sameS_3]; exact hr, PX.n (hcl H1 _ (hw.sub [0, 1, 2] rfl) (by rw [hSj]) ?_ (fun q h9 a b => hk q h9 (notA (t := t) hDj h9 (fun h8 => h8.elim a b)))) hts⟩
  try rw [hSj]
  exact Or.inr (Or.inr ⟨rfl, rfl, h1, h2, _, hw.sub [3, 4, 5] rfl, va_D.same2 [h, h1, h2] hDo rfl rfl⟩)

theorem x_hasAll_R {l : Launch} {s0 : State} {D : va_G} {cI cF cJ : ClassId} (G : Gx l s0 D cI cF cJ) (j A B n : Nat) (hd pv : Int32) (cs f : Nat → Nat) (x st : Int64) (nN : Nat) (xo fa ma : Nat) (t : Nat → Nat) (S : Nat → FS) {H : Heap} (hX : PX D cI cF xo fa ma t S H) (hok : ∀ i, i < 4 → okS (S i)) (hon : onS s0 H) (ht0 : ∀ q, q < s0.heap.size → t q = 0) (hts : ∀ q, H.size ≤ q → t q ≤ 13)  (hj : j < 4) (hSj : S j = (3, A, B, hd, pv, cs, n, f)) (hn4 : nN ≤ 400) : Mx l s0 y_F_hasAll (.code y_F_hasAll b_F_hasAll 12 (some .int)) { frames := 8, cells := 4, slots := 1094, locals := 180 } [.ref xo, .int (nI j), .long x, .long st, .int (nI nN)] H (FX t H.size) (Rq s0 none (some (.int (nI (haS (S j) nN x st)))) (fun H1 => PXn D cI cF xo fa ma t H.size (va_up S j (S j)) H1)) := by
  have h0 : (S j).1 ≠ 0 := by rw [hSj]; exact (by decide : 3 ≠ 0)
  have hoj := hok j hj
  obtain ⟨fi, mk, h, hP, hD, hfi, ho, hcl⟩ := hX.at hj h0
  rw [hSj] at ho hcl hoj
  have hkx : kx j 3 < 12 := kx_lt hj (by decide) (by decide)
  rcases ho with ⟨e9, -⟩ | ⟨e9, -⟩ | ⟨-, e2, h1, h2, gg, hPo, hDo⟩
  all_goals first | (cases e9; done) | skip
  subst e2
  have hPj := va_P.app hP hPo
  have hDj := va_D.join2 hD hDo (fun q a b => by have a9 : t q = 1 := a; have b9 : t q = 2 + kx j 3 := b; omega)
  have hMr := c_F_hasAll_R G xo fa ma fi mk h h1 h2 A B n pv cs f gg j x st nN hPj hDj hoj hj hfi hon (had_of (t := t) hDj ht0 (fun q h9 => by rcases h9 with h9 | h9 <;> (have h8 : t q = _ := h9; omega))) hn4
  refine Mx.mono hMr (Nat.le_of_ble_eq_true rfl) (Nat.le_of_ble_eq_true rfl) (Nat.le_of_ble_eq_true rfl) (Nat.le_of_ble_eq_true rfl) (FX.of (g := 0) hDj (fun q h9 => by rcases h9 with h9 | h9 <;> (have h8 : t q = _ := h9; have h7 : kx j ((3, A, B, nI n, pv, cs, n, f) : FS).1 < 12 := hkx; omega))) (fun o H1 hz hk hq => ?_)
  obtain ⟨hr, hw⟩ := hq
  refine ⟨by (try rw [hSj]); exact hr, PX.n (hcl H1 _ (hw.sub [0, 1, 2] rfl) (by rw [hSj]) ?_ (fun q h9 a b => hk q h9 (notA (t := t) hDj h9 (fun h8 => h8.elim a b)))) hts⟩
  try rw [hSj]
  exact Or.inr (Or.inr ⟨rfl, rfl, h1, h2, _, hw.sub [3, 4, 5] rfl, va_D.same2 [h, h1, h2] hDo rfl rfl⟩)

theorem x_addAll_R {l : Launch} {s0 : State} {D : va_G} {cI cF cJ : ClassId} (G : Gx l s0 D cI cF cJ) (j A B n : Nat) (hd pv : Int32) (cs f : Nat → Nat) (x st : Int64) (nN : Nat) (xo fa ma : Nat) (t : Nat → Nat) (S : Nat → FS) {H : Heap} (hX : PX D cI cF xo fa ma t S H) (hok : ∀ i, i < 4 → okS (S i)) (hon : onS s0 H) (ht0 : ∀ q, q < s0.heap.size → t q = 0) (hts : ∀ q, H.size ≤ q → t q ≤ 13)  (hj : j < 4) (hSj : S j = (3, A, B, hd, pv, cs, n, f)) (hn4 : nN ≤ 400) : Mx l s0 y_F_addAll (.code y_F_addAll b_F_addAll 11 (some .int)) { frames := 8, cells := 4, slots := 1094, locals := 180 } [.ref xo, .int (nI j), .long x, .long st, .int (nI nN)] H (FX t H.size) (Rq s0 none (some (.int (nI (aaS nN (S j) x st).1))) (fun H1 => PXn D cI cF xo fa ma t H.size (va_up S j (aaS nN (S j) x st).2) H1)) := by
  have h0 : (S j).1 ≠ 0 := by rw [hSj]; exact (by decide : 3 ≠ 0)
  have hoj := hok j hj
  obtain ⟨fi, mk, h, hP, hD, hfi, ho, hcl⟩ := hX.at hj h0
  rw [hSj] at ho hcl hoj
  have hkx : kx j 3 < 12 := kx_lt hj (by decide) (by decide)
  rcases ho with ⟨e9, -⟩ | ⟨e9, -⟩ | ⟨-, e2, h1, h2, gg, hPo, hDo⟩
  all_goals first | (cases e9; done) | skip
  subst e2
  have hPj := va_P.app hP hPo
  have hDj := va_D.join2 hD hDo (fun q a b => by have a9 : t q = 1 := a; have b9 : t q = 2 + kx j 3 := b; omega)
  have hMr := c_F_addAll_R G xo fa ma fi mk h h1 h2 A B n pv cs f gg j x st nN hPj hDj hoj hj hfi hon (had_of (t := t) hDj ht0 (fun q h9 => by rcases h9 with h9 | h9 <;> (have h8 : t q = _ := h9; omega))) hn4
  refine Mx.mono hMr (Nat.le_of_ble_eq_true rfl) (Nat.le_of_ble_eq_true rfl) (Nat.le_of_ble_eq_true rfl) (Nat.le_of_ble_eq_true rfl) (FX.of (g := 0) hDj (fun q h9 => by rcases h9 with h9 | h9 <;> (have h8 : t q = _ := h9; have h7 : kx j ((3, A, B, nI n, pv, cs, n, f) : FS).1 < 12 := hkx; omega))) (fun o H1 hz hk hq => ?_)
  obtain ⟨hr, n2, f2, he9, hw⟩ := hq
  refine ⟨by (try rw [hSj]); exact hr, PX.n (hcl H1 _ (hw.sub [0, 1, 2] rfl) (by rw [(okS_aa (hok j hj) h0).2, hSj]) ?_ (fun q h9 a b => hk q h9 (notA (t := t) hDj h9 (fun h8 => h8.elim a b)))) hts⟩
  rw [hSj, he9]
  exact Or.inr (Or.inr ⟨rfl, rfl, h1, h2, _, hw.sub [3, 4, 5] rfl, va_D.same2 [h, h1, h2] hDo rfl rfl⟩)

theorem x_addAll_items_R {l : Launch} {s0 : State} {D : va_G} {cI cF cJ : ClassId} (G : Gx l s0 D cI cF cJ) (j A B n : Nat) (hd pv : Int32) (cs f : Nat → Nat) (x st : Int64) (v : Int32) (v9 : Option Value) (xo fa ma : Nat) (t : Nat → Nat) (S : Nat → FS) {H : Heap} (hX : PX D cI cF xo fa ma t S H) (hok : ∀ i, i < 4 → okS (S i)) (hon : onS s0 H) (ht0 : ∀ q, q < s0.heap.size → t q = 0) (hts : ∀ q, H.size ≤ q → t q ≤ 13)  (hj : j < 4) (hSj : S j = (3, A, B, hd, pv, cs, n, f)) (hv : wth v (nI 0) (nI 400) = false) : Mx l s0 y_F_addAll (.code y_F_addAll b_F_addAll 11 (some .int)) { frames := 8, cells := 4, slots := 1094, locals := 180 } [.ref xo, .int (nI j), .long x, .long st, .int v] H (FX t H.size) (Rq s0 (some E_A) v9 (fun H1 => PXn D cI cF xo fa ma t H.size (va_up S j (S j)) H1)) := by
  have h0 : (S j).1 ≠ 0 := by rw [hSj]; exact (by decide : 3 ≠ 0)
  have hoj := hok j hj
  obtain ⟨fi, mk, h, hP, hD, hfi, ho, hcl⟩ := hX.at hj h0
  rw [hSj] at ho hcl hoj
  have hkx : kx j 3 < 12 := kx_lt hj (by decide) (by decide)
  rcases ho with ⟨e9, -⟩ | ⟨e9, -⟩ | ⟨-, e2, h1, h2, gg, hPo, hDo⟩
  all_goals first | (cases e9; done) | skip
  subst e2
  have hPj := va_P.app hP hPo
  have hDj := va_D.join2 hD hDo (fun q a b => by have a9 : t q = 1 := a; have b9 : t q = 2 + kx j 3 := b; omega)
  have hMr := c_F_addAll_R_items G xo fa ma fi mk h h1 h2 A B n pv cs f gg j x st v hPj hDj hoj hj hfi hon (had_of (t := t) hDj ht0 (fun q h9 => by rcases h9 with h9 | h9 <;> (have h8 : t q = _ := h9; omega))) hv
  refine Mx.mono hMr (Nat.le_of_ble_eq_true rfl) (Nat.le_of_ble_eq_true rfl) (Nat.le_of_ble_eq_true rfl) (Nat.le_of_ble_eq_true rfl) (FX.of (g := 0) hDj (fun q h9 => by rcases h9 with h9 | h9 <;> (have h8 : t q = _ := h9; have h7 : kx j ((3, A, B, nI n, pv, cs, n, f) : FS).1 < 12 := hkx; omega))) (fun o H1 hz hk hq => ?_)
  obtain ⟨hr, hw⟩ := hq
  refine ⟨by (try rw [hSj]); exact hr, PX.n (hcl H1 _ (hw.sub [0, 1, 2] rfl) (by rw [hSj]) ?_ (fun q h9 a b => hk q h9 (notA (t := t) hDj h9 (fun h8 => h8.elim a b)))) hts⟩
  try rw [hSj]
  exact Or.inr (Or.inr ⟨rfl, rfl, h1, h2, _, hw.sub [3, 4, 5] rfl, va_D.same2 [h, h1, h2] hDo rfl rfl⟩)

theorem x_hasAll_items_R {l : Launch} {s0 : State} {D : va_G} {cI cF cJ : ClassId} (G : Gx l s0 D cI cF cJ) (j A B n : Nat) (hd pv : Int32) (cs f : Nat → Nat) (x st : Int64) (v : Int32) (v9 : Option Value) (xo fa ma : Nat) (t : Nat → Nat) (S : Nat → FS) {H : Heap} (hX : PX D cI cF xo fa ma t S H) (hok : ∀ i, i < 4 → okS (S i)) (hon : onS s0 H) (ht0 : ∀ q, q < s0.heap.size → t q = 0) (hts : ∀ q, H.size ≤ q → t q ≤ 13)  (hj : j < 4) (hSj : S j = (3, A, B, hd, pv, cs, n, f)) (hv : wth v (nI 0) (nI 400) = false) : Mx l s0 y_F_hasAll (.code y_F_hasAll b_F_hasAll 12 (some .int)) { frames := 8, cells := 4, slots := 1094, locals := 180 } [.ref xo, .int (nI j), .long x, .long st, .int v] H (FX t H.size) (Rq s0 (some E_A) v9 (fun H1 => PXn D cI cF xo fa ma t H.size (va_up S j (S j)) H1)) := by
  have h0 : (S j).1 ≠ 0 := by rw [hSj]; exact (by decide : 3 ≠ 0)
  have hoj := hok j hj
  obtain ⟨fi, mk, h, hP, hD, hfi, ho, hcl⟩ := hX.at hj h0
  rw [hSj] at ho hcl hoj
  have hkx : kx j 3 < 12 := kx_lt hj (by decide) (by decide)
  rcases ho with ⟨e9, -⟩ | ⟨e9, -⟩ | ⟨-, e2, h1, h2, gg, hPo, hDo⟩
  all_goals first | (cases e9; done) | skip
  subst e2
  have hPj := va_P.app hP hPo
  have hDj := va_D.join2 hD hDo (fun q a b => by have a9 : t q = 1 := a; have b9 : t q = 2 + kx j 3 := b; omega)
  have hMr := c_F_hasAll_R_items G xo fa ma fi mk h h1 h2 A B n pv cs f gg j x st v hPj hDj hoj hj hfi hon (had_of (t := t) hDj ht0 (fun q h9 => by rcases h9 with h9 | h9 <;> (have h8 : t q = _ := h9; omega))) hv
  refine Mx.mono hMr (Nat.le_of_ble_eq_true rfl) (Nat.le_of_ble_eq_true rfl) (Nat.le_of_ble_eq_true rfl) (Nat.le_of_ble_eq_true rfl) (FX.of (g := 0) hDj (fun q h9 => by rcases h9 with h9 | h9 <;> (have h8 : t q = _ := h9; have h7 : kx j ((3, A, B, nI n, pv, cs, n, f) : FS).1 < 12 := hkx; omega))) (fun o H1 hz hk hq => ?_)
  obtain ⟨hr, hw⟩ := hq
  refine ⟨by (try rw [hSj]); exact hr, PX.n (hcl H1 _ (hw.sub [0, 1, 2] rfl) (by rw [hSj]) ?_ (fun q h9 a b => hk q h9 (notA (t := t) hDj h9 (fun h8 => h8.elim a b)))) hts⟩
  try rw [hSj]
  exact Or.inr (Or.inr ⟨rfl, rfl, h1, h2, _, hw.sub [3, 4, 5] rfl, va_D.same2 [h, h1, h2] hDo rfl rfl⟩)

theorem x_count_0_R {l : Launch} {s0 : State} {D : va_G} {cI cF cJ : ClassId} (G : Gx l s0 D cI cF cJ) (j A B n : Nat) (hd pv : Int32) (cs f : Nat → Nat)  (xo fa ma : Nat) (t : Nat → Nat) (S : Nat → FS) {H : Heap} (hX : PX D cI cF xo fa ma t S H) (hok : ∀ i, i < 4 → okS (S i)) (hon : onS s0 H) (ht0 : ∀ q, q < s0.heap.size → t q = 0) (hts : ∀ q, H.size ≤ q → t q ≤ 13)  (hj : j < 4) (hSj : S j = (3, A, B, hd, pv, cs, n, f))  : Mx l s0 y_F_count (.code y_F_count b_F_count 4 (some .int)) { frames := 8, cells := 4, slots := 1094, locals := 180 } [.ref xo, .int (nI j), .int (nI 0)] H (FX t H.size) (Rq s0 none (some (.int (cntS (S j) 0))) (fun H1 => PXn D cI cF xo fa ma t H.size (va_up S j (S j)) H1)) := by
  have h0 : (S j).1 ≠ 0 := by rw [hSj]; exact (by decide : 3 ≠ 0)
  have hoj := hok j hj
  obtain ⟨fi, mk, h, hP, hD, hfi, ho, hcl⟩ := hX.at hj h0
  rw [hSj] at ho hcl hoj
  have hkx : kx j 3 < 12 := kx_lt hj (by decide) (by decide)
  rcases ho with ⟨e9, -⟩ | ⟨e9, -⟩ | ⟨-, e2, h1, h2, gg, hPo, hDo⟩
  all_goals first | (cases e9; done) | skip
  subst e2
  have hPj := va_P.app hP hPo
  have hDj := va_D.join2 hD hDo (fun q a b => by have a9 : t q = 1 := a; have b9 : t q = 2 + kx j 3 := b; omega)
  have hMr := c_F_count_R_0 G xo fa ma fi mk h h1 h2 A B n pv cs f gg j  hPj hDj hoj hj hfi hon (had_of (t := t) hDj ht0 (fun q h9 => by rcases h9 with h9 | h9 <;> (have h8 : t q = _ := h9; omega))) 
  refine Mx.mono hMr (Nat.le_of_ble_eq_true rfl) (Nat.le_of_ble_eq_true rfl) (Nat.le_of_ble_eq_true rfl) (Nat.le_of_ble_eq_true rfl) (FX.of (g := 0) hDj (fun q h9 => by rcases h9 with h9 | h9 <;> (have h8 : t q = _ := h9; have h7 : kx j ((3, A, B, nI n, pv, cs, n, f) : FS).1 < 12 := hkx; omega))) (fun o H1 hz hk hq => ?_)
  obtain ⟨hr, hw⟩ := hq
  refine ⟨by (try rw [hSj]); exact hr, PX.n (hcl H1 _ (hw.sub [0, 1, 2] rfl) (by rw [hSj]) ?_ (fun q h9 a b => hk q h9 (notA (t := t) hDj h9 (fun h8 => h8.elim a b)))) hts⟩
  try rw [hSj]
  exact Or.inr (Or.inr ⟨rfl, rfl, h1, h2, _, hw.sub [3, 4, 5] rfl, va_D.same2 [h, h1, h2] hDo rfl rfl⟩)

theorem x_count_1_R {l : Launch} {s0 : State} {D : va_G} {cI cF cJ : ClassId} (G : Gx l s0 D cI cF cJ) (j A B n : Nat) (hd pv : Int32) (cs f : Nat → Nat)  (xo fa ma : Nat) (t : Nat → Nat) (S : Nat → FS) {H : Heap} (hX : PX D cI cF xo fa ma t S H) (hok : ∀ i, i < 4 → okS (S i)) (hon : onS s0 H) (ht0 : ∀ q, q < s0.heap.size → t q = 0) (hts : ∀ q, H.size ≤ q → t q ≤ 13)  (hj : j < 4) (hSj : S j = (3, A, B, hd, pv, cs, n, f))  : Mx l s0 y_F_count (.code y_F_count b_F_count 4 (some .int)) { frames := 8, cells := 4, slots := 1094, locals := 180 } [.ref xo, .int (nI j), .int (nI 1)] H (FX t H.size) (Rq s0 none (some (.int (cntS (S j) 1))) (fun H1 => PXn D cI cF xo fa ma t H.size (va_up S j (S j)) H1)) := by
  have h0 : (S j).1 ≠ 0 := by rw [hSj]; exact (by decide : 3 ≠ 0)
  have hoj := hok j hj
  obtain ⟨fi, mk, h, hP, hD, hfi, ho, hcl⟩ := hX.at hj h0
  rw [hSj] at ho hcl hoj
  have hkx : kx j 3 < 12 := kx_lt hj (by decide) (by decide)
  rcases ho with ⟨e9, -⟩ | ⟨e9, -⟩ | ⟨-, e2, h1, h2, gg, hPo, hDo⟩
  all_goals first | (cases e9; done) | skip
  subst e2
  have hPj := va_P.app hP hPo
  have hDj := va_D.join2 hD hDo (fun q a b => by have a9 : t q = 1 := a; have b9 : t q = 2 + kx j 3 := b; omega)
  have hMr := c_F_count_R_1 G xo fa ma fi mk h h1 h2 A B n pv cs f gg j  hPj hDj hoj hj hfi hon (had_of (t := t) hDj ht0 (fun q h9 => by rcases h9 with h9 | h9 <;> (have h8 : t q = _ := h9; omega))) 
  refine Mx.mono hMr (Nat.le_of_ble_eq_true rfl) (Nat.le_of_ble_eq_true rfl) (Nat.le_of_ble_eq_true rfl) (Nat.le_of_ble_eq_true rfl) (FX.of (g := 0) hDj (fun q h9 => by rcases h9 with h9 | h9 <;> (have h8 : t q = _ := h9; have h7 : kx j ((3, A, B, nI n, pv, cs, n, f) : FS).1 < 12 := hkx; omega))) (fun o H1 hz hk hq => ?_)
  obtain ⟨hr, hw⟩ := hq
  refine ⟨by (try rw [hSj]); exact hr, PX.n (hcl H1 _ (hw.sub [0, 1, 2] rfl) (by rw [hSj]) ?_ (fun q h9 a b => hk q h9 (notA (t := t) hDj h9 (fun h8 => h8.elim a b)))) hts⟩
  try rw [hSj]
  exact Or.inr (Or.inr ⟨rfl, rfl, h1, h2, _, hw.sub [3, 4, 5] rfl, va_D.same2 [h, h1, h2] hDo rfl rfl⟩)

theorem x_count_2_R {l : Launch} {s0 : State} {D : va_G} {cI cF cJ : ClassId} (G : Gx l s0 D cI cF cJ) (j A B n : Nat) (hd pv : Int32) (cs f : Nat → Nat)  (xo fa ma : Nat) (t : Nat → Nat) (S : Nat → FS) {H : Heap} (hX : PX D cI cF xo fa ma t S H) (hok : ∀ i, i < 4 → okS (S i)) (hon : onS s0 H) (ht0 : ∀ q, q < s0.heap.size → t q = 0) (hts : ∀ q, H.size ≤ q → t q ≤ 13)  (hj : j < 4) (hSj : S j = (3, A, B, hd, pv, cs, n, f))  : Mx l s0 y_F_count (.code y_F_count b_F_count 4 (some .int)) { frames := 8, cells := 4, slots := 1094, locals := 180 } [.ref xo, .int (nI j), .int (nI 2)] H (FX t H.size) (Rq s0 none (some (.int (cntS (S j) 2))) (fun H1 => PXn D cI cF xo fa ma t H.size (va_up S j (S j)) H1)) := by
  have h0 : (S j).1 ≠ 0 := by rw [hSj]; exact (by decide : 3 ≠ 0)
  have hoj := hok j hj
  obtain ⟨fi, mk, h, hP, hD, hfi, ho, hcl⟩ := hX.at hj h0
  rw [hSj] at ho hcl hoj
  have hkx : kx j 3 < 12 := kx_lt hj (by decide) (by decide)
  rcases ho with ⟨e9, -⟩ | ⟨e9, -⟩ | ⟨-, e2, h1, h2, gg, hPo, hDo⟩
  all_goals first | (cases e9; done) | skip
  subst e2
  have hPj := va_P.app hP hPo
  have hDj := va_D.join2 hD hDo (fun q a b => by have a9 : t q = 1 := a; have b9 : t q = 2 + kx j 3 := b; omega)
  have hMr := c_F_count_R_2 G xo fa ma fi mk h h1 h2 A B n pv cs f gg j  hPj hDj hoj hj hfi hon (had_of (t := t) hDj ht0 (fun q h9 => by rcases h9 with h9 | h9 <;> (have h8 : t q = _ := h9; omega))) 
  refine Mx.mono hMr (Nat.le_of_ble_eq_true rfl) (Nat.le_of_ble_eq_true rfl) (Nat.le_of_ble_eq_true rfl) (Nat.le_of_ble_eq_true rfl) (FX.of (g := 0) hDj (fun q h9 => by rcases h9 with h9 | h9 <;> (have h8 : t q = _ := h9; have h7 : kx j ((3, A, B, nI n, pv, cs, n, f) : FS).1 < 12 := hkx; omega))) (fun o H1 hz hk hq => ?_)
  obtain ⟨hr, hw⟩ := hq
  refine ⟨by (try rw [hSj]); exact hr, PX.n (hcl H1 _ (hw.sub [0, 1, 2] rfl) (by rw [hSj]) ?_ (fun q h9 a b => hk q h9 (notA (t := t) hDj h9 (fun h8 => h8.elim a b)))) hts⟩
  try rw [hSj]
  exact Or.inr (Or.inr ⟨rfl, rfl, h1, h2, _, hw.sub [3, 4, 5] rfl, va_D.same2 [h, h1, h2] hDo rfl rfl⟩)

theorem x_count_3_R {l : Launch} {s0 : State} {D : va_G} {cI cF cJ : ClassId} (G : Gx l s0 D cI cF cJ) (j A B n : Nat) (hd pv : Int32) (cs f : Nat → Nat)  (xo fa ma : Nat) (t : Nat → Nat) (S : Nat → FS) {H : Heap} (hX : PX D cI cF xo fa ma t S H) (hok : ∀ i, i < 4 → okS (S i)) (hon : onS s0 H) (ht0 : ∀ q, q < s0.heap.size → t q = 0) (hts : ∀ q, H.size ≤ q → t q ≤ 13)  (hj : j < 4) (hSj : S j = (3, A, B, hd, pv, cs, n, f))  : Mx l s0 y_F_count (.code y_F_count b_F_count 4 (some .int)) { frames := 8, cells := 4, slots := 1094, locals := 180 } [.ref xo, .int (nI j), .int (nI 3)] H (FX t H.size) (Rq s0 none (some (.int (cntS (S j) 3))) (fun H1 => PXn D cI cF xo fa ma t H.size (va_up S j (S j)) H1)) := by
  have h0 : (S j).1 ≠ 0 := by rw [hSj]; exact (by decide : 3 ≠ 0)
  have hoj := hok j hj
  obtain ⟨fi, mk, h, hP, hD, hfi, ho, hcl⟩ := hX.at hj h0
  rw [hSj] at ho hcl hoj
  have hkx : kx j 3 < 12 := kx_lt hj (by decide) (by decide)
  rcases ho with ⟨e9, -⟩ | ⟨e9, -⟩ | ⟨-, e2, h1, h2, gg, hPo, hDo⟩
  all_goals first | (cases e9; done) | skip
  subst e2
  have hPj := va_P.app hP hPo
  have hDj := va_D.join2 hD hDo (fun q a b => by have a9 : t q = 1 := a; have b9 : t q = 2 + kx j 3 := b; omega)
  have hMr := c_F_count_R_3 G xo fa ma fi mk h h1 h2 A B n pv cs f gg j  hPj hDj hoj hj hfi hon (had_of (t := t) hDj ht0 (fun q h9 => by rcases h9 with h9 | h9 <;> (have h8 : t q = _ := h9; omega))) 
  refine Mx.mono hMr (Nat.le_of_ble_eq_true rfl) (Nat.le_of_ble_eq_true rfl) (Nat.le_of_ble_eq_true rfl) (Nat.le_of_ble_eq_true rfl) (FX.of (g := 0) hDj (fun q h9 => by rcases h9 with h9 | h9 <;> (have h8 : t q = _ := h9; have h7 : kx j ((3, A, B, nI n, pv, cs, n, f) : FS).1 < 12 := hkx; omega))) (fun o H1 hz hk hq => ?_)
  obtain ⟨hr, hw⟩ := hq
  refine ⟨by (try rw [hSj]); exact hr, PX.n (hcl H1 _ (hw.sub [0, 1, 2] rfl) (by rw [hSj]) ?_ (fun q h9 a b => hk q h9 (notA (t := t) hDj h9 (fun h8 => h8.elim a b)))) hts⟩
  try rw [hSj]
  exact Or.inr (Or.inr ⟨rfl, rfl, h1, h2, _, hw.sub [3, 4, 5] rfl, va_D.same2 [h, h1, h2] hDo rfl rfl⟩)

theorem x_count_4_R {l : Launch} {s0 : State} {D : va_G} {cI cF cJ : ClassId} (G : Gx l s0 D cI cF cJ) (j A B n : Nat) (hd pv : Int32) (cs f : Nat → Nat)  (xo fa ma : Nat) (t : Nat → Nat) (S : Nat → FS) {H : Heap} (hX : PX D cI cF xo fa ma t S H) (hok : ∀ i, i < 4 → okS (S i)) (hon : onS s0 H) (ht0 : ∀ q, q < s0.heap.size → t q = 0) (hts : ∀ q, H.size ≤ q → t q ≤ 13)  (hj : j < 4) (hSj : S j = (3, A, B, hd, pv, cs, n, f))  : Mx l s0 y_F_count (.code y_F_count b_F_count 4 (some .int)) { frames := 8, cells := 4, slots := 1094, locals := 180 } [.ref xo, .int (nI j), .int (nI 4)] H (FX t H.size) (Rq s0 none (some (.int (cntS (S j) 4))) (fun H1 => PXn D cI cF xo fa ma t H.size (va_up S j (S j)) H1)) := by
  have h0 : (S j).1 ≠ 0 := by rw [hSj]; exact (by decide : 3 ≠ 0)
  have hoj := hok j hj
  obtain ⟨fi, mk, h, hP, hD, hfi, ho, hcl⟩ := hX.at hj h0
  rw [hSj] at ho hcl hoj
  have hkx : kx j 3 < 12 := kx_lt hj (by decide) (by decide)
  rcases ho with ⟨e9, -⟩ | ⟨e9, -⟩ | ⟨-, e2, h1, h2, gg, hPo, hDo⟩
  all_goals first | (cases e9; done) | skip
  subst e2
  have hPj := va_P.app hP hPo
  have hDj := va_D.join2 hD hDo (fun q a b => by have a9 : t q = 1 := a; have b9 : t q = 2 + kx j 3 := b; omega)
  have hMr := c_F_count_R_4 G xo fa ma fi mk h h1 h2 A B n pv cs f gg j  hPj hDj hoj hj hfi hon (had_of (t := t) hDj ht0 (fun q h9 => by rcases h9 with h9 | h9 <;> (have h8 : t q = _ := h9; omega))) 
  refine Mx.mono hMr (Nat.le_of_ble_eq_true rfl) (Nat.le_of_ble_eq_true rfl) (Nat.le_of_ble_eq_true rfl) (Nat.le_of_ble_eq_true rfl) (FX.of (g := 0) hDj (fun q h9 => by rcases h9 with h9 | h9 <;> (have h8 : t q = _ := h9; have h7 : kx j ((3, A, B, nI n, pv, cs, n, f) : FS).1 < 12 := hkx; omega))) (fun o H1 hz hk hq => ?_)
  obtain ⟨hr, hw⟩ := hq
  refine ⟨by (try rw [hSj]); exact hr, PX.n (hcl H1 _ (hw.sub [0, 1, 2] rfl) (by rw [hSj]) ?_ (fun q h9 a b => hk q h9 (notA (t := t) hDj h9 (fun h8 => h8.elim a b)))) hts⟩
  try rw [hSj]
  exact Or.inr (Or.inr ⟨rfl, rfl, h1, h2, _, hw.sub [3, 4, 5] rfl, va_D.same2 [h, h1, h2] hDo rfl rfl⟩)

theorem x_count_5_R {l : Launch} {s0 : State} {D : va_G} {cI cF cJ : ClassId} (G : Gx l s0 D cI cF cJ) (j A B n : Nat) (hd pv : Int32) (cs f : Nat → Nat)  (xo fa ma : Nat) (t : Nat → Nat) (S : Nat → FS) {H : Heap} (hX : PX D cI cF xo fa ma t S H) (hok : ∀ i, i < 4 → okS (S i)) (hon : onS s0 H) (ht0 : ∀ q, q < s0.heap.size → t q = 0) (hts : ∀ q, H.size ≤ q → t q ≤ 13)  (hj : j < 4) (hSj : S j = (3, A, B, hd, pv, cs, n, f))  : Mx l s0 y_F_count (.code y_F_count b_F_count 4 (some .int)) { frames := 8, cells := 4, slots := 1094, locals := 180 } [.ref xo, .int (nI j), .int (nI 5)] H (FX t H.size) (Rq s0 none (some (.int (cntS (S j) 5))) (fun H1 => PXn D cI cF xo fa ma t H.size (va_up S j (S j)) H1)) := by
  have h0 : (S j).1 ≠ 0 := by rw [hSj]; exact (by decide : 3 ≠ 0)
  have hoj := hok j hj
  obtain ⟨fi, mk, h, hP, hD, hfi, ho, hcl⟩ := hX.at hj h0
  rw [hSj] at ho hcl hoj
  have hkx : kx j 3 < 12 := kx_lt hj (by decide) (by decide)
  rcases ho with ⟨e9, -⟩ | ⟨e9, -⟩ | ⟨-, e2, h1, h2, gg, hPo, hDo⟩
  all_goals first | (cases e9; done) | skip
  subst e2
  have hPj := va_P.app hP hPo
  have hDj := va_D.join2 hD hDo (fun q a b => by have a9 : t q = 1 := a; have b9 : t q = 2 + kx j 3 := b; omega)
  have hMr := c_F_count_R_5 G xo fa ma fi mk h h1 h2 A B n pv cs f gg j  hPj hDj hoj hj hfi hon (had_of (t := t) hDj ht0 (fun q h9 => by rcases h9 with h9 | h9 <;> (have h8 : t q = _ := h9; omega))) 
  refine Mx.mono hMr (Nat.le_of_ble_eq_true rfl) (Nat.le_of_ble_eq_true rfl) (Nat.le_of_ble_eq_true rfl) (Nat.le_of_ble_eq_true rfl) (FX.of (g := 0) hDj (fun q h9 => by rcases h9 with h9 | h9 <;> (have h8 : t q = _ := h9; have h7 : kx j ((3, A, B, nI n, pv, cs, n, f) : FS).1 < 12 := hkx; omega))) (fun o H1 hz hk hq => ?_)
  obtain ⟨hr, hw⟩ := hq
  refine ⟨by (try rw [hSj]); exact hr, PX.n (hcl H1 _ (hw.sub [0, 1, 2] rfl) (by rw [hSj]) ?_ (fun q h9 a b => hk q h9 (notA (t := t) hDj h9 (fun h8 => h8.elim a b)))) hts⟩
  try rw [hSj]
  exact Or.inr (Or.inr ⟨rfl, rfl, h1, h2, _, hw.sub [3, 4, 5] rfl, va_D.same2 [h, h1, h2] hDo rfl rfl⟩)

theorem x_count_out_R {l : Launch} {s0 : State} {D : va_G} {cI cF cJ : ClassId} (G : Gx l s0 D cI cF cJ) (j A B n : Nat) (hd pv : Int32) (cs f : Nat → Nat) (wv : Int32) (v9 : Option Value) (xo fa ma : Nat) (t : Nat → Nat) (S : Nat → FS) {H : Heap} (hX : PX D cI cF xo fa ma t S H) (hok : ∀ i, i < 4 → okS (S i)) (hon : onS s0 H) (ht0 : ∀ q, q < s0.heap.size → t q = 0) (hts : ∀ q, H.size ≤ q → t q ≤ 13)  (hj : j < 4) (hSj : S j = (3, A, B, hd, pv, cs, n, f)) (hw9 : wv.toInt < 0 ∨ 5 < wv.toInt) : Mx l s0 y_F_count (.code y_F_count b_F_count 4 (some .int)) { frames := 8, cells := 4, slots := 1094, locals := 180 } [.ref xo, .int (nI j), .int wv] H (FX t H.size) (Rq s0 (some E_A) v9 (fun H1 => PXn D cI cF xo fa ma t H.size (va_up S j (S j)) H1)) := by
  have h0 : (S j).1 ≠ 0 := by rw [hSj]; exact (by decide : 3 ≠ 0)
  have hoj := hok j hj
  obtain ⟨fi, mk, h, hP, hD, hfi, ho, hcl⟩ := hX.at hj h0
  rw [hSj] at ho hcl hoj
  have hkx : kx j 3 < 12 := kx_lt hj (by decide) (by decide)
  rcases ho with ⟨e9, -⟩ | ⟨e9, -⟩ | ⟨-, e2, h1, h2, gg, hPo, hDo⟩
  all_goals first | (cases e9; done) | skip
  subst e2
  have hPj := va_P.app hP hPo
  have hDj := va_D.join2 hD hDo (fun q a b => by have a9 : t q = 1 := a; have b9 : t q = 2 + kx j 3 := b; omega)
  have hMr := c_F_count_R_out G xo fa ma fi mk h h1 h2 A B n pv cs f gg j wv hPj hDj hoj hj hfi hon (had_of (t := t) hDj ht0 (fun q h9 => by rcases h9 with h9 | h9 <;> (have h8 : t q = _ := h9; omega))) hw9
  refine Mx.mono hMr (Nat.le_of_ble_eq_true rfl) (Nat.le_of_ble_eq_true rfl) (Nat.le_of_ble_eq_true rfl) (Nat.le_of_ble_eq_true rfl) (FX.of (g := 0) hDj (fun q h9 => by rcases h9 with h9 | h9 <;> (have h8 : t q = _ := h9; have h7 : kx j ((3, A, B, nI n, pv, cs, n, f) : FS).1 < 12 := hkx; omega))) (fun o H1 hz hk hq => ?_)
  obtain ⟨hr, hw⟩ := hq
  refine ⟨by (try rw [hSj]); exact hr, PX.n (hcl H1 _ (hw.sub [0, 1, 2] rfl) (by rw [hSj]) ?_ (fun q h9 a b => hk q h9 (notA (t := t) hDj h9 (fun h8 => h8.elim a b)))) hts⟩
  try rw [hSj]
  exact Or.inr (Or.inr ⟨rfl, rfl, h1, h2, _, hw.sub [3, 4, 5] rfl, va_D.same2 [h, h1, h2] hDo rfl rfl⟩)

theorem x_cell_R {l : Launch} {s0 : State} {D : va_G} {cI cF cJ : ClassId} (G : Gx l s0 D cI cF cJ) (j A B n : Nat) (hd pv : Int32) (cs f : Nat → Nat) (z : Nat) (xo fa ma : Nat) (t : Nat → Nat) (S : Nat → FS) {H : Heap} (hX : PX D cI cF xo fa ma t S H) (hok : ∀ i, i < 4 → okS (S i)) (hon : onS s0 H) (ht0 : ∀ q, q < s0.heap.size → t q = 0) (hts : ∀ q, H.size ≤ q → t q ≤ 13)  (hj : j < 4) (hSj : S j = (3, A, B, hd, pv, cs, n, f)) (hz9 : z < (2 ^ A)) : Mx l s0 y_F_cell (.code y_F_cell b_F_cell 4 (some .int)) { frames := 8, cells := 4, slots := 1094, locals := 180 } [.ref xo, .int (nI j), .int (nI z)] H (FX t H.size) (Rq s0 none (some (.int (lokS (S j) z))) (fun H1 => PXn D cI cF xo fa ma t H.size (va_up S j (S j)) H1)) := by
  have h0 : (S j).1 ≠ 0 := by rw [hSj]; exact (by decide : 3 ≠ 0)
  have hoj := hok j hj
  obtain ⟨fi, mk, h, hP, hD, hfi, ho, hcl⟩ := hX.at hj h0
  rw [hSj] at ho hcl hoj
  have hkx : kx j 3 < 12 := kx_lt hj (by decide) (by decide)
  rcases ho with ⟨e9, -⟩ | ⟨e9, -⟩ | ⟨-, e2, h1, h2, gg, hPo, hDo⟩
  all_goals first | (cases e9; done) | skip
  subst e2
  have hPj := va_P.app hP hPo
  have hDj := va_D.join2 hD hDo (fun q a b => by have a9 : t q = 1 := a; have b9 : t q = 2 + kx j 3 := b; omega)
  have hMr := c_F_cell_R G xo fa ma fi mk h h1 h2 A B n pv cs f gg j z hPj hDj hoj hj hfi hon (had_of (t := t) hDj ht0 (fun q h9 => by rcases h9 with h9 | h9 <;> (have h8 : t q = _ := h9; omega))) hz9
  refine Mx.mono hMr (Nat.le_of_ble_eq_true rfl) (Nat.le_of_ble_eq_true rfl) (Nat.le_of_ble_eq_true rfl) (Nat.le_of_ble_eq_true rfl) (FX.of (g := 0) hDj (fun q h9 => by rcases h9 with h9 | h9 <;> (have h8 : t q = _ := h9; have h7 : kx j ((3, A, B, nI n, pv, cs, n, f) : FS).1 < 12 := hkx; omega))) (fun o H1 hz hk hq => ?_)
  obtain ⟨hr, hw⟩ := hq
  refine ⟨by (try rw [hSj]); exact hr, PX.n (hcl H1 _ (hw.sub [0, 1, 2] rfl) (by rw [hSj]) ?_ (fun q h9 a b => hk q h9 (notA (t := t) hDj h9 (fun h8 => h8.elim a b)))) hts⟩
  try rw [hSj]
  exact Or.inr (Or.inr ⟨rfl, rfl, h1, h2, _, hw.sub [3, 4, 5] rfl, va_D.same2 [h, h1, h2] hDo rfl rfl⟩)

theorem x_cell_out_R {l : Launch} {s0 : State} {D : va_G} {cI cF cJ : ClassId} (G : Gx l s0 D cI cF cJ) (j A B n : Nat) (hd pv : Int32) (cs f : Nat → Nat) (iv : Int32) (v9 : Option Value) (xo fa ma : Nat) (t : Nat → Nat) (S : Nat → FS) {H : Heap} (hX : PX D cI cF xo fa ma t S H) (hok : ∀ i, i < 4 → okS (S i)) (hon : onS s0 H) (ht0 : ∀ q, q < s0.heap.size → t q = 0) (hts : ∀ q, H.size ≤ q → t q ≤ 13)  (hj : j < 4) (hSj : S j = (3, A, B, hd, pv, cs, n, f)) (hb9 : iv < 0 ∨ nI (2 ^ A) ≤ iv) : Mx l s0 y_F_cell (.code y_F_cell b_F_cell 4 (some .int)) { frames := 8, cells := 4, slots := 1094, locals := 180 } [.ref xo, .int (nI j), .int iv] H (FX t H.size) (Rq s0 (some E_I) v9 (fun H1 => PXn D cI cF xo fa ma t H.size (va_up S j (S j)) H1)) := by
  have h0 : (S j).1 ≠ 0 := by rw [hSj]; exact (by decide : 3 ≠ 0)
  have hoj := hok j hj
  obtain ⟨fi, mk, h, hP, hD, hfi, ho, hcl⟩ := hX.at hj h0
  rw [hSj] at ho hcl hoj
  have hkx : kx j 3 < 12 := kx_lt hj (by decide) (by decide)
  rcases ho with ⟨e9, -⟩ | ⟨e9, -⟩ | ⟨-, e2, h1, h2, gg, hPo, hDo⟩
  all_goals first | (cases e9; done) | skip
  subst e2
  have hPj := va_P.app hP hPo
  have hDj := va_D.join2 hD hDo (fun q a b => by have a9 : t q = 1 := a; have b9 : t q = 2 + kx j 3 := b; omega)
  have hMr := c_F_cell_R_out G xo fa ma fi mk h h1 h2 A B n pv cs f gg j iv hPj hDj hoj hj hfi hon (had_of (t := t) hDj ht0 (fun q h9 => by rcases h9 with h9 | h9 <;> (have h8 : t q = _ := h9; omega))) hb9
  refine Mx.mono hMr (Nat.le_of_ble_eq_true rfl) (Nat.le_of_ble_eq_true rfl) (Nat.le_of_ble_eq_true rfl) (Nat.le_of_ble_eq_true rfl) (FX.of (g := 0) hDj (fun q h9 => by rcases h9 with h9 | h9 <;> (have h8 : t q = _ := h9; have h7 : kx j ((3, A, B, nI n, pv, cs, n, f) : FS).1 < 12 := hkx; omega))) (fun o H1 hz hk hq => ?_)
  obtain ⟨hr, hw⟩ := hq
  refine ⟨by (try rw [hSj]); exact hr, PX.n (hcl H1 _ (hw.sub [0, 1, 2] rfl) (by rw [hSj]) ?_ (fun q h9 a b => hk q h9 (notA (t := t) hDj h9 (fun h8 => h8.elim a b)))) hts⟩
  try rw [hSj]
  exact Or.inr (Or.inr ⟨rfl, rfl, h1, h2, _, hw.sub [3, 4, 5] rfl, va_D.same2 [h, h1, h2] hDo rfl rfl⟩)

theorem x_clear_R {l : Launch} {s0 : State} {D : va_G} {cI cF cJ : ClassId} (G : Gx l s0 D cI cF cJ) (j A B n : Nat) (hd pv : Int32) (cs f : Nat → Nat)  (xo fa ma : Nat) (t : Nat → Nat) (S : Nat → FS) {H : Heap} (hX : PX D cI cF xo fa ma t S H) (hok : ∀ i, i < 4 → okS (S i)) (hon : onS s0 H) (ht0 : ∀ q, q < s0.heap.size → t q = 0) (hts : ∀ q, H.size ≤ q → t q ≤ 13)  (hj : j < 4) (hSj : S j = (3, A, B, hd, pv, cs, n, f))  : Mx l s0 y_F_clear (.code y_F_clear b_F_clear 4 (some .int)) { frames := 8, cells := 4, slots := 1094, locals := 180 } [.ref xo, .int (nI j)] H (FX t H.size) (Rq s0 none (some (.int (S j).2.2.2.1)) (fun H1 => PXn D cI cF xo fa ma t H.size (va_up S j (mkS (S j).1 (S j).2.1 (S j).2.2.1 (S j).2.2.2.2.2.2.2)) H1)) := by
  have h0 : (S j).1 ≠ 0 := by rw [hSj]; exact (by decide : 3 ≠ 0)
  have hoj := hok j hj
  obtain ⟨fi, mk, h, hP, hD, hfi, ho, hcl⟩ := hX.at hj h0
  rw [hSj] at ho hcl hoj
  have hkx : kx j 3 < 12 := kx_lt hj (by decide) (by decide)
  rcases ho with ⟨e9, -⟩ | ⟨e9, -⟩ | ⟨-, e2, h1, h2, gg, hPo, hDo⟩
  all_goals first | (cases e9; done) | skip
  subst e2
  have hPj := va_P.app hP hPo
  have hDj := va_D.join2 hD hDo (fun q a b => by have a9 : t q = 1 := a; have b9 : t q = 2 + kx j 3 := b; omega)
  have hMr := c_F_clear_R G xo fa ma fi mk h h1 h2 A B n pv cs f gg j  hPj hDj hoj hj hfi hon (had_of (t := t) hDj ht0 (fun q h9 => by rcases h9 with h9 | h9 <;> (have h8 : t q = _ := h9; omega))) 
  refine Mx.mono hMr (Nat.le_of_ble_eq_true rfl) (Nat.le_of_ble_eq_true rfl) (Nat.le_of_ble_eq_true rfl) (Nat.le_of_ble_eq_true rfl) (FX.of (g := 0) hDj (fun q h9 => by rcases h9 with h9 | h9 <;> (have h8 : t q = _ := h9; have h7 : kx j ((3, A, B, nI n, pv, cs, n, f) : FS).1 < 12 := hkx; omega))) (fun o H1 hz hk hq => ?_)
  obtain ⟨hr, hw⟩ := hq
  refine ⟨by (try rw [hSj]); exact hr, PX.n (hcl H1 _ (hw.sub [0, 1, 2] rfl) (by rw [hSj]; rfl) ?_ (fun q h9 a b => hk q h9 (notA (t := t) hDj h9 (fun h8 => h8.elim a b)))) hts⟩
  try rw [hSj]
  exact Or.inr (Or.inr ⟨rfl, rfl, h1, h2, _, hw.sub [3, 4, 5] rfl, va_D.same2 [h, h1, h2] hDo rfl rfl⟩)

theorem x_grow_R {l : Launch} {s0 : State} {D : va_G} {cI cF cJ : ClassId} (G : Gx l s0 D cI cF cJ) (j A B n : Nat) (hd pv : Int32) (cs f : Nat → Nat)  (xo fa ma : Nat) (t : Nat → Nat) (S : Nat → FS) {H : Heap} (hX : PX D cI cF xo fa ma t S H) (hok : ∀ i, i < 4 → okS (S i)) (hon : onS s0 H) (ht0 : ∀ q, q < s0.heap.size → t q = 0) (hts : ∀ q, H.size ≤ q → t q ≤ 13)  (hj : j < 4) (hSj : S j = (3, A, B, hd, pv, cs, n, f)) (hg : mbS (nI 3) (nI (A + 1)) (nI (B - 1)) = true) : Mx l s0 y_F_grow (.code y_F_grow b_F_grow 3 none) { frames := 8, cells := 4, slots := 1094, locals := 180 } [.ref xo, .int (nI j)] H (FX t H.size) (Rq s0 none none (fun H1 => PXn D cI cF xo fa ma t H.size (va_up S j (3, A + 1, B - 1, hd, pv, cs, n, f)) H1)) := by
  have h0 : (S j).1 ≠ 0 := by rw [hSj]; exact (by decide : 3 ≠ 0)
  have hoj := hok j hj
  obtain ⟨fi, mk, h, hP, hD, hfi, ho, hcl⟩ := hX.at hj h0
  rw [hSj] at ho hcl hoj
  have hkx : kx j 3 < 12 := kx_lt hj (by decide) (by decide)
  rcases ho with ⟨e9, -⟩ | ⟨e9, -⟩ | ⟨-, e2, h1, h2, gg, hPo, hDo⟩
  all_goals first | (cases e9; done) | skip
  subst e2
  have hPj := va_P.app hP hPo
  have hDj := va_D.join2 hD hDo (fun q a b => by have a9 : t q = 1 := a; have b9 : t q = 2 + kx j 3 := b; omega)
  have hMr := c_F_grow_R G xo fa ma fi mk h h1 h2 A B n pv cs f gg j  hPj hDj hoj hj hfi hon (had_of (t := t) hDj ht0 (fun q h9 => by rcases h9 with h9 | h9 <;> (have h8 : t q = _ := h9; omega))) hg
  refine Mx.mono hMr (Nat.le_of_ble_eq_true rfl) (Nat.le_of_ble_eq_true rfl) (Nat.le_of_ble_eq_true rfl) (Nat.le_of_ble_eq_true rfl) (FX.of (g := 0) hDj (fun q h9 => by rcases h9 with h9 | h9 <;> (have h8 : t q = _ := h9; have h7 : kx j ((3, A, B, nI n, pv, cs, n, f) : FS).1 < 12 := hkx; omega))) (fun o H1 hz hk hq => ?_)
  obtain ⟨hr, hw⟩ := hq
  refine ⟨by (try rw [hSj]); exact hr, PX.n (hcl H1 _ (hw.sub [0, 1, 2] rfl) (by rfl) ?_ (fun q h9 a b => hk q h9 (notA (t := t) hDj h9 (fun h8 => h8.elim a b)))) hts⟩
  try rw [hSj]
  exact Or.inr (Or.inr ⟨rfl, rfl, h1, h2, _, hw.sub [3, 4, 5] rfl, va_D.same2 [h, h1, h2] hDo rfl rfl⟩)

theorem x_grow_no_R {l : Launch} {s0 : State} {D : va_G} {cI cF cJ : ClassId} (G : Gx l s0 D cI cF cJ) (j A B n : Nat) (hd pv : Int32) (cs f : Nat → Nat) (v9 : Option Value) (xo fa ma : Nat) (t : Nat → Nat) (S : Nat → FS) {H : Heap} (hX : PX D cI cF xo fa ma t S H) (hok : ∀ i, i < 4 → okS (S i)) (hon : onS s0 H) (ht0 : ∀ q, q < s0.heap.size → t q = 0) (hts : ∀ q, H.size ≤ q → t q ≤ 13)  (hj : j < 4) (hSj : S j = (3, A, B, hd, pv, cs, n, f)) (hg : mbS (nI 3) (nI (A + 1)) (nI (B - 1)) = false) : Mx l s0 y_F_grow (.code y_F_grow b_F_grow 3 none) { frames := 8, cells := 4, slots := 1094, locals := 180 } [.ref xo, .int (nI j)] H (FX t H.size) (Rq s0 (some E_A) v9 (fun H1 => PXn D cI cF xo fa ma t H.size (va_up S j (S j)) H1)) := by
  have h0 : (S j).1 ≠ 0 := by rw [hSj]; exact (by decide : 3 ≠ 0)
  have hoj := hok j hj
  obtain ⟨fi, mk, h, hP, hD, hfi, ho, hcl⟩ := hX.at hj h0
  rw [hSj] at ho hcl hoj
  have hkx : kx j 3 < 12 := kx_lt hj (by decide) (by decide)
  rcases ho with ⟨e9, -⟩ | ⟨e9, -⟩ | ⟨-, e2, h1, h2, gg, hPo, hDo⟩
  all_goals first | (cases e9; done) | skip
  subst e2
  have hPj := va_P.app hP hPo
  have hDj := va_D.join2 hD hDo (fun q a b => by have a9 : t q = 1 := a; have b9 : t q = 2 + kx j 3 := b; omega)
  have hMr := c_F_grow_R_no G xo fa ma fi mk h h1 h2 A B n pv cs f gg j  hPj hDj hoj hj hfi hon (had_of (t := t) hDj ht0 (fun q h9 => by rcases h9 with h9 | h9 <;> (have h8 : t q = _ := h9; omega))) hg
  refine Mx.mono hMr (Nat.le_of_ble_eq_true rfl) (Nat.le_of_ble_eq_true rfl) (Nat.le_of_ble_eq_true rfl) (Nat.le_of_ble_eq_true rfl) (FX.of (g := 0) hDj (fun q h9 => by rcases h9 with h9 | h9 <;> (have h8 : t q = _ := h9; have h7 : kx j ((3, A, B, nI n, pv, cs, n, f) : FS).1 < 12 := hkx; omega))) (fun o H1 hz hk hq => ?_)
  obtain ⟨hr, hw⟩ := hq
  refine ⟨by (try rw [hSj]); exact hr, PX.n (hcl H1 _ (hw.sub [0, 1, 2] rfl) (by rw [hSj]) ?_ (fun q h9 a b => hk q h9 (notA (t := t) hDj h9 (fun h8 => h8.elim a b)))) hts⟩
  try rw [hSj]
  exact Or.inr (Or.inr ⟨rfl, rfl, h1, h2, _, hw.sub [3, 4, 5] rfl, va_D.same2 [h, h1, h2] hDo rfl rfl⟩)
