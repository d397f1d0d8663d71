/-! the class's picture: the object, its two rows, up to twelve figures; t tells whose each address is -/
def kx (j kd : Nat) : Nat := j * 3 + kd - 1
/-- a figure at h, its addresses tagged g, its state T -/
def obK (D : va_G) (cI : ClassId) (t : Nat → Nat) (g h : Nat) (T : FS) (H : Heap) : Prop := match T with
  | (kd, A, B, hd, pu, cs, n, f) =>
    (kd = 1 ∧ ∃ (h1 h2 h3 : Nat) (pl pb : Nat → Nat), va_P D vcl [(h, .inr (0, [.int (nI A), .int (nI B), .int hd, .ref h1, .ref h2, .ref h3])), (h1, aN cI 1024 cs), (h2, aN cI 6 pl), (h3, aN cI 6 pb)] H ∧ va_D (fun q => t q = g) [(h, .inr (0, [.int (nI A), .int (nI B), .int hd, .ref h1, .ref h2, .ref h3])), (h1, aN cI 1024 cs), (h2, aN cI 6 pl), (h3, aN cI 6 pb)]) ∨
    (kd = 2 ∧ ∃ (h1 h2 : Nat) (pt : Nat → Nat), va_P D vcl [(h, .inr (1, [.int (nI A), .int (nI B), .int hd, .ref h1, .ref h2, .int pu])), (h1, aN cI 1024 cs), (h2, aN cI 64 pt)] H ∧ va_D (fun q => t q = g) [(h, .inr (1, [.int (nI A), .int (nI B), .int hd, .ref h1, .ref h2, .int pu])), (h1, aN cI 1024 cs), (h2, aN cI 64 pt)]) ∨
    (kd = 3 ∧ hd = nI n ∧ ∃ (h1 h2 : Nat) (gg : Nat → Int32), va_P D vcl [(h, .inr (2, [.int (nI A), .int (nI B), .int (nI n), .ref h1, .ref h2])), (h1, aN cI 256 f), (h2, aI cI 256 gg)] H ∧ va_D (fun q => t q = g) [(h, .inr (2, [.int (nI A), .int (nI B), .int (nI n), .ref h1, .ref h2])), (h1, aN cI 256 f), (h2, aI cI 256 gg)])
theorem va_P.keep {D : va_G} {cl : List vw_C} {ws : va_W} {H H1 : Heap} {t : Nat → Nat} {g : Nat} (hP : va_P D cl ws H) (hD : va_D (fun q => t q = g) ws) (hk : ∀ q : Nat, q < H.size → t q = g → H1[q]? = H[q]?) : va_P D cl ws H1 :=
  hP.kept (fun k x hx => hk x.1 (hP k x hx).lt (hD.2 k x hx))
theorem va_D.tag {D : va_G} {cl : List vw_C} {ws : va_W} {H : Heap} {t t2 : Nat → Nat} {g : Nat} (hP : va_P D cl ws H) (hD : va_D (fun q => t q = g) ws) (ht : ∀ q : Nat, q < H.size → t2 q = t q) : va_D (fun q => t2 q = g) ws :=
  ⟨hD.1, fun k x hx => (ht x.1 (hP k x hx).lt).trans (hD.2 k x hx)⟩
theorem obK.keep {D : va_G} {cI : ClassId} {t t2 : Nat → Nat} {g h : Nat} {T : FS} {H H1 : Heap} (ho : obK D cI t g h T H) (hk : ∀ q : Nat, q < H.size → t q = g → H1[q]? = H[q]?) (ht : ∀ q : Nat, q < H.size → t2 q = t q) : obK D cI t2 g h T H1 := by
  obtain ⟨kd, A, B, hd, pu, cs, n, f⟩ := T
  rcases ho with ⟨e, h1, h2, h3, pl, pb, hP, hD⟩ | ⟨e, h1, h2, pt, hP, hD⟩ | ⟨e, e2, h1, h2, gg, hP, hD⟩
  · exact Or.inl ⟨e, h1, h2, h3, pl, pb, hP.keep hD hk, va_D.tag hP hD ht⟩
  · exact Or.inr (Or.inl ⟨e, h1, h2, pt, hP.keep hD hk, va_D.tag hP hD ht⟩)
  · exact Or.inr (Or.inr ⟨e, e2, h1, h2, gg, hP.keep hD hk, va_D.tag hP hD ht⟩)
theorem obK.kd {D : va_G} {cI : ClassId} {t : Nat → Nat} {g h : Nat} {T : FS} {H : Heap} (ho : obK D cI t g h T H) : 1 ≤ T.1 ∧ T.1 ≤ 3 := by
  obtain ⟨kd, A, B, hd, pu, cs, n, f⟩ := T
  rcases ho with ⟨e, -⟩ | ⟨e, -⟩ | ⟨e, -⟩
  · show 1 ≤ kd ∧ kd ≤ 3; omega
  · show 1 ≤ kd ∧ kd ≤ 3; omega
  · show 1 ≤ kd ∧ kd ≤ 3; omega
def PX (D : va_G) (cI cF : ClassId) (xo fa ma : Nat) (t : Nat → Nat) (S : Nat → FS) (H : Heap) : Prop :=
  ∃ (fi mk : Nat → Option Nat) (O : Nat → Option (Nat × FS)), va_P D vcl [(xo, .inr (3, [.ref fa, .ref ma])), (fa, aQ cF 4 fi), (ma, aQ cF 12 mk)] H ∧ va_D (fun q => t q = 1) [(xo, .inr (3, [.ref fa, .ref ma])), (fa, aQ cF 4 fi), (ma, aQ cF 12 mk)] ∧ (∀ k, k < 12 → mk k = (O k).map (·.1)) ∧
    (∀ k h T, k < 12 → O k = some (h, T) → k % 3 + 1 = T.1 ∧ obK D cI t (2 + k) h T H) ∧
    ∀ j, j < 4 → ((S j).1 = 0 ∧ fi j = none) ∨ ∃ h, (S j).1 ≠ 0 ∧ (S j).1 ≤ 3 ∧ O (kx j (S j).1) = some (h, S j) ∧ fi j = some h
theorem kx_lt {j kd : Nat} (hj : j < 4) (h0 : kd ≠ 0) (h3 : kd ≤ 3) : kx j kd < 12 := by unfold kx; omega
theorem kx_mod {j kd : Nat} (h0 : kd ≠ 0) (h3 : kd ≤ 3) : kx j kd % 3 + 1 = kd := by unfold kx; omega
theorem kx_inj {j i a b : Nat} (ha : a ≠ 0) (hb : b ≠ 0) (ha3 : a ≤ 3) (hb3 : b ≤ 3) (h : kx j a = kx i b) : j = i ∧ a = b := by unfold kx at h; omega
/-- opened, and how it is closed again -/
theorem PX.re {D : va_G} {cI cF : ClassId} {xo fa ma : Nat} {t : Nat → Nat} {S : Nat → FS} {H : Heap} (hX : PX D cI cF xo fa ma t S H) :
    ∃ (fi mk : Nat → Option Nat) (hh : Nat → Nat), va_P D vcl [(xo, .inr (3, [.ref fa, .ref ma])), (fa, aQ cF 4 fi), (ma, aQ cF 12 mk)] H ∧ va_D (fun q => t q = 1) [(xo, .inr (3, [.ref fa, .ref ma])), (fa, aQ cF 4 fi), (ma, aQ cF 12 mk)] ∧ (∀ i, i < 4 → (S i).1 = 0 → fi i = none) ∧
      (∀ i, i < 4 → (S i).1 ≠ 0 → fi i = some (hh i) ∧ obK D cI t (2 + kx i (S i).1) (hh i) (S i) H) ∧
      ∀ (H1 : Heap) (S1 : Nat → FS), va_P D vcl [(xo, .inr (3, [.ref fa, .ref ma])), (fa, aQ cF 4 fi), (ma, aQ cF 12 mk)] H1 → (∀ i, i < 4 → (S1 i).1 = (S i).1) → (∀ i, i < 4 → (S i).1 ≠ 0 → obK D cI t (2 + kx i (S i).1) (hh i) (S1 i) H1) →
        (∀ q : Nat, q < H.size → t q ≠ 1 → (∀ i, i < 4 → (S i).1 ≠ 0 → t q ≠ 2 + kx i (S i).1) → H1[q]? = H[q]?) → PX D cI cF xo fa ma t S1 H1 := by
  obtain ⟨fi, mk, O, hP, hD, h1, h2, h3⟩ := hX
  refine ⟨fi, mk, fun i => match O (kx i (S i).1) with | some (h, _) => h | none => 0, hP, hD, fun i hi h0 => ?_, fun i hi h0 => ?_, fun H1 S1 q1 q2 q3 q4 => ?_⟩
  · rcases h3 i hi with ⟨-, h⟩ | ⟨h, h9, -⟩
    · exact h
    · exact absurd h0 h9
  · rcases h3 i hi with ⟨h, -⟩ | ⟨h, h8, h9, hO, hf⟩
    · exact absurd h h0
    · have e : (match O (kx i (S i).1) with | some (h, _) => h | none => 0) = h := by rw [hO]
      show fi i = some (match O (kx i (S i).1) with | some (h, _) => h | none => 0) ∧ obK D cI t _ (match O (kx i (S i).1) with | some (h, _) => h | none => 0) _ _
      rw [e]
      exact ⟨hf, (h2 _ h (S i) (kx_lt hi h0 h9) hO).2⟩
  · refine ⟨fi, mk, fun k => if (S (k / 3)).1 = k % 3 + 1 then (O k).map (fun r => (r.1, S1 (k / 3))) else O k, q1, hD, fun k hk => ?_, fun k h T hk hO => ?_, fun j hj => ?_⟩
    · rw [h1 k hk]
      show _ = (if (S (k / 3)).1 = k % 3 + 1 then (O k).map (fun r => (r.1, S1 (k / 3))) else O k).map (·.1)
      split
      · cases O k <;> rfl
      · rfl
    · have hO' : (if (S (k / 3)).1 = k % 3 + 1 then (O k).map (fun r => (r.1, S1 (k / 3))) else O k) = some (h, T) := hO
      split at hO'
      · rename_i hex
        have hi : k / 3 < 4 := by omega
        have h0 : (S (k / 3)).1 ≠ 0 := by omega
        have e : kx (k / 3) (S (k / 3)).1 = k := by unfold kx; omega
        generalize hki : k / 3 = i at *
        rcases h3 i hi with ⟨h9, -⟩ | ⟨h', h8, h9, hOi, hf⟩
        · exact absurd h9 h0
        · rw [e] at hOi
          rw [hOi] at hO'
          cases hO'
          have h5 := q3 i hi h0
          have e5 : (match O (kx i (S i).1) with | some (h, _) => h | none => 0) = h' := by rw [e, hOi]
          have h5' : obK D cI t (2 + kx i (S i).1) (match O (kx i (S i).1) with | some (h, _) => h | none => 0) (S1 i) H1 := h5
          rw [e5, e] at h5'
          exact ⟨by show k % 3 + 1 = (S1 i).1; rw [q2 i hi]; exact hex.symm, h5'⟩
      · rename_i hex
        obtain ⟨a1, a2⟩ := h2 k h T hk hO'
        refine ⟨a1, a2.keep (fun q hq hg => q4 q hq (by omega) (fun i hi h0 h9 => hex ?_)) (fun _ _ => rfl)⟩
        have k3 : (S i).1 ≤ 3 := by
          rcases h3 i hi with ⟨h9, -⟩ | ⟨h', h8, h9, -⟩
          · omega
          · exact h9
        have e : kx i (S i).1 = k := by omega
        have e1 : k / 3 = i := by rw [← e]; unfold kx; omega
        rw [e1, ← e]
        exact (kx_mod h0 k3).symm
    · rcases h3 j hj with ⟨h9, hf⟩ | ⟨h, h8, h9, hOi, hf⟩
      · exact Or.inl ⟨by rw [q2 j hj]; exact h9, hf⟩
      · refine Or.inr ⟨h, by rw [q2 j hj]; exact h8, by rw [q2 j hj]; exact h9, ?_, hf⟩
        rw [q2 j hj]
        have e1 : kx j (S j).1 / 3 = j := by unfold kx; omega
        show (if (S (kx j (S j).1 / 3)).1 = kx j (S j).1 % 3 + 1 then (O (kx j (S j).1)).map (fun r => (r.1, S1 (kx j (S j).1 / 3))) else O (kx j (S j).1)) = _
        rw [e1, if_pos (kx_mod h8 h9).symm, hOi]
        rfl
/-- one figure changed -/
theorem PX.at {D : va_G} {cI cF : ClassId} {xo fa ma : Nat} {t : Nat → Nat} {S : Nat → FS} {H : Heap} (hX : PX D cI cF xo fa ma t S H) {j : Nat} (hj : j < 4) (h0 : (S j).1 ≠ 0) :
    ∃ (fi mk : Nat → Option Nat) (h : Nat), va_P D vcl [(xo, .inr (3, [.ref fa, .ref ma])), (fa, aQ cF 4 fi), (ma, aQ cF 12 mk)] H ∧ va_D (fun q => t q = 1) [(xo, .inr (3, [.ref fa, .ref ma])), (fa, aQ cF 4 fi), (ma, aQ cF 12 mk)] ∧ fi j = some h ∧ obK D cI t (2 + kx j (S j).1) h (S j) H ∧
      ∀ (H1 : Heap) (T : FS), va_P D vcl [(xo, .inr (3, [.ref fa, .ref ma])), (fa, aQ cF 4 fi), (ma, aQ cF 12 mk)] H1 → T.1 = (S j).1 → obK D cI t (2 + kx j (S j).1) h T H1 → (∀ q : Nat, q < H.size → t q ≠ 1 → t q ≠ 2 + kx j (S j).1 → H1[q]? = H[q]?) → PX D cI cF xo fa ma t (va_up S j T) H1 := by
  obtain ⟨fi, mk, hh, hP, hD, -, h2, h3⟩ := hX.re
  refine ⟨fi, mk, hh j, hP, hD, (h2 j hj h0).1, (h2 j hj h0).2, fun H1 T q1 q2 q3 q4 => h3 H1 _ q1 (fun i hi => ?_) (fun i hi hi0 => ?_) (fun q hq a b => q4 q hq a (b j hj h0))⟩
  · by_cases e : i = j
    · subst e; rw [va_up_self]; exact q2
    · rw [va_up_ne _ _ e]
  · by_cases e : i = j
    · subst e; rw [va_up_self]; exact q3
    · rw [va_up_ne _ _ e]
      refine (h2 i hi hi0).2.keep (fun q hq hg => q4 q hq (by omega) (fun h9 => ?_)) (fun _ _ => rfl)
      rw [hg] at h9
      have k1 := ((h2 i hi hi0).2.kd).2
      have k2 := ((h2 j hj h0).2.kd).2
      exact e (kx_inj hi0 h0 k1 k2 (by omega)).1
theorem va_D.join2 {A1 A2 : Nat → Prop} {w1 w2 : va_W} (h1 : va_D A1 w1) (h2 : va_D A2 w2) (hd : ∀ q, A1 q → A2 q → False) : va_D (fun q => A1 q ∨ A2 q) (w1 ++ w2) := by
  have key : ∀ (k : Nat) (q : Nat × va_E), (w1 ++ w2)[k]? = some q → (k < w1.length ∧ w1[k]? = some q) ∨ (w1.length ≤ k ∧ w2[k - w1.length]? = some q) := by
    intro k q h
    rcases Nat.lt_or_ge k w1.length with h9 | h9
    · rw [List.getElem?_append_left h9] at h; exact Or.inl ⟨h9, h⟩
    · rw [List.getElem?_append_right h9] at h; exact Or.inr ⟨h9, h⟩
  refine ⟨fun i j p q hi hj e => ?_, fun k q hk => ?_⟩
  · rcases key i p hi with ⟨a1, a2⟩ | ⟨a1, a2⟩
    · rcases key j q hj with ⟨b1, b2⟩ | ⟨b1, b2⟩
      · exact h1.1 i j p q a2 b2 e
      · exact (hd q.1 (e ▸ h1.2 _ _ a2) (h2.2 _ _ b2)).elim
    · rcases key j q hj with ⟨b1, b2⟩ | ⟨b1, b2⟩
      · exact (hd p.1 (e ▸ h1.2 _ _ b2) (h2.2 _ _ a2)).elim
      · have := h2.1 _ _ p q a2 b2 e
        omega
  · rcases key k q hk with ⟨a1, a2⟩ | ⟨a1, a2⟩
    · exact Or.inl (h1.2 k q a2)
    · exact Or.inr (h2.2 _ q a2)
/-- what a call of the class may write -/
def FX (t : Nat → Nat) (sz : Nat) : Nat → Prop := fun q => (1 ≤ t q ∧ t q ≤ 13) ∨ sz ≤ q
theorem FX.of {t : Nat → Nat} {sz g : Nat} {ws : va_W} {A : Nat → Prop} (hD : va_D A ws) (hA : ∀ q, A q → 1 ≤ t q ∧ t q ≤ 13) : ∀ q, Aa (ws.map (·.1)) sz q → FX t sz q := fun q h => h.elim (fun h1 => Or.inl (hA q (hD.mem h1))) Or.inr
theorem notA {t : Nat → Nat} {sz q : Nat} {ws : va_W} {A : Nat → Prop} (hD : va_D A ws) (hq : q < sz) (hA : ¬ A q) : ¬ Aa (ws.map (·.1)) sz q := fun h => h.elim (fun h1 => hA (hD.mem h1)) (fun h1 => by omega)
