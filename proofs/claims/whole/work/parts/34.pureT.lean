/-! the class's rows of places are the item's places -/
theorem fitA_fpr {A B : Nat} {x : Int64} {cs pl : Nat → Nat} : allN (fitA cs (fpr A x pl B) B) B = allN (fitA cs (plx A x) B) B :=
  allN_congr fun i hi => by unfold fitA; rw [fpr_lt hi, cnt_congr (fun j hj => fpr_lt hj)]
theorem fitS_fpr {A B : Nat} {x : Int64} {cs pl : Nat → Nat} : allN (fitS cs (fpr A x pl B) B) B = allN (fitS cs (plx A x) B) B :=
  allN_congr fun i hi => by unfold fitS; rw [fpr_lt hi, cnt_congr (fun j hj => fpr_lt hj)]
theorem isC_fpr {A B : Nat} {x : Int64} {cs pl : Nat → Nat} : allN (isC cs (fpr A x pl B)) B = allN (isC cs (plx A x)) B :=
  allN_congr fun i hi => by unfold isC; rw [fpr_lt hi]
theorem sameC_fpr {A B : Nat} {x y : Int64} {pl pb : Nat → Nat} : allN (sameC (fpr A x pl B) (fpr A y pb B) B) B = allN (sameC (plx A x) (plx A y) B) B :=
  allN_congr fun i hi => by unfold sameC; rw [fpr_lt hi, cnt_congr (fun j hj => fpr_lt hj), cnt_congr (r := fpr A y pb B) (fun j hj => fpr_lt hj)]
theorem addC_fpr {A B : Nat} {x : Int64} {cs pl : Nat → Nat} : addC cs (fpr A x pl B) B = addC cs (plx A x) B := by
  funext j; unfold addC; rw [cnt_congr (fun j hj => fpr_lt hj)]
theorem subC_fpr {A B : Nat} {x : Int64} {cs pl : Nat → Nat} : subC cs (fpr A x pl B) B = subC cs (plx A x) B := by
  funext j; unfold subC; rw [cnt_congr (fun j hj => fpr_lt hj)]
theorem cnt_ex {r : Nat → Nat} {x n : Nat} (h : cnt r x n ≠ 0) : ∃ i, i < n ∧ r i = x := by
  induction n with
  | zero => exact absurd rfl h
  | succ n ih =>
    by_cases e : r n = x
    · exact ⟨n, by omega, e⟩
    · rw [cnt_f e] at h
      obtain ⟨i, hi, e2⟩ := ih h
      exact ⟨i, by omega, e2⟩
theorem posN_up {c : Nat → Nat} {j v : Nat} : ∀ {n : Nat}, j < n → posN (va_up c j v) n + (if 0 < c j then 1 else 0) = posN c n + (if 0 < v then 1 else 0) := by
  intro n
  induction n with
  | zero => intro h; omega
  | succ n ih =>
    intro h
    show posN (va_up c j v) n + (if 0 < va_up c j v n then 1 else 0) + _ = posN c n + (if 0 < c n then 1 else 0) + _
    by_cases e : j = n
    · subst e
      rw [va_up_self]
      have h2 : ∀ k, k ≤ j → posN (va_up c j v) k = posN c k := by
        intro k
        induction k with
        | zero => intro _; rfl
        | succ k ihk =>
          intro hk
          show posN (va_up c j v) k + (if 0 < va_up c j v k then 1 else 0) = posN c k + (if 0 < c k then 1 else 0)
          rw [ihk (by omega), va_up_ne _ _ (by omega)]
      rw [h2 j (Nat.le_refl _)]
      omega
    · have := ih (by omega)
      rw [va_up_ne _ _ (fun h9 => e h9.symm)]
      omega
theorem posN_put {c : Nat → Nat} {j v n : Nat} (h : j < n) (h0 : c j = 0) (hv : 0 < v) : posN (va_up c j v) n = posN c n + 1 := by
  have := posN_up (c := c) (v := v) h
  rw [if_neg (by omega), if_pos hv] at this
  omega
theorem posN_chg {c : Nat → Nat} {j v n : Nat} (h : j < n) (h0 : 0 < c j) (hv : 0 < v) : posN (va_up c j v) n = posN c n := by
  have := posN_up (c := c) (v := v) h
  rw [if_pos h0, if_pos hv] at this
  omega
theorem posN_tk {c : Nat → Nat} {j n : Nat} (h : j < n) (h0 : 0 < c j) : posN (va_up c j 0) n + 1 = posN c n := by
  have := posN_up (c := c) (v := 0) h
  rw [if_pos h0, if_neg (by omega)] at this
  omega
theorem fnd_none {f : Nat → Nat} {v b n : Nat} (h : fnd f v b n = none) : ∀ j, b ≤ j → j < b + n → f j ≠ v := by
  induction n generalizing b with
  | zero => intro j h1 h2; omega
  | succ n ih =>
    unfold fnd at h
    split at h
    · cases h
    · rename_i e
      intro j h1 h2
      by_cases e2 : j = b
      · subst e2; exact e
      · exact ih h j (by omega) (by omega)
/-- slots as buckets keep them -/
def okB (A : Nat) (sl : Nat → Nat) : Prop := (∀ j, j < 1024 → sl j < 65536) ∧ ∀ j, 4 * 2 ^ A ≤ j → j < 1024 → sl j = 0
theorem okB_up {A j v : Nat} {sl : Nat → Nat} (h : okB A sl) (hj : j < 4 * 2 ^ A) (hv : v < 65536) : okB A (va_up sl j v) :=
  ⟨up_lt h.1 hv, fun q h1 h2 => by rw [va_up_ne _ _ (by omega)]; exact h.2 q h1 h2⟩
theorem psh_ok {A : Nat} (hA : A ≤ 8) : ∀ (n k at_ hand : Nat) (sl : Nat → Nat), okB A sl → at_ < 2 ^ A → 0 < hand → hand < 65536 → (∀ j, 4 * at_ ≤ j → j < 4 * at_ + 4 → sl j ≠ 0) →
    ∀ sl', (psh A n k at_ hand sl).1 = some sl' → okB A sl' ∧ posN sl' 1024 = posN sl 1024 + 1 := by
  have h8 := p2_le hA
  intro n
  induction n with
  | zero => intro k at_ hand sl _ _ _ _ _ sl' h; cases h
  | succ n ih =>
    intro k at_ hand sl hok hat hh0 hh hfull sl' h
    have hslot : 4 * at_ + k % 4 < 4 * 2 ^ A := by omega
    have hold := hfull (4 * at_ + k % 4) (by omega) (by omega)
    have hold2 := hok.1 (4 * at_ + k % 4) (by omega)
    have hok1 := okB_up hok hslot hh
    have hob := obN_lt hat (sl (4 * at_ + k % 4))
    have hp1 : posN (va_up sl (4 * at_ + k % 4) hand) 1024 = posN sl 1024 := posN_chg (by omega) (by omega) hh0
    cases e : fnd (va_up sl (4 * at_ + k % 4) hand) 0 (4 * obN A at_ (sl (4 * at_ + k % 4))) 4 with
    | some j =>
      rw [psh_s e] at h
      cases h
      have hj := fnd_in e
      exact ⟨okB_up hok1 (by omega) hold2, by rw [posN_put (by omega) hj.2.2 (by omega), hp1]⟩
    | none =>
      rw [psh_n e] at h
      have := ih _ _ _ _ hok1 hob (by omega) hold2 (fun j h1 h2 => fnd_none e j (by omega) (by omega)) sl' h
      exact ⟨this.1, by rw [this.2, hp1]⟩
theorem putB_ok {A B : Nat} (hA : A ≤ 8) (hB4 : 4 ≤ B) (hB : B ≤ 16) {x : Int64} {sl sl' : Nat → Nat} (hok : okB A sl) (h : (putB A B x sl).1 = some sl') : okB A sl' ∧ posN sl' 1024 = posN sl 1024 + 1 := by
  have h8 := p2_le hA
  have h1 := fbN_lt A x
  have h2 := obN_lt h1 (fpN B x)
  have hf := fpN_lt hB4 hB x
  have hf0 := fpN_pos B x
  cases e : fnd sl 0 (4 * fbN A x) 4 with
  | some j =>
    rw [putB_1 e] at h
    cases h
    have hj := fnd_in e
    exact ⟨okB_up hok (by omega) hf, posN_put (by omega) hj.2.2 hf0⟩
  | none =>
    cases e2 : fnd sl 0 (4 * obN A (fbN A x) (fpN B x)) 4 with
    | some j =>
      rw [putB_2 e e2] at h
      cases h
      have hj := fnd_in e2
      exact ⟨okB_up hok (by omega) hf, posN_put (by omega) hj.2.2 hf0⟩
    | none =>
      rw [putB_3 e e2] at h
      exact psh_ok hA 64 0 _ _ sl hok h2 hf0 hf (fun j h1 h2 => fnd_none e2 j (by omega) (by omega)) sl' h
theorem tkB_ok {A B : Nat} (hA : A ≤ 8) {x : Int64} {sl : Nat → Nat} (hok : okB A sl) {j : Nat} (h : slotB A B x sl = some j) : okB A (tkB A B x sl) ∧ posN (tkB A B x sl) 1024 + 1 = posN sl 1024 := by
  have h8 := p2_le hA
  have h1 := fbN_lt A x
  have h2 := obN_lt h1 (fpN B x)
  have hin := slotB_in hA h
  have hj : j < 4 * 2 ^ A := by
    cases e : fnd sl (fpN B x) (4 * fbN A x) 4 with
    | some i =>
      rw [slotB_1 e] at h
      cases h
      have := fnd_in e
      omega
    | none =>
      rw [slotB_2 e] at h
      have := fnd_in h
      omega
  rw [tkB_s h]
  exact ⟨okB_up hok hj (by decide), posN_tk hin.1 (by rw [hin.2]; exact fpN_pos B x)⟩
theorem nI_sub1 {a : Nat} : nI (a + 1) - nI 1 = nI a := by rw [pk_sub (by omega)]; rfl
/-- the three kinds, one by one -/
theorem addS_1 {A B n : Nat} {hd pu : Int32} {cs f : Nat → Nat} {x : Int64} : addS (1, A, B, hd, pu, cs, n, f) x = (allN (fitA cs (plx A x) B) B, (1, A, B, (if allN (fitA cs (plx A x) B) B then hd + nI 1 else hd), pu, (if allN (fitA cs (plx A x) B) B then addC cs (plx A x) B else cs), n, f)) := rfl
theorem addS_2 {A B n : Nat} {hd pu : Int32} {cs f : Nat → Nat} {x : Int64} : addS (2, A, B, hd, pu, cs, n, f) x = ((putB A B x cs).1.isSome, (2, A, B, (if (putB A B x cs).1.isSome then hd + nI 1 else hd), pu + nI (putB A B x cs).2, (putB A B x cs).1.getD cs, n, f)) := rfl
theorem addS_3 {A B n : Nat} {hd pu : Int32} {cs f : Nat → Nat} {x : Int64} : addS (3, A, B, hd, pu, cs, n, f) x = (decide (n < 2 ^ A), (3, A, B, (if n < 2 ^ A then hd + nI 1 else hd), pu, cs, (if n < 2 ^ A then n + 1 else n), (if n < 2 ^ A then insF f n (prN A B x) else f))) := rfl
theorem remS_1 {A B n : Nat} {hd pu : Int32} {cs f : Nat → Nat} {x : Int64} : remS (1, A, B, hd, pu, cs, n, f) x = (allN (fitS cs (plx A x) B) B, (1, A, B, (if allN (fitS cs (plx A x) B) B then hd - nI 1 else hd), pu, (if allN (fitS cs (plx A x) B) B then subC cs (plx A x) B else cs), n, f)) := rfl
theorem remS_2 {A B n : Nat} {hd pu : Int32} {cs f : Nat → Nat} {x : Int64} : remS (2, A, B, hd, pu, cs, n, f) x = ((slotB A B x cs).isSome, (2, A, B, (if (slotB A B x cs).isSome then hd - nI 1 else hd), pu, tkB A B x cs, n, f)) := rfl
theorem remS_3 {A B n : Nat} {hd pu : Int32} {cs f : Nat → Nat} {x : Int64} : remS (3, A, B, hd, pu, cs, n, f) x = (inF f n (prN A B x), (3, A, B, (if inF f n (prN A B x) then hd - nI 1 else hd), pu, cs, (if inF f n (prN A B x) then n - 1 else n), (if inF f n (prN A B x) then delF f n (prN A B x) else f))) := rfl
/-- what okS says of each kind -/
def okC (A B : Nat) (cs : Nat → Nat) : Prop := 3 ≤ A ∧ A ≤ 10 ∧ 1 ≤ B ∧ B ≤ 6 ∧ (∀ j, j < 1024 → cs j ≤ 15) ∧ ∀ j, 2 ^ A ≤ j → j < 1024 → cs j = 0
def okK (A B : Nat) (hd : Int32) (sl : Nat → Nat) : Prop := 1 ≤ A ∧ A ≤ 8 ∧ 4 ≤ B ∧ B ≤ 16 ∧ okB A sl ∧ hd = nI (posN sl 1024)
def okR (A B n : Nat) (f : Nat → Nat) : Prop := 2 ≤ A ∧ A ≤ 8 ∧ 4 ≤ B ∧ B ≤ 20 ∧ n ≤ 2 ^ A ∧ srt f n ∧ ∀ i, i < n → f i < 2 ^ (A + B)
theorem okS_1 {A B n : Nat} {hd pu : Int32} {cs f : Nat → Nat} : okS (1, A, B, hd, pu, cs, n, f) ↔ okC A B cs := by
  constructor
  · rintro (h | ⟨-, h⟩ | ⟨h, -⟩ | ⟨h, -⟩)
    · cases h
    · exact h
    · cases h
    · cases h
  · intro h; exact Or.inr (Or.inl ⟨rfl, h⟩)
theorem okS_2 {A B n : Nat} {hd pu : Int32} {cs f : Nat → Nat} : okS (2, A, B, hd, pu, cs, n, f) ↔ okK A B hd cs := by
  constructor
  · rintro (h | ⟨h, -⟩ | ⟨-, h1, h2, h3, h4, h5, h6, h7⟩ | ⟨h, -⟩)
    · cases h
    · cases h
    · exact ⟨h1, h2, h3, h4, ⟨h5, h6⟩, h7⟩
    · cases h
  · rintro ⟨h1, h2, h3, h4, ⟨h5, h6⟩, h7⟩; exact Or.inr (Or.inr (Or.inl ⟨rfl, h1, h2, h3, h4, h5, h6, h7⟩))
theorem okS_3 {A B n : Nat} {hd pu : Int32} {cs f : Nat → Nat} : okS (3, A, B, hd, pu, cs, n, f) ↔ okR A B n f ∧ hd = nI n := by
  constructor
  · rintro (h | ⟨h, -⟩ | ⟨h, -⟩ | ⟨-, h1, h2, h3, h4, h5, h6, h7, h8⟩)
    · cases h
    · cases h
    · cases h
    · exact ⟨⟨h1, h2, h3, h4, h5, h6, h7⟩, h8⟩
  · rintro ⟨⟨h1, h2, h3, h4, h5, h6, h7⟩, h8⟩; exact Or.inr (Or.inr (Or.inr ⟨rfl, h1, h2, h3, h4, h5, h6, h7, h8⟩))
theorem okR.lt28 {A B n : Nat} {f : Nat → Nat} (h : okR A B n f) : ∀ i, i < n → f i < 2 ^ 28 := fun i hi => Nat.lt_of_lt_of_le (h.2.2.2.2.2.2 i hi) (p2_le (by have := h.2.1; have := h.2.2.2.1; omega))
theorem okR.q {A B n : Nat} {f : Nat → Nat} (h : okR A B n f) : ∀ i, i < n → f i < 256 * 2 ^ B := fun i hi => by
  have h1 := h.2.2.2.2.2.2 i hi
  rw [Nat.pow_add] at h1
  have h2 : 2 ^ A * 2 ^ B ≤ 256 * 2 ^ B := Nat.mul_le_mul_right _ (p2_le h.2.1)
  omega
theorem okR.n {A B n : Nat} {f : Nat → Nat} (h : okR A B n f) : n ≤ 256 := by
  have h1 := p2_le h.2.1
  have h2 := h.2.2.2.2.1
  omega
theorem okC_add {A B : Nat} {cs : Nat → Nat} {x : Int64} (h : okC A B cs) : okC A B (if allN (fitA cs (plx A x) B) B then addC cs (plx A x) B else cs) := by
  split
  · rename_i hf
    rw [allN_iff] at hf
    obtain ⟨h1, h2, h3, h4, h5, h6⟩ := h
    refine ⟨h1, h2, h3, h4, fun j hj => ?_, fun j hj1 hj2 => ?_⟩
    · show cs j + cnt (plx A x) j B ≤ 15
      by_cases e : cnt (plx A x) j B = 0
      · have := h5 j hj; omega
      · obtain ⟨i, hi, e2⟩ := cnt_ex e
        have := hf i hi
        unfold fitA at this
        rw [e2] at this
        exact of_decide_eq_true this
    · show cs j + cnt (plx A x) j B = 0
      have e : cnt (plx A x) j B = 0 := by
        rcases Nat.eq_zero_or_pos (cnt (plx A x) j B) with e | e
        · exact e
        · obtain ⟨i, hi, e2⟩ := cnt_ex (Nat.ne_of_gt e)
          have : plx A x i < 2 ^ A := Nat.mod_lt _ (Nat.two_pow_pos A)
          omega
      rw [e, h6 j hj1 hj2]
  · exact h
theorem okC_sub {A B : Nat} {cs : Nat → Nat} {x : Int64} (h : okC A B cs) : okC A B (if allN (fitS cs (plx A x) B) B then subC cs (plx A x) B else cs) := by
  split
  · obtain ⟨h1, h2, h3, h4, h5, h6⟩ := h
    refine ⟨h1, h2, h3, h4, fun j hj => ?_, fun j hj1 hj2 => ?_⟩
    · show cs j - cnt (plx A x) j B ≤ 15
      have := h5 j hj; omega
    · show cs j - cnt (plx A x) j B = 0
      rw [h6 j hj1 hj2]; omega
  · exact h
theorem okS_add {S : FS} (x : Int64) (h : okS S) (h0 : S.1 ≠ 0) : okS (addS S x).2 := by
  obtain ⟨kd, A, B, hd, pu, cs, n, f⟩ := S
  have hk : kd = 1 ∨ kd = 2 ∨ kd = 3 := by
    rcases h with h | h | h | h
    · exact absurd h h0
    · exact Or.inl h.1
    · exact Or.inr (Or.inl h.1)
    · exact Or.inr (Or.inr h.1)
  rcases hk with rfl | rfl | rfl
  · rw [addS_1]
    exact okS_1.mpr (okC_add (okS_1.mp h))
  · rw [addS_2]
    obtain ⟨h1, h2, h3, h4, h5, h6⟩ := okS_2.mp h
    refine okS_2.mpr ?_
    cases e : (putB A B x cs).1 with
    | none => exact ⟨h1, h2, h3, h4, h5, h6⟩
    | some sl' =>
      obtain ⟨q1, q2⟩ := putB_ok h2 h3 h4 h5 e
      exact ⟨h1, h2, h3, h4, q1, by show hd + nI 1 = nI (posN sl' 1024); rw [q2, h6, nI_add]⟩
  · rw [addS_3]
    obtain ⟨⟨h1, h2, h3, h4, h5, h6, h7⟩, h8⟩ := okS_3.mp h
    refine okS_3.mpr ?_
    by_cases e : n < 2 ^ A
    · rw [if_pos e, if_pos e, if_pos e]
      exact ⟨⟨h1, h2, h3, h4, e, insF_srt h6, insF_lt h7 (prN_lt h2 h4 x)⟩, by rw [h8, nI_add]⟩
    · rw [if_neg e, if_neg e, if_neg e]
      exact ⟨⟨h1, h2, h3, h4, h5, h6, h7⟩, h8⟩
theorem okS_rem {S : FS} (x : Int64) (h : okS S) (h0 : S.1 ≠ 0) : okS (remS S x).2 := by
  obtain ⟨kd, A, B, hd, pu, cs, n, f⟩ := S
  have hk : kd = 1 ∨ kd = 2 ∨ kd = 3 := by
    rcases h with h | h | h | h
    · exact absurd h h0
    · exact Or.inl h.1
    · exact Or.inr (Or.inl h.1)
    · exact Or.inr (Or.inr h.1)
  rcases hk with rfl | rfl | rfl
  · rw [remS_1]
    exact okS_1.mpr (okC_sub (okS_1.mp h))
  · rw [remS_2]
    obtain ⟨h1, h2, h3, h4, h5, h6⟩ := okS_2.mp h
    refine okS_2.mpr ?_
    cases e : slotB A B x cs with
    | none => rw [tkB_n e]; exact ⟨h1, h2, h3, h4, h5, h6⟩
    | some j =>
      obtain ⟨q1, q2⟩ := tkB_ok h2 h5 e
      exact ⟨h1, h2, h3, h4, q1, by show hd - nI 1 = nI (posN (tkB A B x cs) 1024); rw [h6, ← q2, nI_sub1]⟩
  · rw [remS_3]
    obtain ⟨⟨h1, h2, h3, h4, h5, h6, h7⟩, h8⟩ := okS_3.mp h
    refine okS_3.mpr ?_
    cases e : inF f n (prN A B x) with
    | false => exact ⟨⟨h1, h2, h3, h4, h5, h6, h7⟩, h8⟩
    | true =>
      have hl : lo f (prN A B x) n < n := by
        unfold inF at e
        rw [Bool.and_eq_true] at e
        exact of_decide_eq_true e.1
      refine ⟨⟨h1, h2, h3, h4, Nat.le_trans (Nat.sub_le _ _) h5, delF_srt h6 hl, delF_lt hl h7⟩, ?_⟩
      show hd - nI 1 = nI (n - 1)
      rw [h8, pk_sub (by omega)]
/-- adding many -/
def aaS : Nat → FS → Int64 → Int64 → Nat × FS
  | 0, S, _, _ => (0, S)
  | k + 1, S, x, st => if (addS S x).1 then ((aaS k (addS S x).2 (x + st) st).1 + 1, (aaS k (addS S x).2 (x + st) st).2) else (0, (addS S x).2)
theorem aaS_t {k : Nat} {S : FS} {x st : Int64} (h : (addS S x).1 = true) : aaS (k + 1) S x st = ((aaS k (addS S x).2 (x + st) st).1 + 1, (aaS k (addS S x).2 (x + st) st).2) := by
  show (if _ then _ else _) = _
  rw [if_pos h]
theorem aaS_f {k : Nat} {S : FS} {x st : Int64} (h : (addS S x).1 = false) : aaS (k + 1) S x st = (0, (addS S x).2) := by
  show (if _ then _ else _) = _
  rw [if_neg (by rw [h]; decide)]
theorem aaS_le (k : Nat) (S : FS) (x st : Int64) : (aaS k S x st).1 ≤ k := by
  induction k generalizing S x with
  | zero => exact Nat.le_refl _
  | succ k ih =>
    cases h : (addS S x).1 with
    | true => rw [aaS_t h]; have := ih (addS S x).2 (x + st); exact Nat.succ_le_succ this
    | false => rw [aaS_f h]; exact Nat.zero_le _
theorem addS_kd (S : FS) (x : Int64) : (addS S x).2.1 = S.1 := by
  obtain ⟨kd, A, B, hd, pu, cs, n, f⟩ := S
  unfold addS
  split
  · rename_i h; cases h; split
    · rfl
    · split <;> rfl
theorem remS_kd (S : FS) (x : Int64) : (remS S x).2.1 = S.1 := by
  obtain ⟨kd, A, B, hd, pu, cs, n, f⟩ := S
  unfold remS
  split
  · rename_i h; cases h; split
    · rfl
    · split <;> rfl
theorem okS_aa {k : Nat} {S : FS} {x st : Int64} (h : okS S) (h0 : S.1 ≠ 0) : okS (aaS k S x st).2 ∧ (aaS k S x st).2.1 = S.1 := by
  induction k generalizing S x with
  | zero => exact ⟨h, rfl⟩
  | succ k ih =>
    cases e : (addS S x).1 with
    | true =>
      rw [aaS_t e]
      have := ih (S := (addS S x).2) (x := x + st) (okS_add x h h0) (by rw [addS_kd]; exact h0)
      exact ⟨this.1, this.2.trans (addS_kd S x)⟩
    | false => rw [aaS_f e]; exact ⟨okS_add x h h0, addS_kd S x⟩
/-- how many of many are there -/
def haS (S : FS) : Nat → Int64 → Int64 → Nat
  | 0, _, _ => 0
  | k + 1, x, st => (if hasS S x then 1 else 0) + haS S k (x + st) st
