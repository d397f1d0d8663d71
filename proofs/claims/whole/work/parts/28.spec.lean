/-! a filter's abstract state: kind (0 none), a, b, how many (as an int), pushed (as an int), counters or slots, pairs: how many, which -/
abbrev FS : Type := Nat × Nat × Nat × Int32 × Int32 × (Nat → Nat) × Nat × (Nat → Nat)
/-- a rising row with v put in, with one v taken out -/
def insF (f : Nat → Nat) (n v : Nat) : Nat → Nat := va_up (va_cpy f f (lo f v n) (lo f v n + 1) (n - lo f v n)) (lo f v n) v
def delF (f : Nat → Nat) (n v : Nat) : Nat → Nat := va_cpy f f (lo f v n + 1) (lo f v n) (n - lo f v n - 1)
def inF (f : Nat → Nat) (n v : Nat) : Bool := decide (lo f v n < n) && decide (f (lo f v n) = v)
def addS (S : FS) (x : Int64) : Bool × FS := match S with
  | (kd, A, B, hd, pu, cs, n, f) =>
    if kd = 1 then (allN (fitA cs (plx A x) B) B, (kd, A, B, (if allN (fitA cs (plx A x) B) B then hd + nI 1 else hd), pu, (if allN (fitA cs (plx A x) B) B then addC cs (plx A x) B else cs), n, f))
    else if kd = 2 then ((putB A B x cs).1.isSome, (kd, A, B, (if (putB A B x cs).1.isSome then hd + nI 1 else hd), pu + nI (putB A B x cs).2, (putB A B x cs).1.getD cs, n, f))
    else (decide (n < 2 ^ A), (kd, A, B, (if n < 2 ^ A then hd + nI 1 else hd), pu, cs, (if n < 2 ^ A then n + 1 else n), (if n < 2 ^ A then insF f n (prN A B x) else f)))
def remS (S : FS) (x : Int64) : Bool × FS := match S with
  | (kd, A, B, hd, pu, cs, n, f) =>
    if kd = 1 then (allN (fitS cs (plx A x) B) B, (kd, A, B, (if allN (fitS cs (plx A x) B) B then hd - nI 1 else hd), pu, (if allN (fitS cs (plx A x) B) B then subC cs (plx A x) B else cs), n, f))
    else if kd = 2 then ((slotB A B x cs).isSome, (kd, A, B, (if (slotB A B x cs).isSome then hd - nI 1 else hd), pu, tkB A B x cs, n, f))
    else (inF f n (prN A B x), (kd, A, B, (if inF f n (prN A B x) then hd - nI 1 else hd), pu, cs, (if inF f n (prN A B x) then n - 1 else n), (if inF f n (prN A B x) then delF f n (prN A B x) else f)))
def hasS (S : FS) (x : Int64) : Bool := match S with
  | (kd, A, B, _, _, cs, n, f) => if kd = 1 then allN (isC cs (plx A x)) B else if kd = 2 then (slotB A B x cs).isSome else inF f n (prN A B x)
def sameS (S : FS) (x y : Int64) : Bool := match S with
  | (kd, A, B, _, _, _, _, _) => if kd = 1 then allN (sameC (plx A x) (plx A y) B) B else if kd = 2 then sameB A B x y else decide (prN A B x = prN A B y)
def ncS (S : FS) : Nat := match S with
  | (kd, A, _, _, _, _, _, _) => if kd = 2 then 4 * 2 ^ A else 2 ^ A
/-- what a well made filter is -/
def okS (S : FS) : Prop := match S with
  | (kd, A, B, hd, _, cs, n, f) =>
    kd = 0 ∨ (kd = 1 ∧ 3 ≤ A ∧ A ≤ 10 ∧ 1 ≤ B ∧ B ≤ 6 ∧ (∀ j, j < 1024 → cs j ≤ 15) ∧ ∀ j, 2 ^ A ≤ j → j < 1024 → cs j = 0)
    ∨ (kd = 2 ∧ 1 ≤ A ∧ A ≤ 8 ∧ 4 ≤ B ∧ B ≤ 16 ∧ (∀ j, j < 1024 → cs j < 65536) ∧ (∀ j, 4 * 2 ^ A ≤ j → j < 1024 → cs j = 0) ∧ hd = nI (posN cs 1024))
    ∨ (kd = 3 ∧ 2 ≤ A ∧ A ≤ 8 ∧ 4 ≤ B ∧ B ≤ 20 ∧ n ≤ 2 ^ A ∧ srt f n ∧ (∀ i, i < n → f i < 2 ^ (A + B)) ∧ hd = nI n)
/-- filter fN of the reference's arrays -/
def PicM (fN : Nat) (S : FS) (ki ka kb : Nat → Nat) (zs pu : Nat → Int32) (ce pa : Nat → Nat) : Prop := match S with
  | (kd, A, B, hd, pv, cs, n, f) =>
    ki fN = kd ∧ (kd ≠ 0 → ka fN = A ∧ kb fN = B ∧ zs fN = hd) ∧ ((kd = 1 ∨ kd = 2) → ∀ j, j < 1024 → vw ce (1024 * fN) j = cs j) ∧ (kd = 2 → pu fN = pv) ∧ (kd = 3 → ∀ i, i < n → pa (256 * fN + i) = enc B (f i)) ∧ ∀ j, j < 256 → vw pa (256 * fN) j < 2 ^ 28
/-- the rows of n below v, moved: what each place holds then -/
theorem insF_at {f : Nat → Nat} {n v i : Nat} (hi : i ≤ n) : insF f n v i = if i < lo f v n then f i else if i = lo f v n then v else f (i - 1) := by
  have hl := lo_le f v n
  unfold insF
  by_cases h1 : i = lo f v n
  · rw [h1, va_up_self, if_neg (by omega), if_pos rfl]
  · rw [va_up_ne _ _ h1]
    by_cases h2 : i < lo f v n
    · rw [if_pos h2, pk_cpy_out (Or.inl (by omega))]
    · rw [if_neg h2, if_neg h1, pk_cpy_in (by omega) (by omega)]
      congr 1; omega
theorem delF_at {f : Nat → Nat} {n v i : Nat} (h : lo f v n < n) (hi : i < n - 1) : delF f n v i = if i < lo f v n then f i else f (i + 1) := by
  unfold delF
  by_cases h2 : i < lo f v n
  · rw [if_pos h2, pk_cpy_out (Or.inl h2)]
  · rw [if_neg h2, pk_cpy_in (by omega) (by omega)]
    congr 1; omega
theorem lo_lt {f : Nat → Nat} {v n i : Nat} (hs : srt f n) (h : i < lo f v n) : f i < v := by
  have := lo_le f v n
  exact (lo_iff hs i (by omega)).mpr h
theorem lo_ge {f : Nat → Nat} {v n i : Nat} (hs : srt f n) (hi : i < n) (h : lo f v n ≤ i) : v ≤ f i := Nat.not_lt.mp (fun h9 => absurd ((lo_iff hs i hi).mp h9) (by omega))
theorem insF_srt {f : Nat → Nat} {n v : Nat} (hs : srt f n) : srt (insF f n v) (n + 1) := by
  intro i j hij hj
  rw [insF_at (by omega), insF_at (by omega)]
  have hl := lo_le f v n
  by_cases h1 : i < lo f v n
  · rw [if_pos h1]
    by_cases h2 : j < lo f v n
    · rw [if_pos h2]; exact hs i j hij (by omega)
    · rw [if_neg h2]
      by_cases h3 : j = lo f v n
      · rw [if_pos h3]; exact Nat.le_of_lt (lo_lt hs h1)
      · rw [if_neg h3]; exact hs i (j - 1) (by omega) (by omega)
  · rw [if_neg h1, if_neg (show ¬ j < lo f v n by omega)]
    by_cases h2 : i = lo f v n
    · rw [if_pos h2]
      by_cases h3 : j = lo f v n
      · rw [if_pos h3]; exact Nat.le_refl _
      · rw [if_neg h3]; exact lo_ge hs (by omega) (by omega)
    · rw [if_neg h2, if_neg (show ¬ j = lo f v n by omega)]
      exact hs (i - 1) (j - 1) (by omega) (by omega)
theorem delF_srt {f : Nat → Nat} {n v : Nat} (hs : srt f n) (h : lo f v n < n) : srt (delF f n v) (n - 1) := by
  intro i j hij hj
  rw [delF_at h (by omega), delF_at h (by omega)]
  by_cases h1 : i < lo f v n
  · rw [if_pos h1]
    by_cases h2 : j < lo f v n
    · rw [if_pos h2]; exact hs i j hij (by omega)
    · rw [if_neg h2]; exact hs i (j + 1) (by omega) (by omega)
  · rw [if_neg h1, if_neg (show ¬ j < lo f v n by omega)]
    exact hs (i + 1) (j + 1) (by omega) (by omega)
theorem insF_lt {f : Nat → Nat} {n v M : Nat} (h : ∀ i, i < n → f i < M) (hv : v < M) : ∀ i, i < n + 1 → insF f n v i < M := by
  intro i hi
  have hl := lo_le f v n
  rw [insF_at (by omega)]
  split
  · exact h i (by omega)
  · split
    · exact hv
    · exact h _ (by omega)
theorem delF_lt {f : Nat → Nat} {n v M : Nat} (hl : lo f v n < n) (h : ∀ i, i < n → f i < M) : ∀ i, i < n - 1 → delF f n v i < M := by
  intro i hi
  rw [delF_at hl hi]
  split
  · exact h i (by omega)
  · exact h _ (by omega)
