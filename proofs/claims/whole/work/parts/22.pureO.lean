theorem mneg (x y : Int32) : x + (-1) * y = x - y := by
  rw [Int32.sub_eq_add_neg, show (-1 : Int32) = -(1 : Int32) from rfl, Int32.neg_mul, Int32.one_mul]
theorem sub_lt0 {a b : Nat} (ha : a < 2 ^ 30) (hb : b < 2 ^ 30) : nI a - nI b < 0 ↔ a < b := by
  constructor
  · intro h
    rcases Nat.lt_or_ge a b with h1 | h1
    · exact h1
    · rw [pk_sub h1] at h; exact absurd h (nI_pos (by omega))
  · intro h; exact pk_sneg hb h
theorem sub_le15 {a b : Nat} (ha : a ≤ 15) (h : b ≤ a) : ¬ nI 15 < nI a - nI b := by
  rw [pk_sub h]; exact nI_nlt (by omega) (by decide)
/-- inserting v from the back, with k places looked at still -/
def insR (v : Nat) : Nat → (Nat → Nat) → Nat → Nat
  | 0, F => va_up F 0 v
  | k + 1, F => if v < F k then insR v k (va_up F (k + 1) (F k)) else va_up F (k + 1) v
theorem insR_t {v k : Nat} {F : Nat → Nat} (h : v < F k) : insR v (k + 1) F = insR v k (va_up F (k + 1) (F k)) := by
  show (if v < F k then _ else _) = _
  rw [if_pos h]
theorem insR_f {v k : Nat} {F : Nat → Nat} (h : ¬ v < F k) : insR v (k + 1) F = va_up F (k + 1) v := by
  show (if v < F k then _ else _) = _
  rw [if_neg h]
/-- the first i of a block are 0 -/
def zer (c : Nat → Nat) (o i : Nat) : Nat → Nat := stO 1024 c o (fun j => if j < i then 0 else vw c o j)
theorem zer_0 (c : Nat → Nat) (o : Nat) : zer c o 0 = c := by
  unfold zer
  have e : (fun j => if j < 0 then 0 else vw c o j) = vw c o := by funext j; simp
  rw [e, stO_self]
theorem zer_s {c : Nat → Nat} {o i : Nat} (h : i < 1024) : va_up (zer c o i) (o + i) 0 = zer c o (i + 1) := by
  unfold zer
  rw [stO_up h]
  congr 1
  funext j
  unfold va_up
  by_cases h1 : j = i
  · subst h1; simp
  · by_cases h2 : j < i
    · simp [h1, h2, show j < i + 1 by omega]
    · simp [h1, h2, show ¬ j < i + 1 by omega]
theorem zer_end (c : Nat → Nat) (o : Nat) : zer c o 1024 = stO 1024 c o (fun _ => 0) := by
  unfold zer
  funext q
  unfold stO
  split
  · show (if q - o < 1024 then 0 else vw c o (q - o)) = 0
    rw [if_pos (by omega)]
  · rfl
