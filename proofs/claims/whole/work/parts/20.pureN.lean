theorem low_l (z : Int64) (A : Nat) (hA : A ≤ 30) : (z &&& (lshl 1 (nI A) - 1)).toInt32 = nI (z.toBitVec.toNat % 2 ^ A) := by
  have h0 : 0 < 2 ^ A := Nat.two_pow_pos A
  have e1 : lshl 1 (nI A) = lN (2 ^ A) := by
    have h := wb_shl 1 (k := A) (by omega)
    rw [Nat.one_mul] at h
    exact h
  have e2 : lN (2 ^ A) - 1 = lN (2 ^ A - 1) := lN_sub (a := 2 ^ A) (b := 1) (by omega)
  rw [e1, e2, lN_self z, wb_mask z.toBitVec.isLt (by omega), lN_i, ← lN_self]
def isNum (v : Int32) : Bool := !decide (v < 0) && !decide (nI 4 ≤ v)
theorem isNum_t {v : Int32} (h : isNum v = true) : ∃ j : Nat, j < 4 ∧ v = nI j := by
  have h1 : ¬ v < 0 := fun h9 => by simp [isNum, h9] at h
  have h2 : ¬ nI 4 ≤ v := fun h9 => by simp [isNum, h9] at h
  obtain ⟨j, hj, rfl⟩ := nI_of h1
  exact ⟨j, Nat.not_le.mp (fun h9 => h2 (nI_le h9 hj)), rfl⟩
theorem isNum_nI {j : Nat} (h : j < 4) : isNum (nI j) = true := by
  unfold isNum
  rw [decide_eq_false (nI_pos (by omega)), decide_eq_false (nI_ge h (by decide))]
  rfl
theorem nx_or (a b : Nat) : nI a ||| nI b = nI (a ||| b) := by
  apply Int32.toBitVec_inj.1
  show BitVec.ofNat 32 a ||| BitVec.ofNat 32 b = BitVec.ofNat 32 (a ||| b)
  apply BitVec.eq_of_getLsbD_eq
  intro i hi
  simp [hi]
/-- a pair as the reference spells it -/
def enc (B v : Nat) : Nat := v / 2 ^ B * 2 ^ 20 + v % 2 ^ B
theorem enc_or {B v : Nat} (hB : B ≤ 20) : nI (v / 2 ^ B * 2 ^ 20) ||| nI (v % 2 ^ B) = nI (enc B v) := by
  have h : v % 2 ^ B < 2 ^ 20 := Nat.lt_of_lt_of_le (Nat.mod_lt _ (Nat.two_pow_pos B)) (p2_le hB)
  rw [nx_or]
  unfold enc
  congr 1
  rw [Nat.mul_comm, ← Nat.two_pow_add_eq_or_of_lt h]
theorem enc_q {A B : Nat} (hA : A ≤ 8) (hB : B ≤ 20) (z : Nat) : z / 2 ^ (64 - A) = z / 2 ^ (64 - A - B) / 2 ^ B := by
  rw [Nat.div_div_eq_div_mul, ← Nat.pow_add]
  congr 2
  omega
theorem enc_r {A B : Nat} (hA : A ≤ 8) (hB : B ≤ 20) (z : Nat) : (z * 2 ^ A % 2 ^ 64) / 2 ^ (64 - B) = z / 2 ^ (64 - A - B) % 2 ^ B := by
  have e1 : 2 ^ 64 = 2 ^ (64 - A) * 2 ^ A := by rw [← Nat.pow_add]; congr 1; omega
  have e2 : 2 ^ (64 - B) = 2 ^ (64 - A - B) * 2 ^ A := by rw [← Nat.pow_add]; congr 1; omega
  have e3 : 2 ^ (64 - A) = 2 ^ (64 - A - B) * 2 ^ B := by rw [← Nat.pow_add]; congr 1; omega
  rw [e1, Nat.mul_mod_mul_right, e2, Nat.mul_div_mul_right _ _ (Nat.two_pow_pos A), e3, Nat.mod_mul_right_div_self]
theorem lshl_N (z : Int64) {k : Nat} (hk : k < 64) : lshl z (nI k) = lN (z.toBitVec.toNat * 2 ^ k % 2 ^ 64) := by
  have h := wb_shl z.toBitVec.toNat hk
  rw [← lN_self, wb_mod] at h
  exact h
theorem lshr_lN {n k : Nat} (hn : n < 2 ^ 64) (hk : k < 64) : lshr (lN n) (nI k) = lN (n / 2 ^ k) := wb_shr hn hk
theorem enc_lt {A B v : Nat} (hA : A ≤ 8) (hB : B ≤ 20) (h : v < 2 ^ (A + B)) : enc B v < 2 ^ 28 := by
  have h1 : v / 2 ^ B < 2 ^ A := by
    rw [Nat.div_lt_iff_lt_mul (Nat.two_pow_pos B), ← Nat.pow_add]; exact h
  have h2 : v % 2 ^ B < 2 ^ 20 := Nat.lt_of_lt_of_le (Nat.mod_lt _ (Nat.two_pow_pos B)) (p2_le hB)
  have h3 := p2_le hA
  have h4 : v / 2 ^ B ≤ 255 := by omega
  unfold enc
  have h5 : v / 2 ^ B * 2 ^ 20 ≤ 255 * 2 ^ 20 := Nat.mul_le_mul_right _ h4
  omega
theorem div_lt_A {A B v : Nat} (h : v < 2 ^ (A + B)) : v / 2 ^ B < 2 ^ A := by
  rw [Nat.div_lt_iff_lt_mul (Nat.two_pow_pos B), ← Nat.pow_add]; exact h
/-- a block of an array: its view from o on; the array with another block there -/
def vw (c : Nat → Nat) (o : Nat) : Nat → Nat := fun j => c (o + j)
def stO (n : Nat) (c : Nat → Nat) (o : Nat) (d : Nat → Nat) : Nat → Nat := fun q => if o ≤ q ∧ q < o + n then d (q - o) else c q
theorem stO_at {n : Nat} {c d : Nat → Nat} {o j : Nat} (h : j < n) : stO n c o d (o + j) = d j := by
  unfold stO
  rw [if_pos ⟨by omega, by omega⟩]
  congr 1
  omega
theorem stO_ne {n : Nat} {c d : Nat → Nat} {o q : Nat} (h : ¬ (o ≤ q ∧ q < o + n)) : stO n c o d q = c q := if_neg h
theorem stO_self (n : Nat) (c : Nat → Nat) (o : Nat) : stO n c o (vw c o) = c := by
  funext q
  unfold stO vw
  split
  · congr 1; omega
  · rfl
theorem stO_up {n : Nat} {c d : Nat → Nat} {o j v : Nat} (h : j < n) : va_up (stO n c o d) (o + j) v = stO n c o (va_up d j v) := by
  funext q
  by_cases e : q = o + j
  · subst e
    rw [va_up_self, stO_at h, va_up_self]
  · rw [va_up_ne _ _ e]
    unfold stO
    split
    · rename_i h1
      rw [va_up_ne _ _ (by omega)]
    · rfl
