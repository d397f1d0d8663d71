/-- two rising rows merged from the back: k places to fill, m of the first row, t of the second left -/
def mrg (G : Nat → Nat) : Nat → Nat → Nat → (Nat → Nat) → Nat → Nat
  | 0, _, _, F => F
  | k + 1, m, t, F => if t = 0 then F else if 0 < m ∧ G (t - 1) < F (m - 1) then mrg G k (m - 1) t (va_up F k (F (m - 1))) else mrg G k m (t - 1) (va_up F k (G (t - 1)))
theorem mrg_0 {G F : Nat → Nat} {k m : Nat} : mrg G k m 0 F = F := by cases k <;> simp [mrg]
theorem mrg_a {G F : Nat → Nat} {k m t : Nat} (ht : ¬ t = 0) (h : 0 < m ∧ G (t - 1) < F (m - 1)) : mrg G (k + 1) m t F = mrg G k (m - 1) t (va_up F k (F (m - 1))) := by
  show (if t = 0 then F else if 0 < m ∧ G (t - 1) < F (m - 1) then _ else _) = _
  rw [if_neg ht, if_pos h]
theorem mrg_b {G F : Nat → Nat} {k m t : Nat} (ht : ¬ t = 0) (h : ¬ (0 < m ∧ G (t - 1) < F (m - 1))) : mrg G (k + 1) m t F = mrg G k m (t - 1) (va_up F k (G (t - 1))) := by
  show (if t = 0 then F else if 0 < m ∧ G (t - 1) < F (m - 1) then _ else _) = _
  rw [if_neg ht, if_neg h]
theorem neg1 {t : Nat} (h : t < 2 ^ 30) : nI t - nI 1 < 0 ↔ t = 0 := by
  constructor
  · intro h1
    rcases Nat.eq_zero_or_pos t with h2 | h2
    · exact h2
    · rw [pk_sub (by omega)] at h1
      exact absurd h1 (nI_pos (by omega))
  · intro h1; subst h1; decide
theorem dec1 (k : Nat) : nI k + Int32.ofInt (-1) = nI k - nI 1 := by rw [Int32.sub_eq_add_neg]; rfl
