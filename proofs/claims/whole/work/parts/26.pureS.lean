theorem and20 {B v : Nat} (hB : B ≤ 20) (h : enc B v < 2 ^ 32) : nI (enc B v) &&& 1048575 = nI (v % 2 ^ B) := by
  rw [pk_andN h 20 (by decide), enc_mod hB]
theorem bst_a {c : Nat → Option Nat} {N a : Nat} (h : rln c N a N 0 ≤ bstN c N a) : bstN c N (a + 1) = bstN c N a := by
  show (if _ then _ else _) = _
  rw [if_neg (Nat.not_lt.mpr h)]
theorem bst_b {c : Nat → Option Nat} {N a : Nat} (h : ¬ rln c N a N 0 ≤ bstN c N a) : bstN c N (a + 1) = rln c N a N 0 := by
  show (if _ then _ else _) = _
  rw [if_pos (Nat.not_le.mp h)]
/-- tried: the first i cells of a block copied -/
def cpT (c : Nat → Nat) (o : Nat) (t : Nat → Nat) (i : Nat) : Nat → Nat := fun j => if j < i then c (o + j) else t j
theorem cpT_0 (c : Nat → Nat) (o : Nat) (t : Nat → Nat) : cpT c o t 0 = t := by funext j; simp [cpT]
theorem cpT_s (c : Nat → Nat) (o : Nat) (t : Nat → Nat) (i : Nat) : va_up (cpT c o t i) i (c (o + i)) = cpT c o t (i + 1) := by
  funext j
  unfold va_up cpT
  by_cases h1 : j = i
  · subst h1; simp
  · by_cases h2 : j < i
    · simp [h1, h2, show j < i + 1 by omega]
    · simp [h1, h2, show ¬ j < i + 1 by omega]
theorem stO_z (c : Nat → Nat) (o : Nat) (d : Nat → Nat) : stO 0 c o d = c := by
  funext q; unfold stO; rw [if_neg (by omega)]
theorem stO_n {c : Nat → Nat} {o i : Nat} {d : Nat → Nat} : va_up (stO i c o d) (o + i) (d i) = stO (i + 1) c o d := by
  funext q
  unfold va_up stO
  by_cases h1 : q = o + i
  · subst h1
    rw [if_pos rfl, if_pos ⟨by omega, by omega⟩]
    congr 1; omega
  · rw [if_neg h1]
    by_cases h2 : o ≤ q ∧ q < o + i
    · rw [if_pos h2, if_pos ⟨h2.1, by omega⟩]
    · rw [if_neg h2, if_neg (by omega)]
theorem stO_more {c d : Nat → Nat} {o n : Nat} (hn : n ≤ 1024) (h : ∀ j, n ≤ j → j < 1024 → d j = c (o + j)) : stO n c o d = stO 1024 c o d := by
  funext q
  unfold stO
  by_cases h1 : o ≤ q ∧ q < o + n
  · rw [if_pos h1, if_pos ⟨h1.1, by omega⟩]
  · rw [if_neg h1]
    by_cases h2 : o ≤ q ∧ q < o + 1024
    · rw [if_pos h2, h (q - o) (by omega) (by omega)]
      congr 1; omega
    · rw [if_neg h2]
theorem stO_cong {n : Nat} {c d e : Nat → Nat} {o : Nat} (h : ∀ j, j < n → d j = e j) : stO n c o d = stO n c o e := by
  funext q
  unfold stO
  split
  · rename_i h1; exact h _ (by omega)
  · rfl
theorem va_up_cong {f g : Nat → Nat} {k v n : Nat} (h : ∀ j, j < n → f j = g j) : ∀ j, j < n → va_up f k v j = va_up g k v j := by
  intro j hj
  unfold va_up
  split
  · rfl
  · exact h j hj
