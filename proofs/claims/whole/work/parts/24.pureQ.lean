theorem fnd_vw (c : Nat → Nat) (o v b n : Nat) : fnd c v (o + b) n = (fnd (vw c o) v b n).map (fun j => o + j) := by
  induction n generalizing b with
  | zero => rfl
  | succ n ih =>
    by_cases h : c (o + b) = v
    · rw [fnd_t h, fnd_t (show vw c o b = v from h)]; rfl
    · rw [fnd_f h, fnd_f (show ¬ vw c o b = v from h), Nat.add_assoc, ih]
theorem fnd_congr {f g : Nat → Nat} {v b n : Nat} (h : ∀ j, b ≤ j → j < b + n → f j = g j) : fnd f v b n = fnd g v b n := by
  induction n generalizing b with
  | zero => rfl
  | succ n ih =>
    unfold fnd
    rw [h b (Nat.le_refl _) (by omega), ih (fun j h1 h2 => h j (by omega) (by omega))]
theorem oI_lt {o : Option Nat} (hs : ∀ j, o = some j → j < 2 ^ 31) : oI o < 0 ↔ o = none := by
  cases o with
  | none => exact ⟨fun _ => rfl, fun _ => by decide⟩
  | some j => exact ⟨fun h => absurd h (nI_pos (hs j rfl)), fun h => by cases h⟩
theorem oI_ge {o : Option Nat} (hs : ∀ j, o = some j → j < 2 ^ 31) : 0 ≤ oI o ↔ ∃ j, o = some j := by
  cases o with
  | none => exact ⟨fun h => absurd h (by decide), fun h => by obtain ⟨j, h⟩ := h; cases h⟩
  | some j => exact ⟨fun _ => ⟨j, rfl⟩, fun _ => nI_pos' (hs j rfl)⟩
theorem enc_div {B v : Nat} (hB : B ≤ 20) : enc B v / 2 ^ 20 = v / 2 ^ B := by
  have h : v % 2 ^ B < 2 ^ 20 := Nat.lt_of_lt_of_le (Nat.mod_lt _ (Nat.two_pow_pos B)) (p2_le hB)
  unfold enc
  rw [Nat.mul_comm, Nat.mul_add_div (Nat.two_pow_pos 20), Nat.div_eq_of_lt h, Nat.add_zero]
theorem enc_mod {B v : Nat} (hB : B ≤ 20) : enc B v % 2 ^ 20 = v % 2 ^ B := by
  have h : v % 2 ^ B < 2 ^ 20 := Nat.lt_of_lt_of_le (Nat.mod_lt _ (Nat.two_pow_pos B)) (p2_le hB)
  unfold enc
  rw [Nat.mul_comm, Nat.mul_add_mod, Nat.mod_eq_of_lt h]
theorem map_some {o : Option Nat} {g : Nat → Nat} {j : Nat} (h : o.map g = some j) : ∃ i, o = some i ∧ j = g i := by
  cases o with
  | none => cases h
  | some i => cases h; exact ⟨i, rfl, rfl⟩
theorem map_none {o : Option Nat} {g : Nat → Nat} (h : o.map g = none) : o = none := by
  cases o with
  | none => rfl
  | some i => cases h
/-- the circle's row in the reference's slots: a row that shows c on the first N -/
def shows (c : Nat → Option Nat) (N : Nat) (g : Nat → Int32) : Prop := ∀ z, z < N → g z = oI (c z)
theorem shows_up {q : Nat → Nat} {st N i : Nat} {g : Nat → Int32} (h : shows (cirN q st N i) N g) : shows (cirN q st N (i + 1)) N (upd g (slt q st i % N) (nI i)) := by
  intro z hz
  show upd g (slt q st i % N) (nI i) z = oI (va_up (cirN q st N i) (slt q st i % N) (some i) z)
  by_cases e : z = slt q st i % N
  · subst e; simp [upd, va_up, oI]
  · rw [pk_un e, va_up_ne _ _ e]; exact h z hz
def anyN (g : Nat → Bool) : Nat → Bool
  | 0 => false
  | n + 1 => anyN g n || g n
/-- what the reference shows of slot z -/
def rcM (f : Nat → Nat) (B n z : Nat) (o : Option Nat) : Nat := match o with
  | none => if anyN (fun i => decide (quo f B i = z)) n then 1 else 0
  | some j => (f j % 2 ^ B) * 8 + (if anyN (fun i => decide (quo f B i = z)) n then 1 else 0) + (if decide (0 < j) && decide (quo f B (j - 1) = quo f B j) then 2 else 0) + (if quo f B j = z then 0 else 4)
/-- used slots from a on, with k seen and n left -/
def rln (c : Nat → Option Nat) (N a : Nat) : Nat → Nat → Nat
  | 0, k => k
  | n + 1, k => if c ((a + k) % N) = none then k else rln c N a n (k + 1)
theorem rln_n {c : Nat → Option Nat} {N a n k : Nat} (h : c ((a + k) % N) = none) : rln c N a (n + 1) k = k := by simp [rln, h]
theorem rln_s {c : Nat → Option Nat} {N a n k j : Nat} (h : c ((a + k) % N) = some j) : rln c N a (n + 1) k = rln c N a n (k + 1) := by simp [rln, h]
def bstN (c : Nat → Option Nat) (N : Nat) : Nat → Nat
  | 0 => 0
  | i + 1 => if bstN c N i < rln c N i N 0 then rln c N i N 0 else bstN c N i
theorem rln_le (c : Nat → Option Nat) (N a n k : Nat) : rln c N a n k ≤ k + n := by
  induction n generalizing k with
  | zero => exact Nat.le_refl _
  | succ n ih =>
    unfold rln
    split
    · omega
    · have := ih (k + 1); omega
theorem bstN_le (c : Nat → Option Nat) (N i : Nat) : bstN c N i ≤ N := by
  induction i with
  | zero => exact Nat.zero_le _
  | succ i ih =>
    have := rln_le c N i N 0
    unfold bstN
    split <;> omega
