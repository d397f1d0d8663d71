/-! the longest row, both ways -/
theorem rowN_ge {c : Nat → Option Nat} {N i : Nat} : ∀ (L : Nat), (∀ t, t < L → c ((i + t) % N) ≠ none) → L ≤ rowN c N (i + L) := by
  intro L
  induction L with
  | zero => intro _; exact Nat.zero_le _
  | succ L ih =>
    intro h
    have h1 := ih (fun t ht => h t (by omega))
    have h2 := h L (by omega)
    show L + 1 ≤ (if c ((i + L) % N) = none then 0 else rowN c N (i + L) + 1)
    rw [if_neg h2]
    omega
theorem rowN_used {c : Nat → Option Nat} {N : Nat} : ∀ (i t : Nat), t < rowN c N i → c ((i - 1 - t) % N) ≠ none := by
  intro i
  induction i with
  | zero => intro t h; exact absurd h (Nat.not_lt_zero _)
  | succ i ih =>
    intro t h
    unfold rowN at h
    split at h
    · exact absurd h (Nat.not_lt_zero _)
    · rename_i hc
      cases t with
      | zero => exact hc
      | succ t =>
        have := ih t (by omega)
        rw [show i + 1 - 1 - (t + 1) = i - 1 - t by omega]
        exact this
theorem rln_used {c : Nat → Option Nat} {N a : Nat} : ∀ (n k t : Nat), k ≤ t → t < rln c N a n k → c ((a + t) % N) ≠ none := by
  intro n
  induction n with
  | zero => intro k t h1 h2; have : rln c N a 0 k = k := rfl; omega
  | succ n ih =>
    intro k t h1 h2
    unfold rln at h2
    split at h2
    · omega
    · rename_i hc
      by_cases e : t = k
      · rw [e]; exact hc
      · exact ih (k + 1) t (by omega) h2
theorem rln_ge {c : Nat → Option Nat} {N a : Nat} : ∀ (n k m : Nat), m ≤ n → (∀ t, k ≤ t → t < k + m → c ((a + t) % N) ≠ none) → k + m ≤ rln c N a n k := by
  intro n
  induction n with
  | zero => intro k m hm _; have : rln c N a 0 k = k := rfl; omega
  | succ n ih =>
    intro k m hm h
    cases m with
    | zero =>
      unfold rln
      split
      · omega
      · have := ih (k + 1) 0 (by omega) (fun t h1 h2 => by omega)
        omega
    | succ m =>
      unfold rln
      rw [if_neg (h k (Nat.le_refl _) (by omega))]
      have := ih (k + 1) m (by omega) (fun t h1 h2 => h t (by omega) (by omega))
      omega
theorem lngN_ge {c : Nat → Option Nat} {N : Nat} : ∀ (i j : Nat), j ≤ i → rowN c N j ≤ lngN c N i := by
  intro i
  induction i with
  | zero => intro j h; rw [show j = 0 by omega]; exact Nat.le_refl _
  | succ i ih =>
    intro j h
    show _ ≤ (if lngN c N i < rowN c N (i + 1) then rowN c N (i + 1) else lngN c N i)
    by_cases e : j = i + 1
    · subst e; split <;> omega
    · have := ih j (by omega)
      split <;> omega
theorem lngN_ex {c : Nat → Option Nat} {N : Nat} : ∀ (i : Nat), ∃ j, j ≤ i ∧ lngN c N i = rowN c N j := by
  intro i
  induction i with
  | zero => exact ⟨0, Nat.le_refl _, rfl⟩
  | succ i ih =>
    obtain ⟨j, h1, h2⟩ := ih
    show ∃ j, j ≤ i + 1 ∧ (if lngN c N i < rowN c N (i + 1) then rowN c N (i + 1) else lngN c N i) = rowN c N j
    split
    · exact ⟨i + 1, Nat.le_refl _, rfl⟩
    · exact ⟨j, by omega, h2⟩
theorem bstN_ge {c : Nat → Option Nat} {N : Nat} : ∀ (i a : Nat), a < i → rln c N a N 0 ≤ bstN c N i := by
  intro i
  induction i with
  | zero => intro a h; omega
  | succ i ih =>
    intro a h
    show _ ≤ (if bstN c N i < rln c N i N 0 then rln c N i N 0 else bstN c N i)
    by_cases e : a = i
    · subst e; split <;> omega
    · have := ih a (by omega)
      split <;> omega
theorem bstN_ex {c : Nat → Option Nat} {N : Nat} : ∀ (i : Nat), bstN c N i = 0 ∨ ∃ a, a < i ∧ bstN c N i = rln c N a N 0 := by
  intro i
  induction i with
  | zero => exact Or.inl rfl
  | succ i ih =>
    show (if bstN c N i < rln c N i N 0 then rln c N i N 0 else bstN c N i) = 0 ∨ ∃ a, a < i + 1 ∧ (if bstN c N i < rln c N i N 0 then rln c N i N 0 else bstN c N i) = rln c N a N 0
    split
    · exact Or.inr ⟨i, by omega, rfl⟩
    · rcases ih with h | ⟨a, h1, h2⟩
      · exact Or.inl h
      · exact Or.inr ⟨a, by omega, h2⟩
theorem bst_lng {c : Nat → Option Nat} {N : Nat} (hN : 0 < N) : bstN c N N = if N < lngN c N (2 * N) then N else lngN c N (2 * N) := by
  have h1 : bstN c N N ≤ if N < lngN c N (2 * N) then N else lngN c N (2 * N) := by
    have hb := bstN_le c N N
    rcases bstN_ex (c := c) (N := N) N with h | ⟨a, ha, h⟩
    · rw [h]; exact Nat.zero_le _
    · have hle : bstN c N N ≤ lngN c N (2 * N) := by
        have h2 := rowN_ge (c := c) (N := N) (i := a) (rln c N a N 0) (fun t ht => rln_used N 0 t (Nat.zero_le _) ht)
        have h3 := rln_le c N a N 0
        have h4 := lngN_ge (c := c) (N := N) (2 * N) (a + rln c N a N 0) (by omega)
        omega
      split <;> omega
  have h2 : (if N < lngN c N (2 * N) then N else lngN c N (2 * N)) ≤ bstN c N N := by
    obtain ⟨j, hj, e⟩ := lngN_ex (c := c) (N := N) (2 * N)
    generalize hL : (if N < lngN c N (2 * N) then N else lngN c N (2 * N)) = L
    have hLN : L ≤ N := by rw [← hL]; split <;> omega
    have hLr : L ≤ rowN c N j := by rw [← hL, ← e]; split <;> omega
    rcases Nat.eq_zero_or_pos L with h0 | h0
    · omega
    · have hjr := rowN_le c N j
      have h5 := rln_ge (c := c) (N := N) (a := (j - L) % N) N 0 L hLN (fun t h1 h2 => by
        rw [Nat.mod_add_mod]
        have := rowN_used (c := c) (N := N) j (L - 1 - t) (by omega)
        rw [show j - L + t = j - 1 - (L - 1 - t) by omega]
        exact this)
      have h6 := bstN_ge (c := c) (N := N) N ((j - L) % N) (Nat.mod_lt _ hN)
      omega
  omega
/-! a claimed slot is used -/
theorem slt_def (q : Nat → Nat) (st i : Nat) : slt q st i = if nxt q st i < q i then q i else nxt q st i := rfl
theorem nxt_reach {q : Nat → Nat} {st z : Nat} : ∀ (i : Nat), z < nxt q st i → st ≤ z → (∀ k, k < i → q k ≤ z) → ∃ k, k < i ∧ slt q st k = z := by
  intro i
  induction i with
  | zero => intro h h2 _; have : nxt q st 0 = st := rfl; omega
  | succ i ih =>
    intro h hst hq
    rw [nxt_s] at h
    rcases Nat.lt_or_ge z (nxt q st i) with h1 | h1
    · obtain ⟨k, h2, h3⟩ := ih h1 hst (fun k hk => hq k (by omega))
      exact ⟨k, by omega, h3⟩
    · refine ⟨i, by omega, ?_⟩
      have h2 := hq i (by omega)
      rw [slt_def] at h ⊢
      by_cases hc : nxt q st i < q i
      · rw [if_pos hc] at h ⊢; omega
      · rw [if_neg hc] at h ⊢; omega
theorem nxt_mono {q : Nat → Nat} {a b : Nat} (h : a ≤ b) : ∀ i, nxt q a i ≤ nxt q b i := by
  intro i
  induction i with
  | zero => exact h
  | succ i ih =>
    rw [nxt_s, nxt_s, slt_def, slt_def]
    split <;> split <;> omega
theorem cirN_use {q : Nat → Nat} {st N z : Nat} : ∀ {n k : Nat}, k < n → slt q st k % N = z → cirN q st N n z ≠ none := by
  intro n
  induction n with
  | zero => intro k h; omega
  | succ n ih =>
    intro k hk e
    show va_up (cirN q st N n) (slt q st n % N) (some n) z ≠ none
    unfold va_up
    split
    · exact fun h => by cases h
    · rename_i hne
      by_cases e2 : k = n
      · subst e2; exact absurd e.symm hne
      · exact ih (by omega) e
theorem used_claimed {f : Nat → Nat} {A B n z i : Nat} (hs : srt f n) (hq : ∀ i, i < n → f i / 2 ^ B < 2 ^ A) (hn : n ≤ 2 ^ A) (hi : i < n) (hz : f i / 2 ^ B = z) : cirF f A B n z ≠ none := by
  have hN := Nat.two_pow_pos A
  have hzN : z < 2 ^ A := by rw [← hz]; exact hq i hi
  have hqs : ∀ a b, a ≤ b → b < n → quo f B a ≤ quo f B b := fun a b h1 h2 => Nat.div_le_div_right (hs a b h1 h2)
  unfold cirF
  by_cases hst : ovr f A B n ≤ z
  · rcases Nat.lt_or_ge z (nxt (quo f B) (ovr f A B n) i) with h1 | h1
    · obtain ⟨k, h2, h3⟩ := nxt_reach i h1 hst (fun k hk => by have := hqs k i (by omega) hi; rw [← hz]; exact this)
      exact cirN_use (show k < n by omega) (by rw [h3]; exact Nat.mod_eq_of_lt hzN)
    · refine cirN_use hi ?_
      have e : slt (quo f B) (ovr f A B n) i = z := by
        rw [slt_def]
        have e2 : quo f B i = z := hz
        split <;> omega
      rw [e]; exact Nat.mod_eq_of_lt hzN
  · have h1 : 2 ^ A + ovr f A B n = nxt (quo f B) 0 n := by
      unfold ovr at hst ⊢
      omega
    have h2 := nxt_mono (q := quo f B) (Nat.zero_le (ovr f A B n)) n
    have h3 : ovr f A B n ≤ 2 ^ A := by
      have h9 := nxt_le (q := quo f B) (st := 0) (M := 2 ^ A) (n := n) hq (Nat.zero_le _)
      omega
    obtain ⟨k, h4, h5⟩ := nxt_reach (q := quo f B) (st := ovr f A B n) (z := 2 ^ A + z) n (by omega) (by omega) (fun k hk => by have : quo f B k < 2 ^ A := hq k hk; omega)
    refine cirN_use h4 ?_
    rw [h5, Nat.add_mod_left]
    exact Nat.mod_eq_of_lt hzN
theorem anyN_iff {g : Nat → Bool} {n : Nat} : anyN g n = true ↔ ∃ i, i < n ∧ g i = true := by
  induction n with
  | zero =>
    constructor
    · intro h; cases h
    · rintro ⟨i, h, -⟩; omega
  | succ n ih =>
    show (anyN g n || g n) = true ↔ _
    rw [Bool.or_eq_true, ih]
    constructor
    · rintro (⟨i, h1, h2⟩ | h)
      · exact ⟨i, by omega, h2⟩
      · exact ⟨n, by omega, h⟩
    · rintro ⟨i, h1, h2⟩
      by_cases e : i = n
      · subst e; exact Or.inr h2
      · exact Or.inl ⟨i, by omega, h2⟩
theorem any_clm {f : Nat → Nat} {B n z : Nat} (hs : srt f n) : anyN (fun i => decide (quo f B i = z)) n = clm f B n z := by
  have hp := Nat.two_pow_pos B
  have hl := lo_le f (z * 2 ^ B) n
  rw [Bool.eq_iff_iff, anyN_iff]
  constructor
  · rintro ⟨i, hi, h⟩
    have h1 : f i / 2 ^ B = z := of_decide_eq_true h
    have h2 : z * 2 ^ B ≤ f i := by
      have := (Nat.le_div_iff_mul_le hp).mp (Nat.le_of_eq h1.symm)
      exact this
    have h3 : lo f (z * 2 ^ B) n ≤ i := by
      rcases Nat.lt_or_ge i (lo f (z * 2 ^ B) n) with h9 | h9
      · have := lo_lt hs h9; omega
      · exact h9
    have h4 := lo_ge (v := z * 2 ^ B) hs (show lo f (z * 2 ^ B) n < n by omega) (Nat.le_refl _)
    have h5 := hs _ i h3 hi
    unfold clm
    rw [decide_eq_true (show lo f (z * 2 ^ B) n < n by omega), decide_eq_true]
    · rfl
    · have h6 : z ≤ f (lo f (z * 2 ^ B) n) / 2 ^ B := (Nat.le_div_iff_mul_le hp).mpr h4
      have h7 : f (lo f (z * 2 ^ B) n) / 2 ^ B ≤ f i / 2 ^ B := Nat.div_le_div_right h5
      omega
  · intro h
    unfold clm at h
    rw [Bool.and_eq_true] at h
    exact ⟨_, of_decide_eq_true h.1, h.2⟩
theorem rc_lk {f : Nat → Nat} {A B n z : Nat} (h : okR A B n f) : rcM f B n z (cirF f A B n z) = (match cirF f A B n z with | none => 0 | some j => lkR f B n z j) := by
  obtain ⟨h1, h2, h3, h4, h5, h6, h7⟩ := h
  cases e : cirF f A B n z with
  | none =>
    show (if anyN (fun i => decide (quo f B i = z)) n then 1 else 0) = 0
    rw [if_neg]
    intro h9
    obtain ⟨i, hi, h8⟩ := anyN_iff.mp h9
    exact used_claimed h6 (fun i hi => div_lt_A (h7 i hi)) h5 hi (of_decide_eq_true h8) e
  | some j =>
    show f j % 2 ^ B * 8 + _ + _ + _ = lkR f B n z j
    unfold lkR
    rw [any_clm h6, Nat.mul_comm (f j % 2 ^ B) 8]
    rfl
