/-! one row merged into another, both ways -/
theorem lo_cong {f g : Nat → Nat} {v n : Nat} (h : ∀ i, i < n → f i = g i) : lo f v n = lo g v n := by
  induction n with
  | zero => rfl
  | succ n ih =>
    show lo f v n + (if f n < v then 1 else 0) = lo g v n + (if g n < v then 1 else 0)
    rw [ih (fun i hi => h i (by omega)), h n (by omega)]
theorem srt_ext {F G : Nat → Nat} {N : Nat} (hF : srt F N) (hG : srt G N) (h : ∀ v, lo F v N = lo G v N) : ∀ i, i < N → F i = G i := by
  intro i hi
  rcases Nat.lt_trichotomy (F i) (G i) with h1 | h1 | h1
  · have h2 := (lo_iff (v := G i) hF i hi).mp h1
    rw [h] at h2
    have := (lo_iff (v := G i) hG i hi).mpr h2
    omega
  · exact h1
  · have h2 := (lo_iff (v := F i) hG i hi).mp h1
    rw [← h] at h2
    have := (lo_iff (v := F i) hF i hi).mpr h2
    omega
theorem lo_ins {R f : Nat → Nat} {l u v : Nat} (h1 : ∀ i, i < l → R i = f i) (h2 : R l = u) : ∀ (n : Nat), l ≤ n → (∀ i, l < i → i ≤ n → R i = f (i - 1)) → lo R v (n + 1) = lo f v n + if u < v then 1 else 0 := by
  intro n
  induction n with
  | zero =>
    intro hl h3
    obtain rfl : l = 0 := by omega
    show lo R v 0 + (if R 0 < v then 1 else 0) = _
    rw [h2]; rfl
  | succ n ih =>
    intro hl h3
    show lo R v (n + 1) + (if R (n + 1) < v then 1 else 0) = lo f v n + (if f n < v then 1 else 0) + _
    by_cases e : l = n + 1
    · subst e
      rw [lo_cong h1, h2]
      show lo f v n + (if f n < v then 1 else 0) + _ = _
      omega
    · rw [ih (by omega) (fun i a b => h3 i a (by omega)), h3 (n + 1) (by omega) (by omega), Nat.add_sub_cancel]
      omega
theorem lo_insF {f : Nat → Nat} {n u v : Nat} : lo (insF f n u) v (n + 1) = lo f v n + if u < v then 1 else 0 := by
  have hl := lo_le f u n
  refine lo_ins (l := lo f u n) (fun i hi => ?_) ?_ n hl (fun i h1 h2 => ?_)
  · rw [insF_at (by omega), if_pos hi]
  · rw [insF_at hl, if_neg (by omega), if_pos rfl]
  · rw [insF_at h2, if_neg (by omega), if_neg (by omega)]
theorem mrg_spec {G : Nat → Nat} : ∀ (k m t : Nat) (F : Nat → Nat), m + t = k → srt F m → srt G t →
    (∀ i, k ≤ i → mrg G k m t F i = F i) ∧ (∀ v, lo (mrg G k m t F) v k = lo F v m + lo G v t) ∧ (∀ M, (∀ i, i < m → F i ≤ M) → (∀ i, i < t → G i ≤ M) → ∀ i, i < k → mrg G k m t F i ≤ M) ∧ srt (mrg G k m t F) k := by
  intro k
  induction k with
  | zero =>
    intro m t F h _ _
    obtain rfl : m = 0 := by omega
    obtain rfl : t = 0 := by omega
    exact ⟨fun _ _ => rfl, fun _ => rfl, fun _ _ _ i hi => by omega, fun i j _ hj => by omega⟩
  | succ k ih =>
    intro m t F h hF hG
    by_cases ht : t = 0
    · subst ht
      rw [mrg_0]
      obtain rfl : m = k + 1 := by omega
      exact ⟨fun _ _ => rfl, fun _ => rfl, fun M h1 _ i hi => h1 i hi, hF⟩
    · have hGt : ∀ i, i < t → G i ≤ G (t - 1) := fun i hi => hG i (t - 1) (by omega) (by omega)
      by_cases hc : 0 < m ∧ G (t - 1) < F (m - 1)
      · rw [mrg_a ht hc]
        have hF' : ∀ i, i < m - 1 → va_up F k (F (m - 1)) i = F i := fun i hi => va_up_ne _ _ (by omega)
        obtain ⟨a1, a2, a3, a4⟩ := ih (m - 1) t (va_up F k (F (m - 1))) (by omega) (fun i j h1 h2 => by rw [hF' i (by omega), hF' j h2]; exact hF i j h1 (by omega)) hG
        have hk : mrg G k (m - 1) t (va_up F k (F (m - 1))) k = F (m - 1) := by rw [a1 k (Nat.le_refl _), va_up_self]
        have hle := a3 (F (m - 1)) (fun i hi => by rw [hF' i hi]; exact hF i (m - 1) (by omega) (by omega)) (fun i hi => by have := hGt i hi; omega)
        refine ⟨fun i hi => by rw [a1 i (by omega), va_up_ne _ _ (by omega)], fun v => ?_, fun M h1 h2 i hi => ?_, fun i j h1 h2 => ?_⟩
        · show lo _ v k + (if _ < v then 1 else 0) = _
          rw [hk, a2 v, lo_cong hF']
          have e : lo F v m = lo F v (m - 1) + (if F (m - 1) < v then 1 else 0) := by
            obtain ⟨m', rfl⟩ : ∃ m', m = m' + 1 := ⟨m - 1, by omega⟩
            rfl
          omega
        · by_cases e : i = k
          · rw [e, hk]; exact h1 (m - 1) (by omega)
          · exact a3 M (fun q hq => by rw [hF' q hq]; exact h1 q (by omega)) h2 i (by omega)
        · by_cases e : j = k
          · rw [e, hk]
            by_cases e2 : i = k
            · rw [e2, hk]; exact Nat.le_refl _
            · exact hle i (by omega)
          · exact a4 i j h1 (by omega)
      · rw [mrg_b ht hc]
        have hF' : ∀ i, i < m → va_up F k (G (t - 1)) i = F i := fun i hi => va_up_ne _ _ (by omega)
        obtain ⟨a1, a2, a3, a4⟩ := ih m (t - 1) (va_up F k (G (t - 1))) (by omega) (fun i j h1 h2 => by rw [hF' i (by omega), hF' j h2]; exact hF i j h1 h2) (fun i j h1 h2 => hG i j h1 (by omega))
        have hk : mrg G k m (t - 1) (va_up F k (G (t - 1))) k = G (t - 1) := by rw [a1 k (Nat.le_refl _), va_up_self]
        have hle := a3 (G (t - 1)) (fun i hi => by
          rw [hF' i hi]
          have h9 := hF i (m - 1) (by omega) (by omega)
          have h8 : ¬ G (t - 1) < F (m - 1) := fun h7 => hc ⟨by omega, h7⟩
          omega) (fun i hi => hGt i (by omega))
        refine ⟨fun i hi => by rw [a1 i (by omega), va_up_ne _ _ (by omega)], fun v => ?_, fun M h1 h2 i hi => ?_, fun i j h1 h2 => ?_⟩
        · show lo _ v k + (if _ < v then 1 else 0) = _
          rw [hk, a2 v, lo_cong hF']
          have e : lo G v t = lo G v (t - 1) + (if G (t - 1) < v then 1 else 0) := by
            obtain ⟨t', rfl⟩ : ∃ t', t = t' + 1 := ⟨t - 1, by omega⟩
            rfl
          omega
        · by_cases e : i = k
          · rw [e, hk]; exact h2 (t - 1) (by omega)
          · exact a3 M (fun q hq => by rw [hF' q hq]; exact h1 q hq) (fun q hq => h2 q (by omega)) i (by omega)
        · by_cases e : j = k
          · rw [e, hk]
            by_cases e2 : i = k
            · rw [e2, hk]; exact Nat.le_refl _
            · exact hle i (by omega)
          · exact a4 i j h1 (by omega)
/-- inserted one by one -/
def itI (f : Nat → Nat) (n : Nat) (g : Nat → Nat) : Nat → Nat → Nat
  | 0 => f
  | k + 1 => insF (itI f n g k) (n + k) (g k)
theorem itI_spec {f g : Nat → Nat} {n : Nat} (hf : srt f n) : ∀ k, srt (itI f n g k) (n + k) ∧ (∀ v, lo (itI f n g k) v (n + k) = lo f v n + lo g v k) ∧ (∀ M, (∀ i, i < n → f i < M) → (∀ i, i < k → g i < M) → ∀ i, i < n + k → itI f n g k i < M) := by
  intro k
  induction k with
  | zero => exact ⟨hf, fun _ => rfl, fun M h1 _ i hi => h1 i hi⟩
  | succ k ih =>
    obtain ⟨a1, a2, a3⟩ := ih
    refine ⟨insF_srt a1, fun v => ?_, fun M h1 h2 i hi => ?_⟩
    · show lo (insF (itI f n g k) (n + k) (g k)) v (n + k + 1) = lo f v n + (lo g v k + (if g k < v then 1 else 0))
      rw [lo_insF, a2 v]
      omega
    · exact insF_lt (a3 M h1 (fun i hi => h2 i (by omega))) (h2 k (by omega)) i hi
theorem mrg_it {f g : Nat → Nat} {n n2 : Nat} (hf : srt f n) (hg : srt g n2) : ∀ i, i < n + n2 → itI f n g n2 i = mrg g (n + n2) n n2 f i := by
  obtain ⟨-, b2, -, b4⟩ := mrg_spec (n + n2) n n2 f rfl hf hg
  obtain ⟨a1, a2, -⟩ := itI_spec (g := g) hf n2
  exact srt_ext a1 b4 (fun v => by rw [a2 v, b2 v])
theorem itI_two {f : Nat → Nat} {n : Nat} (hf : srt f n) {k : Nat} (hk : k < n) : itI f n f k (2 * k) = f k := by
  obtain ⟨a1, a2, -⟩ := itI_spec (g := f) hf k
  have key : ∀ v, itI f n f k (2 * k) < v ↔ f k < v := by
    intro v
    rw [lo_iff a1 (2 * k) (by omega), a2 v]
    constructor
    · intro h
      rcases Nat.lt_or_ge (f k) v with h1 | h1
      · exact h1
      · exfalso
        have h2 : lo f v n ≤ k := by
          rcases Nat.lt_or_ge k (lo f v n) with h9 | h9
          · have := (lo_iff hf k hk).mpr h9; omega
          · exact h9
        have h3 := lo_le f v k
        omega
    · intro h
      have h1 := (lo_iff hf k hk).mp h
      have h2 : lo f v k = k := by
        rcases Nat.lt_or_ge (lo f v k) k with h9 | h9
        · have hk2 : srt f k := fun i j a b => hf i j a (by omega)
          have h8 := lo_ge (v := v) hk2 h9 (Nat.le_refl _)
          have h7 := hf (lo f v k) k (by omega) hk
          omega
        · have := lo_le f v k; omega
      omega
  rcases Nat.lt_trichotomy (itI f n f k (2 * k)) (f k) with h | h | h
  · have := (key (f k)).mp h; omega
  · exact h
  · have := (key (itI f n f k (2 * k))).mpr h; omega
theorem okR_mrg {A B n n2 : Nat} {f g : Nat → Nat} (h : okR A B n f) (h2 : okR A B n2 g) (hn : n + n2 ≤ 2 ^ A) : okR A B (n + n2) (mrg g (n + n2) n n2 f) := by
  obtain ⟨a1, a2, a3, a4, a5, a6, a7⟩ := h
  obtain ⟨-, -, -, -, -, c6, c7⟩ := h2
  obtain ⟨-, -, b3, b4⟩ := mrg_spec (n + n2) n n2 f rfl a6 c6
  have hp := Nat.two_pow_pos (A + B)
  refine ⟨a1, a2, a3, a4, hn, b4, fun i hi => ?_⟩
  have := b3 (2 ^ (A + B) - 1) (fun i hi => by have := a7 i hi; omega) (fun i hi => by have := c7 i hi; omega) i hi
  omega
/-! one bit over -/
theorem enc_grow {B v : Nat} (hB1 : 1 ≤ B) : (2 * (v / 2 ^ B) + v % 2 ^ B / 2 ^ (B - 1) % 2) * 2 ^ 20 + v % 2 ^ B % 2 ^ (B - 1) = enc (B - 1) v := by
  obtain ⟨b, rfl⟩ : ∃ b, B = b + 1 := ⟨B - 1, by omega⟩
  rw [Nat.add_sub_cancel]
  unfold enc
  have hp := Nat.two_pow_pos b
  have e1 : v % 2 ^ (b + 1) % 2 ^ b = v % 2 ^ b := Nat.mod_mod_of_dvd _ (Nat.pow_dvd_pow 2 (by omega))
  have e2 : 2 * (v / 2 ^ (b + 1)) + v % 2 ^ (b + 1) / 2 ^ b % 2 = v / 2 ^ b := by
    have e3 : v % 2 ^ (b + 1) / 2 ^ b = v / 2 ^ b % 2 := by rw [Nat.pow_succ, Nat.mod_mul_right_div_self]
    have e4 : v / 2 ^ (b + 1) = v / 2 ^ b / 2 := by rw [Nat.pow_succ, Nat.div_div_eq_div_mul]
    rw [e3, e4]
    omega
  rw [e1, e2]
theorem okR_grow {A B n : Nat} {f : Nat → Nat} (h : okR A B n f) (h8 : A + 1 ≤ 8) (h4 : 4 ≤ B - 1) : okR (A + 1) (B - 1) n f := by
  obtain ⟨a1, a2, a3, a4, a5, a6, a7⟩ := h
  refine ⟨by omega, h8, h4, by omega, ?_, a6, fun i hi => ?_⟩
  · have := Nat.pow_le_pow_right (show 0 < 2 by decide) (show A ≤ A + 1 by omega)
    omega
  · rw [show A + 1 + (B - 1) = A + B by omega]
    exact a7 i hi
