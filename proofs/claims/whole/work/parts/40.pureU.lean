/-! both sides' figures, compared -/
theorem PicM.cong {i : Nat} {S : FS} {ki ka kb ki2 ka2 kb2 : Nat → Nat} {zs pu zs2 pu2 : Nat → Int32} {ce pa ce2 pa2 : Nat → Nat} (h : PicM i S ki ka kb zs pu ce pa) (e1 : ki2 i = ki i) (e2 : ka2 i = ka i) (e3 : kb2 i = kb i) (e4 : zs2 i = zs i) (e5 : pu2 i = pu i)
    (e6 : ∀ q, q < 1024 → ce2 (1024 * i + q) = ce (1024 * i + q)) (e7 : ∀ q, q < 256 → pa2 (256 * i + q) = pa (256 * i + q)) (hn : okS S) : PicM i S ki2 ka2 kb2 zs2 pu2 ce2 pa2 := by
  obtain ⟨kd, A, B, hd, pv, cs, n, f⟩ := S
  obtain ⟨h1, h2, h3, h4, h5, h6⟩ := h
  refine ⟨e1.trans h1, fun h => ?_, fun h j hj => ?_, fun h => e5.trans (h4 h), fun h q hq => ?_, fun j hj => ?_⟩
  · rw [e2, e3, e4]; exact h2 h
  · show ce2 (1024 * i + j) = cs j
    rw [e6 j hj]; exact h3 h j hj
  · subst h
    have := (okS_3.mp hn).1.n
    rw [e7 q (by omega)]; exact h5 rfl q hq
  · show pa2 (256 * i + j) < 2 ^ 28
    rw [e7 j hj]; exact h6 j hj
theorem stO_off {N i j q : Nat} {c d : Nat → Nat} (h : i ≠ j) (hq : q < N) (hN : N = 1024 ∨ N = 256) : stO N c (N * j) d (N * i + q) = c (N * i + q) := by
  refine stO_ne ?_
  rcases hN with rfl | rfl <;> omega
theorem upd_ne {f : Nat → Int32} {i j : Nat} {v : Int32} (h : i ≠ j) : upd f j v i = f i := by simp [upd, h]
theorem upd_eq {f : Nat → Int32} {j : Nat} {v : Int32} : upd f j v j = v := by simp [upd]
/-- two rows of slots that agree -/
def agr (f g : Nat → Nat) : Prop := ∀ j, j < 1024 → f j = g j
theorem agr.up {f g : Nat → Nat} (h : agr f g) (k v : Nat) : agr (va_up f k v) (va_up g k v) := va_up_cong h
theorem fitA_agr {A B : Nat} {x : Int64} {f g : Nat → Nat} (hA : A ≤ 10) (h : agr f g) : allN (fitA f (plx A x) B) B = allN (fitA g (plx A x) B) B :=
  allN_congr fun i hi => by unfold fitA; rw [h _ (plx_lt hA x i)]
theorem fitS_agr {A B : Nat} {x : Int64} {f g : Nat → Nat} (hA : A ≤ 10) (h : agr f g) : allN (fitS f (plx A x) B) B = allN (fitS g (plx A x) B) B :=
  allN_congr fun i hi => by unfold fitS; rw [h _ (plx_lt hA x i)]
theorem isC_agr {A B : Nat} {x : Int64} {f g : Nat → Nat} (hA : A ≤ 10) (h : agr f g) : allN (isC f (plx A x)) B = allN (isC g (plx A x)) B :=
  allN_congr fun i hi => by unfold isC; rw [h _ (plx_lt hA x i)]
theorem addC_agr {r : Nat → Nat} {n : Nat} {f g : Nat → Nat} (h : agr f g) : agr (addC f r n) (addC g r n) := fun j hj => by unfold addC; rw [h j hj]
theorem subC_agr {r : Nat → Nat} {n : Nat} {f g : Nat → Nat} (h : agr f g) : agr (subC f r n) (subC g r n) := fun j hj => by unfold subC; rw [h j hj]
theorem fnd_agr {f g : Nat → Nat} {v b n : Nat} (h : agr f g) (hb : b + n ≤ 1024) : fnd f v b n = fnd g v b n := fnd_congr fun j _ h2 => h j (by omega)
theorem psh_agr {A : Nat} (hA : A ≤ 8) : ∀ (n k at_ hand : Nat) (f g : Nat → Nat), agr f g → at_ < 2 ^ A → (psh A n k at_ hand f).2 = (psh A n k at_ hand g).2 ∧ (psh A n k at_ hand f).1.isSome = (psh A n k at_ hand g).1.isSome ∧ agr ((psh A n k at_ hand f).1.getD f) ((psh A n k at_ hand g).1.getD g) := by
  have h8 := p2_le hA
  have key : ∀ (n k at_ hand : Nat) (f g : Nat → Nat), agr f g → at_ < 2 ^ A → (psh A n k at_ hand f).2 = (psh A n k at_ hand g).2 ∧ (((psh A n k at_ hand f).1 = none ∧ (psh A n k at_ hand g).1 = none) ∨ ∃ r s, (psh A n k at_ hand f).1 = some r ∧ (psh A n k at_ hand g).1 = some s ∧ agr r s) := by
    intro n
    induction n with
    | zero => intro k at_ hand f g h _; exact ⟨rfl, Or.inl ⟨rfl, rfl⟩⟩
    | succ n ih =>
      intro k at_ hand f g h hat
      have e0 : f (4 * at_ + k % 4) = g (4 * at_ + k % 4) := h _ (by omega)
      have hu := h.up (4 * at_ + k % 4) hand
      have hob := obN_lt hat (g (4 * at_ + k % 4))
      have e1 : fnd (va_up f (4 * at_ + k % 4) hand) 0 (4 * obN A at_ (f (4 * at_ + k % 4))) 4 = fnd (va_up g (4 * at_ + k % 4) hand) 0 (4 * obN A at_ (g (4 * at_ + k % 4))) 4 := by
        rw [e0]; exact fnd_agr hu (by omega)
      cases e : fnd (va_up g (4 * at_ + k % 4) hand) 0 (4 * obN A at_ (g (4 * at_ + k % 4))) 4 with
      | some j =>
        rw [psh_s (e1.trans e), psh_s e]
        exact ⟨rfl, Or.inr ⟨_, _, rfl, rfl, by rw [e0]; exact hu.up _ _⟩⟩
      | none =>
        rw [psh_n (e1.trans e), psh_n e, e0]
        exact ih _ _ _ _ _ hu hob
  intro n k at_ hand f g h hat
  obtain ⟨h1, h2⟩ := key n k at_ hand f g h hat
  refine ⟨h1, ?_⟩
  rcases h2 with ⟨h2, h3⟩ | ⟨r, s, h2, h3, h4⟩
  · rw [h2, h3]; exact ⟨rfl, h⟩
  · rw [h2, h3]; exact ⟨rfl, h4⟩
theorem putB_agr {A B : Nat} (hA : A ≤ 8) {x : Int64} {f g : Nat → Nat} (h : agr f g) : (putB A B x f).2 = (putB A B x g).2 ∧ (putB A B x f).1.isSome = (putB A B x g).1.isSome ∧ agr ((putB A B x f).1.getD f) ((putB A B x g).1.getD g) := by
  have h8 := p2_le hA
  have h1 := fbN_lt A x
  have h2 := obN_lt h1 (fpN B x)
  have e1 : fnd f 0 (4 * fbN A x) 4 = fnd g 0 (4 * fbN A x) 4 := fnd_agr h (by omega)
  have e2 : fnd f 0 (4 * obN A (fbN A x) (fpN B x)) 4 = fnd g 0 (4 * obN A (fbN A x) (fpN B x)) 4 := fnd_agr h (by omega)
  cases e : fnd g 0 (4 * fbN A x) 4 with
  | some j => rw [putB_1 (e1.trans e), putB_1 e]; exact ⟨rfl, rfl, h.up _ _⟩
  | none =>
    cases e3 : fnd g 0 (4 * obN A (fbN A x) (fpN B x)) 4 with
    | some j => rw [putB_2 (e1.trans e) (e2.trans e3), putB_2 e e3]; exact ⟨rfl, rfl, h.up _ _⟩
    | none => rw [putB_3 (e1.trans e) (e2.trans e3), putB_3 e e3]; exact psh_agr hA 64 0 _ _ f g h h2
theorem slotB_agr {A B : Nat} (hA : A ≤ 8) {x : Int64} {f g : Nat → Nat} (h : agr f g) : slotB A B x f = slotB A B x g := by
  have h8 := p2_le hA
  have h1 := fbN_lt A x
  have h2 := obN_lt h1 (fpN B x)
  have e1 : fnd f (fpN B x) (4 * fbN A x) 4 = fnd g (fpN B x) (4 * fbN A x) 4 := fnd_agr h (by omega)
  have e2 : fnd f (fpN B x) (4 * obN A (fbN A x) (fpN B x)) 4 = fnd g (fpN B x) (4 * obN A (fbN A x) (fpN B x)) 4 := fnd_agr h (by omega)
  cases e : fnd g (fpN B x) (4 * fbN A x) 4 with
  | some j => rw [slotB_1 (e1.trans e), slotB_1 e]
  | none => rw [slotB_2 (e1.trans e), slotB_2 e, e2]
theorem tkB_agr {A B : Nat} (hA : A ≤ 8) {x : Int64} {f g : Nat → Nat} (h : agr f g) : agr (tkB A B x f) (tkB A B x g) := by
  cases e : slotB A B x g with
  | some j => rw [tkB_s ((slotB_agr hA h).trans e), tkB_s e]; exact h.up _ _
  | none => rw [tkB_n ((slotB_agr hA h).trans e), tkB_n e]; exact h
/-! pairs in the reference's spelling -/
theorem enc_mono {B a b : Nat} (hB : B ≤ 20) (h : a < b) : enc B a < enc B b := by
  have h1 : a % 2 ^ B < 2 ^ B := Nat.mod_lt _ (Nat.two_pow_pos B)
  have h2 : 2 ^ B ≤ 2 ^ 20 := p2_le hB
  have h3 := Nat.div_add_mod a (2 ^ B)
  have h4 := Nat.div_add_mod b (2 ^ B)
  have h5 : a / 2 ^ B ≤ b / 2 ^ B := Nat.div_le_div_right (Nat.le_of_lt h)
  unfold enc
  rcases Nat.lt_or_ge (a / 2 ^ B) (b / 2 ^ B) with h6 | h6
  · have h7 : (a / 2 ^ B + 1) * 2 ^ 20 ≤ b / 2 ^ B * 2 ^ 20 := Nat.mul_le_mul_right _ h6
    rw [Nat.add_mul, Nat.one_mul] at h7
    omega
  · have h7 : a / 2 ^ B = b / 2 ^ B := Nat.le_antisymm h5 h6
    rw [h7] at h3 ⊢
    omega
theorem enc_lti {B a b : Nat} (hB : B ≤ 20) : enc B a < enc B b ↔ a < b := by
  constructor
  · intro h
    rcases Nat.lt_trichotomy a b with h1 | h1 | h1
    · exact h1
    · rw [h1] at h; omega
    · have := enc_mono hB h1; omega
  · exact enc_mono hB
theorem enc_lei {B a b : Nat} (hB : B ≤ 20) : enc B a ≤ enc B b ↔ a ≤ b := by
  rw [← Nat.not_lt, ← Nat.not_lt, enc_lti hB]
theorem enc_inj {B a b : Nat} (hB : B ≤ 20) : enc B a = enc B b ↔ a = b := by
  constructor
  · intro h
    have h1 : a ≤ b := (enc_lei hB).mp (by omega)
    have h2 : b ≤ a := (enc_lei hB).mp (by omega)
    omega
  · intro h; rw [h]
/-- a rising row with v in it, place by place -/
def insG (f : Nat → Nat) (n v i : Nat) : Nat := if i < n ∧ f i ≤ v then f i else if i = 0 ∨ f (i - 1) ≤ v then v else f (i - 1)
theorem insF_G {f : Nat → Nat} {n v i : Nat} (hs : srt f n) (hi : i ≤ n) : insF f n v i = insG f n v i := by
  have hl := lo_le f v n
  rw [insF_at hi]
  unfold insG
  by_cases h1 : i < lo f v n
  · rw [if_pos h1, if_pos ⟨by omega, Nat.le_of_lt (lo_lt hs h1)⟩]
  · rw [if_neg h1]
    by_cases h2 : i = lo f v n
    · rw [if_pos h2]
      by_cases h3 : i < n ∧ f i ≤ v
      · rw [if_pos h3]
        exact (Nat.le_antisymm h3.2 (lo_ge hs h3.1 (by omega))).symm
      · rw [if_neg h3]
        by_cases h4 : i = 0
        · rw [if_pos (Or.inl h4)]
        · rw [if_pos (Or.inr (Nat.le_of_lt (lo_lt hs (by omega))))]
    · rw [if_neg h2]
      have h5 : v ≤ f (i - 1) := lo_ge hs (by omega) (by omega)
      by_cases h3 : i < n ∧ f i ≤ v
      · rw [if_pos h3]
        have h6 := hs (i - 1) i (by omega) h3.1
        omega
      · rw [if_neg h3]
        by_cases h4 : i = 0 ∨ f (i - 1) ≤ v
        · rw [if_pos h4]
          rcases h4 with h4 | h4
          · omega
          · omega
        · rw [if_neg h4]
theorem insR_G {v : Nat} : ∀ (k : Nat) (F : Nat → Nat), srt F k → ∀ i, insR v k F i = if i ≤ k then insG F k v i else F i := by
  intro k
  induction k with
  | zero =>
    intro F _ i
    show va_up F 0 v i = _
    by_cases h : i = 0
    · subst h
      rw [va_up_self, if_pos (Nat.le_refl _)]
      unfold insG
      rw [if_neg (by omega), if_pos (Or.inl rfl)]
    · rw [va_up_ne _ _ h, if_neg (by omega)]
  | succ k ih =>
    intro F hs i
    by_cases hv : v < F k
    · rw [insR_t hv, ih (va_up F (k + 1) (F k)) (fun a b h1 h2 => by rw [va_up_ne _ _ (by omega), va_up_ne _ _ (by omega)]; exact hs a b h1 (by omega)) i]
      by_cases h1 : i ≤ k
      · rw [if_pos h1, if_pos (by omega)]
        unfold insG
        rw [va_up_ne _ _ (by omega), va_up_ne _ _ (show i - 1 ≠ k + 1 by omega)]
        by_cases h2 : i < k
        · simp only [h2, show i < k + 1 by omega, true_and]
        · obtain rfl : i = k := by omega
          rw [if_neg (by omega), if_neg (show ¬ (i < i + 1 ∧ F i ≤ v) by omega)]
      · rw [if_neg h1]
        by_cases h2 : i = k + 1
        · subst h2
          rw [va_up_self, if_pos (Nat.le_refl _)]
          unfold insG
          rw [if_neg (by omega), if_neg (by rw [Nat.add_sub_cancel]; omega), Nat.add_sub_cancel]
        · rw [va_up_ne _ _ h2, if_neg (by omega)]
    · rw [insR_f hv]
      by_cases h2 : i = k + 1
      · subst h2
        rw [va_up_self, if_pos (Nat.le_refl _)]
        unfold insG
        rw [if_neg (by omega), if_pos (Or.inr (by rw [Nat.add_sub_cancel]; omega))]
      · rw [va_up_ne _ _ h2]
        by_cases h3 : i ≤ k + 1
        · rw [if_pos h3]
          unfold insG
          rw [if_pos ⟨by omega, Nat.le_trans (hs i k (by omega) (by omega)) (by omega)⟩]
        · rw [if_neg h3]
theorem srt_enc {B n : Nat} {f g : Nat → Nat} (hB : B ≤ 20) (hs : srt f n) (h : ∀ i, i < n → g i = enc B (f i)) : srt g n := fun i j h1 h2 => by
  rw [h i (by omega), h j h2]
  exact (enc_lei hB).mpr (hs i j h1 h2)
theorem ins_enc {B n v : Nat} {f g : Nat → Nat} (hB : B ≤ 20) (hs : srt f n) (h : ∀ i, i < n → g i = enc B (f i)) : ∀ i, i ≤ n → insR (enc B v) n g i = enc B (insF f n v i) := by
  intro i hi
  rw [insR_G n g (srt_enc hB hs h) i, if_pos hi, insF_G hs hi]
  unfold insG
  by_cases h1 : i < n ∧ f i ≤ v
  · rw [if_pos h1, if_pos ⟨h1.1, by rw [h i h1.1]; exact (enc_lei hB).mpr h1.2⟩, h i h1.1]
  · rw [if_neg h1, if_neg (fun h9 => h1 ⟨h9.1, (enc_lei hB).mp (by rw [← h i h9.1]; exact h9.2)⟩)]
    by_cases h2 : i = 0
    · rw [if_pos (Or.inl h2), if_pos (Or.inl h2)]
    · rw [h (i - 1) (by omega)]
      by_cases h3 : f (i - 1) ≤ v
      · rw [if_pos (Or.inr h3), if_pos (Or.inr ((enc_lei hB).mpr h3))]
      · rw [if_neg (by rw [enc_lei hB]; omega), if_neg (by omega)]
/-- looked for from the front -/
theorem fnd_lo {f : Nat → Nat} {v n : Nat} (hs : srt f n) : fnd f v 0 n = if inF f n v then some (lo f v n) else none := by
  have hl := lo_le f v n
  have key : ∀ (k b : Nat), b + k = n → b ≤ lo f v n → fnd f v b k = if inF f n v then some (lo f v n) else none := by
    intro k
    induction k with
    | zero =>
      intro b hb hbl
      have : lo f v n = n := by omega
      show none = _
      unfold inF
      rw [decide_eq_false (show ¬ lo f v n < n by omega)]
      rfl
    | succ k ih =>
      intro b hb hbl
      by_cases e : f b = v
      · rw [fnd_t e]
        have h1 : b = lo f v n := by
          rcases Nat.lt_or_ge b (lo f v n) with h9 | h9
          · have := lo_lt hs h9; omega
          · omega
        unfold inF
        rw [← h1, decide_eq_true (show b < n by omega), decide_eq_true e]
        rfl
      · rw [fnd_f e]
        rcases Nat.lt_or_ge b (lo f v n) with h9 | h9
        · exact ih (b + 1) (by omega) (by omega)
        · have h1 : b = lo f v n := by omega
          have h2 : inF f n v = false := by
            unfold inF
            rw [← h1, decide_eq_false e]
            simp
          rw [h2]
          have h3 : v < f b := Nat.lt_of_le_of_ne (lo_ge hs (by omega) h9) (fun h => e h.symm)
          clear ih
          have h4 : ∀ (k b' : Nat), b' + k = n → b ≤ b' → fnd f v b' k = none := by
            intro k
            induction k with
            | zero => intro _ _ _; rfl
            | succ k ih2 =>
              intro b' h5 h6
              rw [fnd_f (fun h7 => by have := hs b b' h6 (by omega); omega)]
              exact ih2 (b' + 1) (by omega) (by omega)
          exact h4 k (b + 1) (by omega) (by omega)
  exact key n 0 (by omega) (Nat.zero_le _)
theorem fnd_enc {B n v : Nat} {f g : Nat → Nat} (hB : B ≤ 20) (h : ∀ i, i < n → g i = enc B (f i)) : ∀ k b, b + k = n → fnd g (enc B v) b k = fnd f v b k := by
  intro k
  induction k with
  | zero => intro b _; rfl
  | succ k ih =>
    intro b hb
    by_cases e : f b = v
    · rw [fnd_t e, fnd_t (by rw [h b (by omega), e])]
    · rw [fnd_f e, fnd_f (fun h9 => e ((enc_inj hB).mp (by rw [← h b (by omega)]; exact h9))), ih (b + 1) (by omega)]
theorem has_enc {B n v : Nat} {f g : Nat → Nat} (hB : B ≤ 20) (hs : srt f n) (h : ∀ i, i < n → g i = enc B (f i)) : fnd g (enc B v) 0 n = if inF f n v then some (lo f v n) else none := by
  rw [fnd_enc hB h n 0 (by omega), fnd_lo hs]
/-! counters behind 2^A are 0 -/
theorem posN_tail {c : Nat → Nat} {a : Nat} : ∀ {b : Nat}, a ≤ b → (∀ j, a ≤ j → j < b → c j = 0) → posN c b = posN c a := by
  intro b
  induction b with
  | zero => intro h _; rw [show a = 0 by omega]
  | succ b ih =>
    intro h hz
    by_cases e : a = b + 1
    · rw [e]
    · rw [posN_f (by rw [hz b (by omega) (by omega)]; omega), ih (by omega) (fun j h1 h2 => hz j h1 (by omega))]
theorem maxN_tail {c : Nat → Nat} {a : Nat} : ∀ {b : Nat}, a ≤ b → (∀ j, a ≤ j → j < b → c j = 0) → maxN c b = maxN c a := by
  intro b
  induction b with
  | zero => intro h _; rw [show a = 0 by omega]
  | succ b ih =>
    intro h hz
    by_cases e : a = b + 1
    · rw [e]
    · show (if maxN c b < c b then c b else maxN c b) = _
      rw [if_neg (by rw [hz b (by omega) (by omega)]; omega), ih (by omega) (fun j h1 h2 => hz j h1 (by omega))]
theorem posN_agr {f g : Nat → Nat} {n : Nat} (h : ∀ j, j < n → f j = g j) : posN f n = posN g n := by
  induction n with
  | zero => rfl
  | succ n ih =>
    show posN f n + (if 0 < f n then 1 else 0) = posN g n + (if 0 < g n then 1 else 0)
    rw [ih (fun j hj => h j (by omega)), h n (by omega)]
theorem maxN_agr {f g : Nat → Nat} {n : Nat} (h : ∀ j, j < n → f j = g j) : maxN f n = maxN g n := by
  induction n with
  | zero => rfl
  | succ n ih =>
    show (if maxN f n < f n then f n else maxN f n) = (if maxN g n < g n then g n else maxN g n)
    rw [ih (fun j hj => h j (by omega)), h n (by omega)]
