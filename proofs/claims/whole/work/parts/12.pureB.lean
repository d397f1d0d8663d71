theorem wb_tb (n : Nat) : (lN n).toBitVec = BitVec.ofNat 64 n := rfl
theorem wb_inj {a b : Int64} (h : a.toBitVec = b.toBitVec) : a = b := Int64.toBitVec_inj.mp h
theorem wb_tn {n : Nat} (h : n < 2 ^ 64) : (lN n).toBitVec.toNat = n := by rw [wb_tb, BitVec.toNat_ofNat, Nat.mod_eq_of_lt h]
theorem wb_of (x : Int64) : ∃ n, n < 2 ^ 64 ∧ x = lN n := ⟨x.toBitVec.toNat, x.toBitVec.isLt, wb_inj (by rw [wb_tb]; simp)⟩
theorem wb_of32 (x : Int32) : ∃ n, n < 2 ^ 32 ∧ x = nI n := ⟨x.toBitVec.toNat, x.toBitVec.isLt, Int32.toBitVec_inj.mp (by show _ = BitVec.ofNat 32 _; simp)⟩
theorem wb_c : ∀ k, k < 64 → ((nI k).toInt64 &&& 63) = lN k := by decide +kernel
theorem wb_cu : ∀ k, k < 64 → ((nI k).toInt64.toUInt64 &&& Int64.toUInt64 63) = UInt64.ofNat k := by decide +kernel
theorem wb_sm : ∀ k, k < 64 → (BitVec.ofNat 64 k).smod 64 = BitVec.ofNat 64 k := by decide +kernel
theorem wb_pw {a b : Nat} (h : a ≤ b) : 2 ^ b = 2 ^ a * 2 ^ (b - a) := by rw [← Nat.pow_add]; congr 1; omega
theorem wb_lt2 {a b : Nat} (h : a < b) : 2 ^ a < 2 ^ b := Nat.pow_lt_pow_right (by decide) h
theorem wb_mod (n : Nat) : lN n = lN (n % 2 ^ 64) := wb_inj (by rw [wb_tb, wb_tb]; apply BitVec.eq_of_toNat_eq; rw [BitVec.toNat_ofNat, BitVec.toNat_ofNat, Nat.mod_mod])
theorem wb_shr {n k : Nat} (hn : n < 2 ^ 64) (hk : k < 64) : ((lN n).toUInt64 >>> ((nI k).toInt64.toUInt64 &&& Int64.toUInt64 63)).toInt64 = lN (n / 2 ^ k) := by
  rw [wb_cu k hk]
  apply wb_inj
  apply BitVec.eq_of_toNat_eq
  show ((lN n).toUInt64 >>> UInt64.ofNat k).toNat = (BitVec.ofNat 64 _).toNat
  have h1 : (UInt64.ofNat k).toNat = k := by
    show (BitVec.ofNat 64 k).toNat = k
    rw [BitVec.toNat_ofNat, Nat.mod_eq_of_lt (by omega)]
  have h2 : (lN n).toUInt64.toNat = n := wb_tn hn
  rw [UInt64.toNat_shiftRight, h1, h2, Nat.mod_eq_of_lt hk, Nat.shiftRight_eq_div_pow, BitVec.toNat_ofNat, Nat.mod_eq_of_lt (Nat.lt_of_le_of_lt (Nat.div_le_self _ _) hn)]
theorem wb_shl (n : Nat) {k : Nat} (hk : k < 64) : lN n <<< ((nI k).toInt64 &&& 63) = lN (n * 2 ^ k) := by
  rw [wb_c k hk]
  apply wb_inj
  rw [Int64.toBitVec_shiftLeft, wb_tb, wb_tb, wb_tb, wb_sm k hk]
  apply BitVec.eq_of_toNat_eq
  rw [BitVec.shiftLeft_eq', BitVec.toNat_shiftLeft, BitVec.toNat_ofNat, BitVec.toNat_ofNat, BitVec.toNat_ofNat, Nat.mod_eq_of_lt (show k < 2 ^ 64 by omega), Nat.shiftLeft_eq, Nat.mul_mod, Nat.mod_mod, ← Nat.mul_mod]
theorem wb_and {a b : Nat} (ha : a < 2 ^ 64) (hb : b < 2 ^ 64) : lN a &&& lN b = lN (a &&& b) := by
  apply wb_inj
  rw [Int64.toBitVec_and, wb_tb, wb_tb, wb_tb]
  apply BitVec.eq_of_toNat_eq
  rw [BitVec.toNat_and, BitVec.toNat_ofNat, BitVec.toNat_ofNat, BitVec.toNat_ofNat, Nat.mod_eq_of_lt ha, Nat.mod_eq_of_lt hb, Nat.mod_eq_of_lt (Nat.and_lt_two_pow _ hb)]
theorem wb_or {a b : Nat} (ha : a < 2 ^ 64) (hb : b < 2 ^ 64) : lN a ||| lN b = lN (a ||| b) := by
  apply wb_inj
  rw [Int64.toBitVec_or, wb_tb, wb_tb, wb_tb]
  apply BitVec.eq_of_toNat_eq
  rw [BitVec.toNat_or, BitVec.toNat_ofNat, BitVec.toNat_ofNat, BitVec.toNat_ofNat, Nat.mod_eq_of_lt ha, Nat.mod_eq_of_lt hb, Nat.mod_eq_of_lt (Nat.or_lt_two_pow ha hb)]
theorem wb_mask {n k : Nat} (hn : n < 2 ^ 64) (hk : k < 64) : lN n &&& lN (2 ^ k - 1) = lN (n % 2 ^ k) := by
  rw [wb_and hn (by have := wb_lt2 hk; omega), Nat.and_two_pow_sub_one_eq_mod]
theorem wb_a1 {n : Nat} (hn : n < 2 ^ 64) : lN n &&& 1 = lN (n % 2) := wb_mask (k := 1) hn (by decide)
theorem wb_bit {n k : Nat} (hn : n < 2 ^ 64) (hk : k < 64) : ((lN n).toUInt64 >>> ((nI k).toInt64.toUInt64 &&& Int64.toUInt64 63)).toInt64 &&& 1 = lN (n / 2 ^ k % 2) := by
  rw [wb_shr hn hk, wb_a1 (Nat.lt_of_le_of_lt (Nat.div_le_self _ _) hn)]
theorem nx_xor (a b : Nat) : nI a ^^^ nI b = nI (a ^^^ b) := by
  apply Int32.toBitVec_inj.1
  show BitVec.ofNat 32 a ^^^ BitVec.ofNat 32 b = BitVec.ofNat 32 (a ^^^ b)
  apply BitVec.eq_of_getLsbD_eq
  intro i hi
  simp [hi]
theorem lN_self (z : Int64) : z = lN z.toBitVec.toNat := wb_inj (by rw [wb_tb]; simp)
theorem lshr_N (z : Int64) {k : Nat} (hk : k < 64) : lshr z (nI k) = lN (z.toBitVec.toNat / 2 ^ k) := by
  have h := wb_shr (n := z.toBitVec.toNat) z.toBitVec.isLt hk
  rw [← lN_self] at h
  exact h
/-- an item's fingerprint, its first bucket; a fingerprint's other bucket -/
def fpN (B : Nat) (x : Int64) : Nat := if mxN x (nI 0).toInt64 / 2 ^ (64 - B) = 0 then 1 else mxN x (nI 0).toInt64 / 2 ^ (64 - B)
def fbN (A : Nat) (x : Int64) : Nat := mxN x (nI 1).toInt64 % 2 ^ A
def obN (A k q : Nat) : Nat := k ^^^ (mxN (nI q).toInt64 (nI 2).toInt64 % 2 ^ A)
theorem hi_lt (x s : Int64) {B : Nat} (hB : B ≤ 64) : mxN x s / 2 ^ (64 - B) < 2 ^ B := by
  have h := mxN_lt x s
  rw [wb_pw (show 64 - B ≤ 64 by omega)] at h
  rw [Nat.div_lt_iff_lt_mul (Nat.two_pow_pos _)]
  rw [show 64 - (64 - B) = B by omega] at h
  rw [Nat.mul_comm]
  exact h
theorem fpN_lt {B : Nat} (h4 : 4 ≤ B) (hB : B ≤ 16) (x : Int64) : fpN B x < 65536 := by
  unfold fpN
  have h1 := hi_lt x (nI 0).toInt64 (show B ≤ 64 by omega)
  have h2 := p2_le hB
  split
  · decide
  · omega
theorem fpN_pos (B : Nat) (x : Int64) : 0 < fpN B x := by
  unfold fpN
  split
  · decide
  · rename_i e; exact Nat.pos_of_ne_zero e
theorem fbN_lt (A : Nat) (x : Int64) : fbN A x < 2 ^ A := Nat.mod_lt _ (Nat.two_pow_pos A)
theorem obN_lt {A k : Nat} (hk : k < 2 ^ A) (q : Nat) : obN A k q < 2 ^ A := Nat.xor_lt_two_pow hk (Nat.mod_lt _ (Nat.two_pow_pos A))
/-- the first of n places from b on that holds v -/
def fnd (f : Nat → Nat) (v : Nat) : Nat → Nat → Option Nat
  | _, 0 => none
  | b, n + 1 => if f b = v then some b else fnd f v (b + 1) n
theorem fnd_t {f : Nat → Nat} {v b n : Nat} (h : f b = v) : fnd f v b (n + 1) = some b := by simp [fnd, h]
theorem fnd_f {f : Nat → Nat} {v b n : Nat} (h : ¬ f b = v) : fnd f v b (n + 1) = fnd f v (b + 1) n := by simp [fnd, h]
theorem fnd_in {f : Nat → Nat} {v b n j : Nat} (h : fnd f v b n = some j) : b ≤ j ∧ j < b + n ∧ f j = v := by
  induction n generalizing b with
  | zero => cases h
  | succ n ih =>
    unfold fnd at h
    split at h
    · rename_i e; cases h; exact ⟨Nat.le_refl _, by omega, e⟩
    · obtain ⟨h1, h2, h3⟩ := ih h
      exact ⟨by omega, by omega, h3⟩
def oI (o : Option Nat) : Int32 := match o with
  | some j => nI j
  | none => -1
theorem oI_some {o : Option Nat} (h : ¬ oI o = -1) : ∃ j, o = some j := by
  cases o with
  | none => exact absurd rfl h
  | some j => exact ⟨j, rfl⟩
theorem oI_none {o : Option Nat} (hs : ∀ j, o = some j → j < 2 ^ 31) (h : oI o = -1) : o = none := by
  cases o with
  | none => rfl
  | some j =>
    have h1 : (nI j).toInt = (-1 : Int32).toInt := congrArg Int32.toInt h
    rw [nI_toInt (hs j rfl)] at h1
    have h2 : ((-1 : Int32).toInt) = -1 := by decide
    omega
/-- pushing: n turns left, k done; the slots then (none: full), and how many were pushed -/
def psh (A : Nat) : Nat → Nat → Nat → Nat → (Nat → Nat) → Option (Nat → Nat) × Nat
  | 0, k, _, _, _ => (none, k)
  | n + 1, k, at_, hand, sl =>
    match fnd (va_up sl (4 * at_ + k % 4) hand) 0 (4 * obN A at_ (sl (4 * at_ + k % 4))) 4 with
    | some j => (some (va_up (va_up sl (4 * at_ + k % 4) hand) j (sl (4 * at_ + k % 4))), k + 1)
    | none => psh A n (k + 1) (obN A at_ (sl (4 * at_ + k % 4))) (sl (4 * at_ + k % 4)) (va_up sl (4 * at_ + k % 4) hand)
theorem psh_s {A n k at_ hand j : Nat} {sl : Nat → Nat} (h : fnd (va_up sl (4 * at_ + k % 4) hand) 0 (4 * obN A at_ (sl (4 * at_ + k % 4))) 4 = some j) :
    psh A (n + 1) k at_ hand sl = (some (va_up (va_up sl (4 * at_ + k % 4) hand) j (sl (4 * at_ + k % 4))), k + 1) := by
  simp only [psh, h]
theorem psh_n {A n k at_ hand : Nat} {sl : Nat → Nat} (h : fnd (va_up sl (4 * at_ + k % 4) hand) 0 (4 * obN A at_ (sl (4 * at_ + k % 4))) 4 = none) :
    psh A (n + 1) k at_ hand sl = psh A n (k + 1) (obN A at_ (sl (4 * at_ + k % 4))) (sl (4 * at_ + k % 4)) (va_up sl (4 * at_ + k % 4) hand) := by
  simp only [psh, h]
/-- pushing back along a path -/
def bck (pt : Nat → Nat) : Nat → Nat → (Nat → Nat) → Nat → Nat
  | 0, _, sl => sl
  | i + 1, hand, sl => bck pt i (sl (pt i)) (va_up sl (pt i) hand)
theorem va_up_back (f : Nat → Nat) (k v : Nat) : va_up (va_up f k v) k (f k) = f := by
  funext j
  by_cases h : j = k
  · subst h; simp [va_up]
  · simp [va_up, h]
theorem bck_congr {pt pt' : Nat → Nat} {i hand : Nat} {sl : Nat → Nat} (h : ∀ j, j < i → pt j = pt' j) : bck pt i hand sl = bck pt' i hand sl := by
  induction i generalizing hand sl with
  | zero => rfl
  | succ i ih => unfold bck; rw [h i (by omega)]; exact ih (fun j hj => h j (by omega))
theorem bck_step {pt : Nat → Nat} {i j hand : Nat} {sl : Nat → Nat} : bck (va_up pt i j) (i + 1) (sl j) (va_up sl j hand) = bck pt i hand sl := by
  show bck (va_up pt i j) i ((va_up sl j hand) ((va_up pt i j) i)) (va_up (va_up sl j hand) ((va_up pt i j) i) (sl j)) = _
  rw [va_up_self, va_up_self, va_up_back]
  exact bck_congr (fun q hq => va_up_ne _ _ (by omega))
/-- adding to buckets -/
def putB (A B : Nat) (x : Int64) (sl : Nat → Nat) : Option (Nat → Nat) × Nat :=
  match fnd sl 0 (4 * fbN A x) 4 with
  | some j => (some (va_up sl j (fpN B x)), 0)
  | none =>
    match fnd sl 0 (4 * obN A (fbN A x) (fpN B x)) 4 with
    | some j => (some (va_up sl j (fpN B x)), 0)
    | none => psh A 64 0 (obN A (fbN A x) (fpN B x)) (fpN B x) sl
/-- the slot of an item -/
def slotB (A B : Nat) (x : Int64) (sl : Nat → Nat) : Option Nat :=
  match fnd sl (fpN B x) (4 * fbN A x) 4 with
  | some j => some j
  | none => fnd sl (fpN B x) (4 * obN A (fbN A x) (fpN B x)) 4
theorem slotB_1 {A B j : Nat} {x : Int64} {sl : Nat → Nat} (h : fnd sl (fpN B x) (4 * fbN A x) 4 = some j) : slotB A B x sl = some j := by simp only [slotB, h]
theorem slotB_2 {A B : Nat} {x : Int64} {sl : Nat → Nat} (h : fnd sl (fpN B x) (4 * fbN A x) 4 = none) : slotB A B x sl = fnd sl (fpN B x) (4 * obN A (fbN A x) (fpN B x)) 4 := by simp only [slotB, h]
theorem slotB_in {A B j : Nat} {x : Int64} {sl : Nat → Nat} (hA : A ≤ 8) (h : slotB A B x sl = some j) : j < 1024 ∧ sl j = fpN B x := by
  have hp := p2_le hA
  have h1 := fbN_lt A x
  have h2 := obN_lt h1 (fpN B x)
  cases e : fnd sl (fpN B x) (4 * fbN A x) 4 with
  | some i =>
    rw [slotB_1 e] at h
    cases h
    have := fnd_in e
    exact ⟨by omega, this.2.2⟩
  | none =>
    rw [slotB_2 e] at h
    have := fnd_in h
    exact ⟨by omega, this.2.2⟩
def sameB (A B : Nat) (x y : Int64) : Bool := decide (fpN B x = fpN B y) && (decide (fbN A x = fbN A y) || decide (obN A (fbN A x) (fpN B x) = fbN A y))
/-- a bucket's first free slot taken; an item's slot freed -/
def pfB (sl : Nat → Nat) (bk q : Nat) : Nat → Nat := match fnd sl 0 (4 * bk) 4 with
  | some j => va_up sl j q
  | none => sl
theorem pfB_s {sl : Nat → Nat} {bk q j : Nat} (h : fnd sl 0 (4 * bk) 4 = some j) : pfB sl bk q = va_up sl j q := by simp only [pfB, h]
theorem pfB_n {sl : Nat → Nat} {bk q : Nat} (h : fnd sl 0 (4 * bk) 4 = none) : pfB sl bk q = sl := by simp only [pfB, h]
def tkB (A B : Nat) (x : Int64) (sl : Nat → Nat) : Nat → Nat := match slotB A B x sl with
  | some j => va_up sl j 0
  | none => sl
theorem tkB_s {A B j : Nat} {x : Int64} {sl : Nat → Nat} (h : slotB A B x sl = some j) : tkB A B x sl = va_up sl j 0 := by simp only [tkB, h]
theorem tkB_n {A B : Nat} {x : Int64} {sl : Nat → Nat} (h : slotB A B x sl = none) : tkB A B x sl = sl := by simp only [tkB, h]
theorem up_lt {f : Nat → Nat} {n M k v : Nat} (h : ∀ j, j < n → f j < M) (hv : v < M) : ∀ j, j < n → va_up f k v j < M := by
  intro j hj
  unfold va_up
  split
  · exact hv
  · exact h j hj
theorem bI_t {b : Bool} (h : ¬ bI b = 0) : b = true := by cases b with
  | true => rfl
  | false => exact absurd rfl h
theorem bI_f {b : Bool} (h : bI b = 0) : b = false := bI_ne0.mp h
theorem sm_t {o : Option Nat} (h : o.isSome = true) : ∃ j, o = some j := Option.isSome_iff_exists.mp h
theorem sm_f {o : Option Nat} (h : o.isSome = false) : o = none := by cases o with
  | none => rfl
  | some j => cases h
theorem putB_1 {A B j : Nat} {x : Int64} {sl : Nat → Nat} (h : fnd sl 0 (4 * fbN A x) 4 = some j) : putB A B x sl = (some (va_up sl j (fpN B x)), 0) := by simp only [putB, h]
theorem putB_2 {A B j : Nat} {x : Int64} {sl : Nat → Nat} (h : fnd sl 0 (4 * fbN A x) 4 = none) (h2 : fnd sl 0 (4 * obN A (fbN A x) (fpN B x)) 4 = some j) : putB A B x sl = (some (va_up sl j (fpN B x)), 0) := by simp only [putB, h, h2]
theorem putB_3 {A B : Nat} {x : Int64} {sl : Nat → Nat} (h : fnd sl 0 (4 * fbN A x) 4 = none) (h2 : fnd sl 0 (4 * obN A (fbN A x) (fpN B x)) 4 = none) : putB A B x sl = psh A 64 0 (obN A (fbN A x) (fpN B x)) (fpN B x) sl := by simp only [putB, h, h2]
theorem up_lt2 {f : Nat → Nat} {n M v : Nat} (h : ∀ j, j < n → f j < M) (hv : v < M) : ∀ j, j < n + 1 → va_up f n v j < M := by
  intro j hj
  unfold va_up
  split
  · exact hv
  · exact h j (by omega)
