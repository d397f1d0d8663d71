theorem va_D.aa {A : Nat → Prop} {ws : va_W} (h : va_D A ws) {sz : Nat} : va_D (Aa (ws.map (·.1)) sz) ws := ⟨h.1, fun k q hk => Or.inl (List.mem_map.mpr ⟨q, List.mem_of_getElem? hk, rfl⟩)⟩
theorem va_D.same {A : Nat → Prop} {ws ws' : va_W} (h : va_D A ws) (he : ws'.map (·.1) = ws.map (·.1)) : va_D A ws' := by
  have key : ∀ (k : Nat) (q : Nat × va_E), ws'[k]? = some q → ∃ q0, ws[k]? = some q0 ∧ q0.1 = q.1 := by
    intro k q hq
    have h1 : (ws'.map (·.1))[k]? = some q.1 := by rw [List.getElem?_map, hq]; rfl
    rw [he, List.getElem?_map] at h1
    cases h2 : ws[k]? with
    | none => rw [h2] at h1; cases h1
    | some q0 => rw [h2] at h1; exact ⟨q0, rfl, Option.some.inj h1⟩
  refine ⟨fun i j p q hi hj hpq => ?_, fun k q hk => ?_⟩
  · obtain ⟨p0, a1, a2⟩ := key i p hi
    obtain ⟨q0, b1, b2⟩ := key j q hj
    exact h.1 i j p0 q0 a1 b1 (by rw [a2, b2, hpq])
  · obtain ⟨q0, a1, a2⟩ := key k q hk
    rw [← a2]
    exact h.2 k q0 a1
/-- the shifts of longs, as the rows spell them -/
abbrev lshr (x : Int64) (y : Int32) : Int64 := (x.toUInt64 >>> (y.toInt64.toUInt64 &&& Int64.toUInt64 63)).toInt64
abbrev lshl (x : Int64) (y : Int32) : Int64 := x <<< (y.toInt64 &&& 63)
/-- the mix of x by s -/
def mx (x s : Int64) : Int64 :=
  let z1 := x + (s + 1) * (-7046029254386353131)
  let z2 := (z1 ^^^ lshr z1 30) * (-4658895280553007687)
  let z3 := (z2 ^^^ lshr z2 27) * (-7723592293110705685)
  z3 ^^^ lshr z3 31
/-- the mix as a number -/
def mxN (x : Int64) (s : Int64) : Nat := (mx x s).toBitVec.toNat
theorem mxN_lt (x s : Int64) : mxN x s < 2 ^ 64 := (mx x s).toBitVec.isLt
theorem pw_shl : ∀ A, A ≤ 30 → nI 1 <<< (nI A &&& 31) = nI (2 ^ A) := by decide +kernel
theorem i32_ext {x y : Int32} (h : x.toBitVec = y.toBitVec) : x = y := Int32.toBitVec_inj.mp h
theorem low_bv (z : Int64) (A : Nat) (hA : A ≤ 30) : z.toInt32 &&& (nI (2 ^ A) - nI 1) = nI (z.toBitVec.toNat % 2 ^ A) := by
  have h0 : 0 < 2 ^ A := Nat.two_pow_pos A
  have h1 : 2 ^ A ≤ 2 ^ 30 := Nat.pow_le_pow_right (by decide) hA
  have e1 : nI (2 ^ A) - nI 1 = nI (2 ^ A - 1) := pk_sub (by omega)
  rw [e1, pk_and (z.toInt32) A (by rw [pk_tn (by omega)])]
  congr 1
  have e2 : z.toInt32.toBitVec.toNat = z.toBitVec.toNat % 2 ^ 32 := by
    rw [Int64.toBitVec_toInt32, BitVec.signExtend_eq_setWidth_of_le _ (by decide), BitVec.toNat_setWidth]
  rw [e2, Nat.mod_mod_of_dvd _ (Nat.pow_dvd_pow 2 (by omega))]
/-- how often x stands among the first n of a row -/
def cnt (r : Nat → Nat) (x : Nat) : Nat → Nat
  | 0 => 0
  | n + 1 => cnt r x n + if r n = x then 1 else 0
theorem cnt_le (r : Nat → Nat) (x n : Nat) : cnt r x n ≤ n := by
  induction n with
  | zero => exact Nat.le_refl 0
  | succ n ih => unfold cnt; split <;> omega
theorem cnt_t {r : Nat → Nat} {x n : Nat} (h : r n = x) : cnt r x (n + 1) = cnt r x n + 1 := by simp [cnt, h]
theorem cnt_f {r : Nat → Nat} {x n : Nat} (h : r n ≠ x) : cnt r x (n + 1) = cnt r x n := by simp [cnt, h]
/-- place i of an item -/
def plx (A : Nat) (x : Int64) (i : Nat) : Nat := mxN x (nI i).toInt64 % 2 ^ A
theorem plx_lt {A : Nat} (hA : A ≤ 10) (x : Int64) (i : Nat) : plx A x i < 1024 := by
  have h1 : plx A x i < 2 ^ A := Nat.mod_lt _ (Nat.two_pow_pos A)
  have h2 : 2 ^ A ≤ 2 ^ 10 := Nat.pow_le_pow_right (by decide) hA
  omega
/-- a row with the first n places of an item -/
def fpr (A : Nat) (x : Int64) (r : Nat → Nat) : Nat → Nat → Nat
  | 0 => r
  | n + 1 => va_up (fpr A x r n) n (plx A x n)
theorem fpr_lt {A : Nat} {x : Int64} {r : Nat → Nat} {n i : Nat} (h : i < n) : fpr A x r n i = plx A x i := by
  induction n with
  | zero => omega
  | succ n ih =>
    unfold fpr va_up
    split
    · rename_i e; rw [e]
    · exact ih (by omega)
theorem fpr_in {A : Nat} (hA : A ≤ 10) {x : Int64} {r : Nat → Nat} {n i : Nat} (h : i < n) : fpr A x r n i < 1024 := by
  rw [fpr_lt h]; exact plx_lt hA x i
theorem cnt_congr {r r' : Nat → Nat} {x n : Nat} (h : ∀ i, i < n → r i = r' i) : cnt r x n = cnt r' x n := by
  induction n with
  | zero => rfl
  | succ n ih => unfold cnt; rw [ih (fun i hi => h i (by omega)), h n (by omega)]
theorem cnt_mono {r : Nat → Nat} {x m n : Nat} (h : m ≤ n) : cnt r x m ≤ cnt r x n := by
  induction n with
  | zero => have : m = 0 := by omega
            subst this; exact Nat.le_refl _
  | succ n ih =>
    by_cases e : m = n + 1
    · subst e; exact Nat.le_refl _
    · have := ih (by omega)
      exact Nat.le_trans this (Nat.le_add_right _ _)
theorem cnt_pos {r : Nat → Nat} {i n : Nat} (h : i < n) : 1 ≤ cnt r (r i) n := by
  have h1 : cnt r (r i) (i + 1) ≤ cnt r (r i) n := cnt_mono (by omega)
  rw [cnt_t rfl] at h1
  omega
/-- counters counted up, down, at the first n of a row -/
def addC (c r : Nat → Nat) (n : Nat) : Nat → Nat := fun x => c x + cnt r x n
def subC (c r : Nat → Nat) (n : Nat) : Nat → Nat := fun x => c x - cnt r x n
theorem addC_0 (c r : Nat → Nat) : addC c r 0 = c := rfl
theorem subC_0 (c r : Nat → Nat) : subC c r 0 = c := rfl
theorem addC_s (c r : Nat → Nat) (n : Nat) : va_up (addC c r n) (r n) (addC c r n (r n) + 1) = addC c r (n + 1) := by
  funext x
  by_cases h : x = r n
  · subst h; simp [va_up, addC, cnt]; omega
  · have h2 : r n ≠ x := fun e => h e.symm
    simp [va_up, addC, cnt, h, h2]
theorem subC_s (c r : Nat → Nat) (n : Nat) : va_up (subC c r n) (r n) (subC c r n (r n) - 1) = subC c r (n + 1) := by
  funext x
  by_cases h : x = r n
  · subst h; simp [va_up, subC, cnt]; omega
  · have h2 : r n ≠ x := fun e => h e.symm
    simp [va_up, subC, cnt, h, h2]
/-- all of the first n -/
def allN (f : Nat → Bool) : Nat → Bool
  | 0 => true
  | n + 1 => allN f n && f n
theorem allN_f {f : Nat → Bool} {i n : Nat} (h : i < n) (hf : f i = false) : allN f n = false := by
  induction n with
  | zero => omega
  | succ n ih =>
    unfold allN
    by_cases e : i = n
    · subst e; simp [hf]
    · simp [ih (by omega)]
theorem allN_s {f : Nat → Bool} {n : Nat} (h : allN f n = true) (hf : f n = true) : allN f (n + 1) = true := by
  unfold allN; simp [h, hf]
theorem allN_iff {f : Nat → Bool} {n : Nat} : allN f n = true ↔ ∀ i, i < n → f i = true := by
  induction n with
  | zero => simp [allN]
  | succ n ih =>
    unfold allN
    rw [Bool.and_eq_true, ih]
    constructor
    · intro h i hi
      by_cases e : i = n
      · subst e; exact h.2
      · exact h.1 i (by omega)
    · intro h
      exact ⟨fun i hi => h i (by omega), h n (by omega)⟩
theorem allN_congr {f g : Nat → Bool} {n : Nat} (h : ∀ i, i < n → f i = g i) : allN f n = allN g n := by
  induction n with
  | zero => rfl
  | succ n ih => unfold allN; rw [ih (fun i hi => h i (by omega)), h n (by omega)]
/-- a truth as an int -/
def bI (b : Bool) : Int32 := if b then nI 1 else nI 0
theorem bI_nar (b : Bool) : narrow .boolean (.int (bI b)) = .int (bI b) := by cases b <;> rfl
theorem bI_0 {b : Bool} : bI b = nI 0 ↔ b = false := by cases b <;> simp [bI] <;> decide
theorem bI_ne0 {b : Bool} : bI b = 0 ↔ b = false := by cases b <;> simp [bI] <;> decide
/-- whether adding fits, whether removing does, whether the item is there, over a row of places -/
def fitA (c r : Nat → Nat) (B : Nat) (i : Nat) : Bool := decide (c (r i) + cnt r (r i) B ≤ 15)
def fitS (c r : Nat → Nat) (B : Nat) (i : Nat) : Bool := decide (cnt r (r i) B ≤ c (r i))
def isC (c r : Nat → Nat) (i : Nat) : Bool := decide (0 < c (r i))
def sameC (r r' : Nat → Nat) (B : Nat) (i : Nat) : Bool := decide (cnt r (r i) B = cnt r' (r i) B)
/-- how many of the first n are above 0; the greatest of them -/
def posN (c : Nat → Nat) : Nat → Nat
  | 0 => 0
  | n + 1 => posN c n + if 0 < c n then 1 else 0
theorem posN_le (c : Nat → Nat) (n : Nat) : posN c n ≤ n := by
  induction n with
  | zero => exact Nat.le_refl 0
  | succ n ih => unfold posN; split <;> omega
theorem posN_t {c : Nat → Nat} {n : Nat} (h : 0 < c n) : posN c (n + 1) = posN c n + 1 := by simp [posN, h]
theorem posN_f {c : Nat → Nat} {n : Nat} (h : ¬ 0 < c n) : posN c (n + 1) = posN c n := by simp [posN, h]
def maxN (c : Nat → Nat) : Nat → Nat
  | 0 => 0
  | n + 1 => if maxN c n < c n then c n else maxN c n
theorem maxN_lt {c : Nat → Nat} {M : Nat} (hM : 0 < M) {n : Nat} (h : ∀ i, i < n → c i < M) : maxN c n < M := by
  induction n with
  | zero => exact hM
  | succ n ih =>
    unfold maxN
    split
    · exact h n (by omega)
    · exact ih (fun i hi => h i (by omega))
theorem if_nI {a b : Nat} (ha : a < 2 ^ 31) (hb : b < 2 ^ 31) : (if nI a < nI b then nI b else nI a) = nI (if a < b then b else a) := by
  by_cases h : a < b
  · rw [if_pos ((nI_ltI ha hb).mpr h), if_pos h]
  · rw [if_neg (fun z => h ((nI_ltI ha hb).mp z)), if_neg h]
theorem p2_le {A M : Nat} (h : A ≤ M) : 2 ^ A ≤ 2 ^ M := Nat.pow_le_pow_right (by decide) h
theorem va_D.same2 {A : Nat → Prop} {ws ws' : va_W} (ad : List Nat) (h : va_D A ws) (h1 : ws.map (·.1) = ad) (h2 : ws'.map (·.1) = ad) : va_D A ws' := h.same (h2.trans h1.symm)
