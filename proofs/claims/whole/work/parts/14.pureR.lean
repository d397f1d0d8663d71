theorem s_l : ∀ n, n < 32 → ((nI n &&& 31).toBitVec.smod 32).toNat = n := by decide +kernel
theorem shr_B {v B : Nat} (hv : v < 2 ^ 31) (hB : B < 32) : nI v >>> (nI B &&& 31) = nI (v / 2 ^ B) := pk_shrN hv _ B (s_l B hB)
theorem shl_B {v B : Nat} (hB : B < 32) (h : v * 2 ^ B < 2 ^ 32) : nI v <<< (nI B &&& 31) = nI (v * 2 ^ B) := pk_shlN _ B (s_l B hB) h
theorem msk_B {v B : Nat} (hv : v < 2 ^ 32) (hB : B ≤ 30) : nI v &&& (nI (2 ^ B) - nI 1) = nI (v % 2 ^ B) := by
  have h0 : 0 < 2 ^ B := Nat.two_pow_pos B
  have h1 : 2 ^ B ≤ 2 ^ 30 := Nat.pow_le_pow_right (by decide) hB
  rw [pk_sub (show 1 ≤ 2 ^ B by omega), pk_andN hv B (by rw [pk_tn (by omega)])]
/-- an item's pair -/
def prN (A B : Nat) (x : Int64) : Nat := mxN x (nI 0).toInt64 / 2 ^ (64 - A - B)
theorem prN_lt {A B : Nat} (hA : A ≤ 8) (hB : B ≤ 20) (x : Int64) : prN A B x < 2 ^ (A + B) := by
  have h := hi_lt x (nI 0).toInt64 (show A + B ≤ 64 by omega)
  unfold prN
  rw [Nat.sub_sub]
  exact h
theorem prN_28 {A B : Nat} (hA : A ≤ 8) (hB : B ≤ 20) (x : Int64) : prN A B x < 2 ^ 28 := Nat.lt_of_lt_of_le (prN_lt hA hB x) (p2_le (by omega))
/-- a rising row of n numbers -/
def srt (f : Nat → Nat) (n : Nat) : Prop := ∀ i j, i ≤ j → j < n → f i ≤ f j
/-- how many of the first n are below v -/
def lo (f : Nat → Nat) (v : Nat) : Nat → Nat
  | 0 => 0
  | n + 1 => lo f v n + if f n < v then 1 else 0
theorem lo_le (f : Nat → Nat) (v n : Nat) : lo f v n ≤ n := by
  induction n with
  | zero => exact Nat.le_refl 0
  | succ n ih => unfold lo; split <;> omega
theorem lo_iff {f : Nat → Nat} {v n : Nat} (hs : srt f n) : ∀ i, i < n → (f i < v ↔ i < lo f v n) := by
  induction n with
  | zero => intro i hi; omega
  | succ n ih =>
    have ih := ih (fun i j h1 h2 => hs i j h1 (by omega))
    have hl := lo_le f v n
    intro i hi
    unfold lo
    by_cases hn : f n < v
    · rw [if_pos hn]
      have hi2 : f i < v := Nat.lt_of_le_of_lt (hs i n (by omega) (by omega)) hn
      have all : lo f v n = n := by
        rcases Nat.lt_or_ge (lo f v n) n with h9 | h9
        · have h8 := (ih (lo f v n) h9).mp (Nat.lt_of_le_of_lt (hs _ n (by omega) (by omega)) hn)
          omega
        · omega
      constructor
      · intro _; omega
      · intro _; exact hi2
    · rw [if_neg hn]
      by_cases e : i = n
      · subst e
        constructor
        · intro h; exact absurd h hn
        · intro h; omega
      · exact ih i (by omega)
theorem lo_congr {f g : Nat → Nat} {v n : Nat} (h : ∀ i, i < n → f i = g i) : lo f v n = lo g v n := by
  induction n with
  | zero => rfl
  | succ n ih => unfold lo; rw [ih (fun i hi => h i (by omega)), h n (by omega)]
/-- the leaps 256, 128 .. 1, 0 -/
def lpN : Nat → Nat
  | 0 => 0
  | k + 1 => 2 ^ k
theorem lp_shr : ∀ k, k ≤ 8 → nI (2 ^ k) >>> (nI 1 &&& 31) = nI (lpN k) := by decide +kernel
theorem p2k : ∀ k, k ≤ 8 → 2 ^ k ≤ 256 := fun k h => p2_le h
/-- where the next remainder may lie at the earliest, with i of them laid from st on -/
def nxt (q : Nat → Nat) (st : Nat) : Nat → Nat
  | 0 => st
  | i + 1 => (if nxt q st i < q i then q i else nxt q st i) + 1
def slt (q : Nat → Nat) (st i : Nat) : Nat := if nxt q st i < q i then q i else nxt q st i
theorem nxt_s (q : Nat → Nat) (st i : Nat) : nxt q st (i + 1) = slt q st i + 1 := rfl
theorem nxt_le {q : Nat → Nat} {st M n : Nat} (hq : ∀ i, i < n → q i < M) (hs : st ≤ M) : nxt q st n ≤ M + n := by
  induction n with
  | zero => exact hs
  | succ n ih =>
    have := ih (fun i hi => hq i (by omega))
    have := hq n (by omega)
    unfold nxt
    split <;> omega
theorem slt_lt {q : Nat → Nat} {st M n i : Nat} (hq : ∀ i, i < n → q i < M) (hs : st ≤ M) (hi : i < n) : slt q st i ≤ M + i := by
  have h1 := nxt_le (n := i) (fun j hj => hq j (by omega)) hs
  have h2 := hq i hi
  unfold slt
  split <;> omega
theorem max0 {a b : Nat} (ha : a < 2 ^ 30) (hb : b < 2 ^ 30) : (if nI 0 < nI a - nI b then nI a - nI b else nI 0) = nI (a - b) := by
  rcases Nat.lt_or_ge a b with h | h
  · have h1 := pk_sneg hb h
    rw [if_neg (fun z => ?_), Nat.sub_eq_zero_of_le (by omega)]
    have h2 := Int32.lt_iff_toInt_lt.mp h1
    have h3 := Int32.lt_iff_toInt_lt.mp z
    have e : (nI 0).toInt = (0 : Int32).toInt := rfl
    omega
  · rw [pk_sub h]
    by_cases e : a - b = 0
    · rw [e]; rfl
    · rw [if_pos (nI_lt (by omega) (by omega))]
/-- the circle with i remainders laid -/
def cirN (q : Nat → Nat) (st N : Nat) : Nat → Nat → Option Nat
  | 0 => fun _ => none
  | i + 1 => va_up (cirN q st N i) (slt q st i % N) (some i)
theorem cirN_lt {q : Nat → Nat} {st N n z k : Nat} (h : cirN q st N n z = some k) : k < n := by
  induction n with
  | zero => cases h
  | succ n ih =>
    unfold cirN va_up at h
    split at h
    · cases h; omega
    · have := ih h; omega
theorem upO (c : Nat → Option Nat) (k i : Nat) : upd (fun z => oI (c z)) k (nI i) = fun z => oI (va_up c k (some i) z) := by
  funext z
  by_cases h : z = k
  · subst h; simp [upd, va_up, oI]
  · simp [upd, va_up, h]
theorem cpN (f : Nat → Nat) (sp dp n : Nat) : va_cpy (fun q => nI (f q)) (fun q => nI (f q)) sp dp n = fun q => nI (va_cpy f f sp dp n q) := by
  funext z
  unfold va_cpy
  split <;> rfl
def quo (f : Nat → Nat) (B : Nat) : Nat → Nat := fun i => f i / 2 ^ B
/-- what lies over the end; the circle of a row of pairs -/
def ovr (f : Nat → Nat) (A B n : Nat) : Nat := nxt (quo f B) 0 n - 2 ^ A
def cirF (f : Nat → Nat) (A B n : Nat) : Nat → Option Nat := cirN (quo f B) (ovr f A B n) (2 ^ A) n
def clm (f : Nat → Nat) (B n z : Nat) : Bool := decide (lo f (z * 2 ^ B) n < n) && decide (f (lo f (z * 2 ^ B) n) / 2 ^ B = z)
/-- what a slot shows where the k-th pair lies in slot z -/
def lkR (f : Nat → Nat) (B n z k : Nat) : Nat := 8 * (f k % 2 ^ B) + (if clm f B n z then 1 else 0) + (if decide (0 < k) && decide (f (k - 1) / 2 ^ B = f k / 2 ^ B) then 2 else 0) + (if f k / 2 ^ B = z then 0 else 4)
/-- the row of used slots that ends at i; the longest so far -/
def rowN (c : Nat → Option Nat) (N : Nat) : Nat → Nat
  | 0 => 0
  | i + 1 => if c (i % N) = none then 0 else rowN c N i + 1
def lngN (c : Nat → Option Nat) (N : Nat) : Nat → Nat
  | 0 => 0
  | i + 1 => if lngN c N i < rowN c N (i + 1) then rowN c N (i + 1) else lngN c N i
theorem rowN_le (c : Nat → Option Nat) (N i : Nat) : rowN c N i ≤ i := by
  induction i with
  | zero => exact Nat.le_refl 0
  | succ i ih => unfold rowN; split <;> omega
theorem lngN_le (c : Nat → Option Nat) (N i : Nat) : lngN c N i ≤ i := by
  induction i with
  | zero => exact Nat.le_refl 0
  | succ i ih =>
    have := rowN_le c N (i + 1)
    unfold lngN; split <;> omega
theorem rowN_n {c : Nat → Option Nat} {N i : Nat} (h : c (i % N) = none) : rowN c N (i + 1) = 0 := by simp [rowN, h]
theorem rowN_s {c : Nat → Option Nat} {N i j : Nat} (h : c (i % N) = some j) : rowN c N (i + 1) = rowN c N i + 1 := by simp [rowN, h]
theorem if_nI2 {a b : Nat} (ha : a < 2 ^ 31) (hb : b < 2 ^ 31) : (if nI b < nI a then nI b else nI a) = nI (if b < a then b else a) := by
  by_cases h : b < a
  · rw [if_pos ((nI_ltI hb ha).mpr h), if_pos h]
  · rw [if_neg (fun z => h ((nI_ltI hb ha).mp z)), if_neg h]
section COPY
variable {p : Program} {l : Launch} {e : Env} {R : Room} {s : State} {m : MethodId} {args : Array Value} {below : List Frame} {meth : Method} {c : Code} {H : Heap} {locs : List Loc} {cells slots : Nat} {Q : State → Prop}
variable {cc : ByteArray} {pc : Nat} {ls : Array Slot} {rest : List Value} {D : va_G} {cI cF cJ : ClassId} {ws : va_W} {A : Nat → Prop} {H0 : Heap} {a : Nat}
/-- a row copied within itself -/
theorem ia_copy {cc : ByteArray} (hexec : p.tables.exec = Jvm.exec) (hb : c.code = cc) (hml : c.maxLocals = ls.size) {own : String} {index : Nat} (hown : s.vm.findClass own = some m.cls) (hlink : (Cond.methodLink own index arraycopyName).before args s = true) (hnat : (Cond.native arraycopyName).before args s = true) (hstat : (Cond.static arraycopyName).before args s = true) (hini : (Cond.initialized "java/lang/System").before args s = true)
    (hK : va_K D vcl (tys cI cF cJ) s) (hP : va_P D vcl ws H) (hD : va_D A ws) (hS : va_S A H0 H locs) (q0 : Nat) {N sp dp n : Nat} {f : Nat → Nat} (ha : ws[q0]? = some (a, aN cI N f)) (hN : N < 2 ^ 31)
    (h4 : sp + n ≤ N) (h5 : dp + n ≤ N) (hframes : 1 ≤ R.frames) (hlocals : (rest.map fun v => v.category).sum + (nativeFrameWords "java/lang/System" "arraycopy" 5 + 11) ≤ R.locals) (hdg : decode cc pc = .ok (.invokestatic index, 3))
    (kk : ∀ (H1 : Heap) (locs1 : List Loc), va_P D vcl (ws.set q0 (a, aN cI N (va_cpy f f sp dp n))) H1 → va_D A (ws.set q0 (a, aN cI N (va_cpy f f sp dp n))) → va_S A H0 H1 locs1 → W p l e R s m args below meth c H1 locs1 cells slots Q (F0 m (pc + 3) ls rest)) : W p l e R s m args below meth c H locs cells slots Q (F0 m pc ls (.int (nI n) :: .int (nI dp) :: .ref a :: .int (nI sp) :: .ref a :: rest)) := by
  have e1 : (nI sp).toNatClampNeg = sp := nI_clamp (by omega)
  have e2 : (nI dp).toNatClampNeg = dp := nI_clamp (by omega)
  have e3 : (nI n).toNatClampNeg = n := nI_clamp (by omega)
  refine va_copyi hexec hb hml hown hlink hnat hstat hini hK hP hD hS q0 q0 0 0 ha ha rfl rfl rfl (nI_pos (by omega)) (nI_pos (by omega)) (nI_pos (by omega)) (by rw [e1, e3]; exact h4) (by rw [e2, e3]; exact h5) (fun _ _ => rfl) hframes hlocals hdg (fun H1 l1 => ?_)
  rw [e1, e2, e3, cpN]
  exact kk H1 l1
end COPY
