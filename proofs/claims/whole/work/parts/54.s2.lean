theorem wth_nn {v : Int32} {a b : Nat} (ha : a < 2 ^ 31) (hb : b < 2 ^ 31) (h : wth v (nI a) (nI b) = true) : ∃ n : Nat, a ≤ n ∧ n ≤ b ∧ v = nI n := by
  obtain ⟨h1, h2⟩ := wth_t h
  have h3 : ¬ v < 0 := fun h9 => h1 (by
    rw [Int32.lt_iff_toInt_lt] at h9 ⊢
    rw [nI_toInt ha]
    have : (0 : Int32).toInt = 0 := by decide
    omega)
  obtain ⟨n, hn, rfl⟩ := nI_of h3
  exact ⟨n, Nat.not_lt.mp (fun h9 => h1 (nI_lt h9 ha)), (nI_leI hn hb).mp h2, rfl⟩
theorem mb_cases {k a b : Int32} (h : mbS k a b = true) : (k = nI 1 ∧ ∃ A B : Nat, a = nI A ∧ b = nI B ∧ 3 ≤ A ∧ A ≤ 10 ∧ 1 ≤ B ∧ B ≤ 6) ∨ (k = nI 2 ∧ ∃ A B : Nat, a = nI A ∧ b = nI B ∧ 1 ≤ A ∧ A ≤ 8 ∧ 4 ≤ B ∧ B ≤ 16) ∨ (k = nI 3 ∧ ∃ A B : Nat, a = nI A ∧ b = nI B ∧ 2 ≤ A ∧ A ≤ 8 ∧ 4 ≤ B ∧ B ≤ 20) := by
  unfold mbS at h
  by_cases h1 : k = nI 1
  · rw [if_pos h1, Bool.and_eq_true] at h
    obtain ⟨A, a1, a2, e1⟩ := wth_nn (by decide) (by decide) h.1
    obtain ⟨B, b1, b2, e2⟩ := wth_nn (by decide) (by decide) h.2
    exact Or.inl ⟨h1, A, B, e1, e2, a1, a2, b1, b2⟩
  · rw [if_neg h1] at h
    by_cases h2 : k = nI 2
    · rw [if_pos h2, Bool.and_eq_true] at h
      obtain ⟨A, a1, a2, e1⟩ := wth_nn (by decide) (by decide) h.1
      obtain ⟨B, b1, b2, e2⟩ := wth_nn (by decide) (by decide) h.2
      exact Or.inr (Or.inl ⟨h2, A, B, e1, e2, a1, a2, b1, b2⟩)
    · rw [if_neg h2] at h
      by_cases h3 : k = nI 3
      · rw [if_pos h3, Bool.and_eq_true] at h
        obtain ⟨A, a1, a2, e1⟩ := wth_nn (by decide) (by decide) h.1
        obtain ⟨B, b1, b2, e2⟩ := wth_nn (by decide) (by decide) h.2
        exact Or.inr (Or.inr ⟨h3, A, B, e1, e2, a1, a2, b1, b2⟩)
      · rw [if_neg h3] at h
        cases h
theorem wth_iff {n a b : Nat} (hn : n < 2 ^ 31) (ha : a < 2 ^ 31) (hb : b < 2 ^ 31) : wth (nI n) (nI a) (nI b) = true ↔ a ≤ n ∧ n ≤ b := by
  constructor
  · intro h
    obtain ⟨h1, h2⟩ := wth_t h
    exact ⟨Nat.not_lt.mp (fun h9 => h1 (nI_lt h9 ha)), (nI_leI hn hb).mp h2⟩
  · intro h
    exact wth_f (nI_nlt h.1 hn) (nI_le h.2 hb)
theorem mb_grow {A B : Nat} (h1 : 2 ≤ A) (h2 : A ≤ 8) (h3 : 4 ≤ B) (h4 : B ≤ 20) : mbS (nI 3) (nI (A + 1)) (nI (B - 1)) = true ↔ A ≤ 7 ∧ 5 ≤ B := by
  unfold mbS
  rw [if_neg (by decide), if_neg (by decide), if_pos rfl, Bool.and_eq_true, wth_iff (by omega) (by decide) (by decide), wth_iff (by omega) (by decide) (by decide)]
  omega
theorem va_up_if {S : Nat → FS} {j : Nat} {T : FS} {c : Prop} [Decidable c] (h : ¬ c) : va_up S j (if c then T else S j) = S := by rw [if_neg h]; exact va_up_same

theorem s_make {l : Launch} {s0 : State} {D : va_G} {cI cF cJ : ClassId} (G : Gx l s0 D cI cF cJ) (v k9 a b : Int32) (hm a1 a2 a3 a4 a5 a6 a7 a8 a9 a10 a11 : Nat) (xo fa ma : Nat) (t : Nat → Nat) (S : Nat → FS) {H : Heap} (hX : PX D cI cF xo fa ma t S H) (hok : ∀ i, i < 4 → okS (S i)) (hon : onS s0 H) (ht0 : ∀ q, q < s0.heap.size → t q = 0) (hts : ∀ q, H.size ≤ q → t q ≤ 13) {A0 : Nat → Prop} (hDm : va_D A0 (adM hm a1 a2 a3 a4 a5 a6 a7 a8 a9 a10 a11)) : StV l s0 D cI cF xo fa ma hm a1 a2 a3 a4 a5 a6 a7 a8 a9 a10 a11 t S H y_F_make (.code y_F_make b_F_make 6 none) [.ref xo, .int v, .int k9, .int a, .int b] y_M_make (.code y_M_make b_M_make 6 none) [.ref hm, .int v, .int k9, .int a, .int b] [(none, 0), (some E_I, 1), (some E_A, 2)] := by
  cases hv : isNum v with
  | false =>
    refine ⟨some E_I, 1, S, by simp, hok, x_make_no G v k9 a b xo fa ma t S hX hok hon ht0 hts none hv, fun th H2 hM => ?_⟩
    exact by
      by_cases h1 : k9 = nI 1
      · subst h1; exact c_M_make_no_1 G hm a1 a2 a3 a4 a5 a6 a7 a8 a9 a10 a11 th S v a b hM hDm hok hv
      · by_cases h2 : k9 = nI 2
        · subst h2; exact c_M_make_no_2 G hm a1 a2 a3 a4 a5 a6 a7 a8 a9 a10 a11 th S v a b hM hDm hok hv
        · by_cases h3 : k9 = nI 3
          · subst h3; exact c_M_make_no_3 G hm a1 a2 a3 a4 a5 a6 a7 a8 a9 a10 a11 th S v a b hM hDm hok hv
          · exact c_M_make_no_n G hm a1 a2 a3 a4 a5 a6 a7 a8 a9 a10 a11 th S v k9 a b hM hDm hok hv h1 h2 h3
  | true =>
    obtain ⟨j, hj, rfl⟩ := isNum_t hv
    cases hmb : mbS k9 a b with
    | false =>
      refine ⟨some E_A, 2, S, by simp, hok, x_make_bad G j k9 a b xo fa ma t S hX hok hon ht0 hts none hj hmb, fun th H2 hM => ?_⟩
      exact by
          by_cases h1 : k9 = nI 1
          · subst h1; exact c_M_make_bad_1 G hm a1 a2 a3 a4 a5 a6 a7 a8 a9 a10 a11 th S j a b hM hDm hok hj hmb
          · by_cases h2 : k9 = nI 2
            · subst h2; exact c_M_make_bad_2 G hm a1 a2 a3 a4 a5 a6 a7 a8 a9 a10 a11 th S j a b hM hDm hok hj hmb
            · by_cases h3 : k9 = nI 3
              · subst h3; exact c_M_make_bad_3 G hm a1 a2 a3 a4 a5 a6 a7 a8 a9 a10 a11 th S j a b hM hDm hok hj hmb
              · exact c_M_make_bad_n G hm a1 a2 a3 a4 a5 a6 a7 a8 a9 a10 a11 th S j k9 a b hM hDm hok hj hmb h1 h2 h3
    | true =>
      rcases mb_cases hmb with ⟨hk, A, B, rfl, rfl, c1, c2, c3, c4⟩ | ⟨hk, A, B, rfl, rfl, c1, c2, c3, c4⟩ | ⟨hk, A, B, rfl, rfl, c1, c2, c3, c4⟩
      · subst hk
        obtain ⟨f, hXr⟩ := x_make_C G j A B xo fa ma t S hX hok hon ht0 hts hj hmb
        refine ⟨none, 0, _, by simp, oks_up hok (okS_mk (Or.inl ⟨rfl, c1, c2, c3, c4⟩)), hXr, fun th H2 hM => c_M_make_1 G hm a1 a2 a3 a4 a5 a6 a7 a8 a9 a10 a11 th S j A B f hM hDm hok hj ?_⟩
        unfold mbS at hmb
        rw [if_pos rfl] at hmb
        rw [Bool.and_eq_true] at hmb
        exact ⟨wth_t hmb.1, wth_t hmb.2⟩
      · subst hk
        obtain ⟨f, hXr⟩ := x_make_B G j A B xo fa ma t S hX hok hon ht0 hts hj hmb
        refine ⟨none, 0, _, by simp, oks_up hok (okS_mk (Or.inr (Or.inl ⟨rfl, c1, c2, c3, c4⟩))), hXr, fun th H2 hM => c_M_make_2 G hm a1 a2 a3 a4 a5 a6 a7 a8 a9 a10 a11 th S j A B f hM hDm hok hj ?_⟩
        unfold mbS at hmb
        rw [if_neg (by decide), if_pos rfl] at hmb
        rw [Bool.and_eq_true] at hmb
        exact ⟨wth_t hmb.1, wth_t hmb.2⟩
      · subst hk
        obtain ⟨f, hXr⟩ := x_make_R G j A B xo fa ma t S hX hok hon ht0 hts hj hmb
        refine ⟨none, 0, _, by simp, oks_up hok (okS_mk (Or.inr (Or.inr ⟨rfl, c1, c2, c3, c4⟩))), hXr, fun th H2 hM => c_M_make_3 G hm a1 a2 a3 a4 a5 a6 a7 a8 a9 a10 a11 th S j A B f hM hDm hok hj ?_⟩
        unfold mbS at hmb
        rw [if_neg (by decide), if_neg (by decide), if_pos rfl] at hmb
        rw [Bool.and_eq_true] at hmb
        exact ⟨wth_t hmb.1, wth_t hmb.2⟩

theorem s_grow {l : Launch} {s0 : State} {D : va_G} {cI cF cJ : ClassId} (G : Gx l s0 D cI cF cJ) (v : Int32) (hm a1 a2 a3 a4 a5 a6 a7 a8 a9 a10 a11 : Nat) (xo fa ma : Nat) (t : Nat → Nat) (S : Nat → FS) {H : Heap} (hX : PX D cI cF xo fa ma t S H) (hok : ∀ i, i < 4 → okS (S i)) (hon : onS s0 H) (ht0 : ∀ q, q < s0.heap.size → t q = 0) (hts : ∀ q, H.size ≤ q → t q ≤ 13) {A0 : Nat → Prop} (hDm : va_D A0 (adM hm a1 a2 a3 a4 a5 a6 a7 a8 a9 a10 a11)) : StV l s0 D cI cF xo fa ma hm a1 a2 a3 a4 a5 a6 a7 a8 a9 a10 a11 t S H y_F_grow (.code y_F_grow b_F_grow 3 none) [.ref xo, .int v] y_M_grow (.code y_M_grow b_M_grow 6 none) [.ref hm, .int v] [(none, 0), (some E_I, 1), (some E_S, 2), (some E_A, 3)] := by
  cases hv : isNum v with
  | false => exact ⟨some E_I, 1, S, by simp, hok, x_grow_no G v xo fa ma t S hX hok hon ht0 hts none hv, fun th H2 hM => c_M_grow_no G hm a1 a2 a3 a4 a5 a6 a7 a8 a9 a10 a11 th S v hM hDm hok hv⟩
  | true =>
    obtain ⟨j, hj, rfl⟩ := isNum_t hv
    by_cases h0 : (S j).1 = 0
    · exact ⟨some E_S, 2, S, by simp, hok, x_grow_none G j xo fa ma t S hX hok hon ht0 hts none hj h0, fun th H2 hM => c_M_grow_none G hm a1 a2 a3 a4 a5 a6 a7 a8 a9 a10 a11 th S j hM hDm hok hj h0⟩
    · have hoj := hok j hj
      rcases hSj : S j with ⟨kd, A, B, hd, pv, cs, n, f⟩
      rw [hSj] at hoj h0
      rcases hoj with h9 | h9 | h9 | h9
      · exact absurd h9 h0
      · obtain ⟨rfl, -⟩ := h9
        have hXr := x_grow_C G j A B n hd pv cs f none xo fa ma t S hX hok hon ht0 hts hj hSj
        rw [va_up_same] at hXr
        exact ⟨some E_A, 3, S, by simp, hok, hXr, fun th H2 hM => c_M_grow_k G hm a1 a2 a3 a4 a5 a6 a7 a8 a9 a10 a11 th S j 1 A B n hd pv cs f hM hDm hok hj hSj (by decide) (by decide)⟩
      · obtain ⟨rfl, -⟩ := h9
        have hXr := x_grow_B G j A B n hd pv cs f none xo fa ma t S hX hok hon ht0 hts hj hSj
        rw [va_up_same] at hXr
        exact ⟨some E_A, 3, S, by simp, hok, hXr, fun th H2 hM => c_M_grow_k G hm a1 a2 a3 a4 a5 a6 a7 a8 a9 a10 a11 th S j 2 A B n hd pv cs f hM hDm hok hj hSj (by decide) (by decide)⟩
      · have hoj3 := hok j hj
        obtain ⟨rfl, -⟩ := h9
        rw [hSj] at hoj3
        obtain ⟨hR, hhd⟩ := okS_3.mp hoj3
        have hmb := mb_grow hR.1 hR.2.1 hR.2.2.1 hR.2.2.2.1
        cases hg : mbS (nI 3) (nI (A + 1)) (nI (B - 1)) with
        | true =>
          have hg2 := hmb.mp hg
          exact ⟨none, 0, _, by simp, oks_up hok (okS_3.mpr ⟨okR_grow hR (by omega) (by omega), hhd⟩), x_grow_R G j A B n hd pv cs f xo fa ma t S hX hok hon ht0 hts hj hSj hg, fun th H2 hM => c_M_grow_ok G hm a1 a2 a3 a4 a5 a6 a7 a8 a9 a10 a11 th S j A B n hd pv cs f hM hDm hok hj hSj hg2⟩
        | false =>
          have hg2 : A = 8 ∨ B = 4 := by
            have h7 : ¬ (A ≤ 7 ∧ 5 ≤ B) := fun h9 => by rw [hmb.mpr h9] at hg; cases hg
            have h1 := hR.2.1
            have h3 := hR.2.2.1
            omega
          have hXr := x_grow_no_R G j A B n hd pv cs f none xo fa ma t S hX hok hon ht0 hts hj hSj hg
          rw [va_up_same] at hXr
          exact ⟨some E_A, 3, S, by simp, hok, hXr, fun th H2 hM => c_M_grow_no3 G hm a1 a2 a3 a4 a5 a6 a7 a8 a9 a10 a11 th S j A B n hd pv cs f hM hDm hok hj hSj hg2⟩

theorem s_merge {l : Launch} {s0 : State} {D : va_G} {cI cF cJ : ClassId} (G : Gx l s0 D cI cF cJ) (v v2 : Int32) (hm a1 a2 a3 a4 a5 a6 a7 a8 a9 a10 a11 : Nat) (xo fa ma : Nat) (t : Nat → Nat) (S : Nat → FS) {H : Heap} (hX : PX D cI cF xo fa ma t S H) (hok : ∀ i, i < 4 → okS (S i)) (hon : onS s0 H) (ht0 : ∀ q, q < s0.heap.size → t q = 0) (hts : ∀ q, H.size ≤ q → t q ≤ 13) {A0 : Nat → Prop} (hDm : va_D A0 (adM hm a1 a2 a3 a4 a5 a6 a7 a8 a9 a10 a11)) : StI l s0 D cI cF xo fa ma hm a1 a2 a3 a4 a5 a6 a7 a8 a9 a10 a11 t S H y_F_merge (.code y_F_merge b_F_merge 7 (some .int)) [.ref xo, .int v, .int v2] y_M_merge (.code y_M_merge b_M_merge 9 (some .int)) [.ref hm, .int v, .int v2] [(none, 0), (some E_I, 1), (some E_S, 2), (some E_A, 3), (some E_U, 4)] := by
  cases hv : isNum v with
  | false => exact ⟨some E_I, 1, 0, nI 0, S, by simp, hok, fun h => (by cases h), x_merge_no1 G v v2 xo fa ma t S hX hok hon ht0 hts _ hv, fun th H2 hM => c_M_merge_no1 G hm a1 a2 a3 a4 a5 a6 a7 a8 a9 a10 a11 th S v v2 hM hDm hok hv⟩
  | true =>
    obtain ⟨j, hj, rfl⟩ := isNum_t hv
    cases hv2 : isNum v2 with
    | false => exact ⟨some E_I, 1, 0, nI 0, S, by simp, hok, fun h => (by cases h), x_merge_no2 G j v2 xo fa ma t S hX hok hon ht0 hts _ hj hv2, fun th H2 hM => c_M_merge_no2 G hm a1 a2 a3 a4 a5 a6 a7 a8 a9 a10 a11 th S j v2 hM hDm hok hj hv2⟩
    | true =>
      obtain ⟨j2, hj2, rfl⟩ := isNum_t hv2
      by_cases h0 : (S j).1 = 0
      · exact ⟨some E_S, 2, 0, nI 0, S, by simp, hok, fun h => (by cases h), x_merge_none1 G j j2 xo fa ma t S hX hok hon ht0 hts _ hj hj2 h0, fun th H2 hM => c_M_merge_none1 G hm a1 a2 a3 a4 a5 a6 a7 a8 a9 a10 a11 th S j j2 hM hDm hok hj hj2 h0⟩
      · by_cases h02 : (S j2).1 = 0
        · exact ⟨some E_S, 2, 0, nI 0, S, by simp, hok, fun h => (by cases h), x_merge_none2 G j j2 xo fa ma t S hX hok hon ht0 hts _ hj hj2 h0 h02, fun th H2 hM => c_M_merge_none2 G hm a1 a2 a3 a4 a5 a6 a7 a8 a9 a10 a11 th S j j2 hM hDm hok hj hj2 h0 h02⟩
        · have h02' := h02
          have hoj := hok j hj
          have hoj2 := hok j2 hj2
          rcases hSj : S j with ⟨kd, A, B, hd, pv, cs, n, f⟩
          rcases hSj2 : S j2 with ⟨kd2, A2, B2, hd2, pv2, cs2, n2, g⟩
          rw [hSj] at hoj h0
          rw [hSj2] at hoj2 h02
          have hoj' := hoj
          have hoj2' := hoj2
          have k0 : kd ≠ 0 := h0
          have k02 : kd2 ≠ 0 := h02
          rcases hoj with h9 | h9 | h9 | h9
          · exact absurd h9 h0
          · obtain ⟨rfl, -⟩ := h9
            exact ⟨some E_A, 3, 0, nI 0, S, by simp, hok, fun h => (by cases h), x_merge_nr1_C G j j2 A B n hd pv cs f xo fa ma t S hX hok hon ht0 hts _ hj hj2 hSj h02', fun th H2 hM => c_M_merge_nr G hm a1 a2 a3 a4 a5 a6 a7 a8 a9 a10 a11 th S j j2 _ A B n _ A2 B2 n2 hd pv hd2 pv2 cs f cs2 g hM hDm hok hj hj2 hSj hSj2 (by decide) k02 (fun h => by cases h.1)⟩
          · obtain ⟨rfl, -⟩ := h9
            exact ⟨some E_A, 3, 0, nI 0, S, by simp, hok, fun h => (by cases h), x_merge_nr1_B G j j2 A B n hd pv cs f xo fa ma t S hX hok hon ht0 hts _ hj hj2 hSj h02', fun th H2 hM => c_M_merge_nr G hm a1 a2 a3 a4 a5 a6 a7 a8 a9 a10 a11 th S j j2 _ A B n _ A2 B2 n2 hd pv hd2 pv2 cs f cs2 g hM hDm hok hj hj2 hSj hSj2 (by decide) k02 (fun h => by cases h.1)⟩
          · obtain ⟨rfl, -⟩ := h9
            rcases hoj2 with h9 | h9 | h9 | h9
            · exact absurd h9 h02
            · obtain ⟨rfl, -⟩ := h9
              exact ⟨some E_A, 3, 0, nI 0, S, by simp, hok, fun h => (by cases h), x_merge_nr2_C G j j2 A B n A2 B2 n2 hd pv hd2 pv2 cs f cs2 g xo fa ma t S hX hok hon ht0 hts _ hj hj2 hSj hSj2, fun th H2 hM => c_M_merge_nr G hm a1 a2 a3 a4 a5 a6 a7 a8 a9 a10 a11 th S j j2 _ A B n _ A2 B2 n2 hd pv hd2 pv2 cs f cs2 g hM hDm hok hj hj2 hSj hSj2 (by decide) (by decide) (fun h => by cases h.2.1)⟩
            · obtain ⟨rfl, -⟩ := h9
              exact ⟨some E_A, 3, 0, nI 0, S, by simp, hok, fun h => (by cases h), x_merge_nr2_B G j j2 A B n A2 B2 n2 hd pv hd2 pv2 cs f cs2 g xo fa ma t S hX hok hon ht0 hts _ hj hj2 hSj hSj2, fun th H2 hM => c_M_merge_nr G hm a1 a2 a3 a4 a5 a6 a7 a8 a9 a10 a11 th S j j2 _ A B n _ A2 B2 n2 hd pv hd2 pv2 cs f cs2 g hM hDm hok hj hj2 hSj hSj2 (by decide) (by decide) (fun h => by cases h.2.1)⟩
            · obtain ⟨rfl, -⟩ := h9
              by_cases hne : A ≠ A2 ∨ B ≠ B2
              · exact ⟨some E_A, 3, 0, nI 0, S, by simp, hok, fun h => (by cases h), x_merge_other G j j2 A B n A2 B2 n2 hd pv hd2 pv2 cs f cs2 g xo fa ma t S hX hok hon ht0 hts _ hj hj2 hSj hSj2 hne, fun th H2 hM => c_M_merge_nr G hm a1 a2 a3 a4 a5 a6 a7 a8 a9 a10 a11 th S j j2 _ A B n _ A2 B2 n2 hd pv hd2 pv2 cs f cs2 g hM hDm hok hj hj2 hSj hSj2 (by decide) (by decide) (fun h => hne.elim (fun h8 => h8 h.2.2.1) (fun h8 => h8 h.2.2.2))⟩
              · obtain rfl : A = A2 := Decidable.of_not_not (fun h => hne (Or.inl h))
                obtain rfl : B = B2 := Decidable.of_not_not (fun h => hne (Or.inr h))
                obtain ⟨hR, hhd⟩ := okS_3.mp hoj'
                obtain ⟨hR2, hhd2⟩ := okS_3.mp hoj2'
                by_cases hjj : j = j2
                · subst hjj
                  have hinj := hSj.symm.trans hSj2
                  cases hinj
                  have hXr := x_merge_s_R G j A B n hd pv cs f xo fa ma t S hX hok hon ht0 hts hj hSj
                  by_cases hfl : n + n ≤ 2 ^ A
                  · rw [if_pos hfl, if_pos hfl, if_pos hfl] at hXr
                    exact ⟨none, 0, _, _, _, by simp, oks_up hok (okS_3.mpr ⟨okR_mrg hR hR hfl, rfl⟩), fun _ => rfl, hXr, fun th H2 hM => c_M_merge_s G hm a1 a2 a3 a4 a5 a6 a7 a8 a9 a10 a11 th S j A B n hd pv cs f hM hDm hok hj hSj hfl⟩
                  · rw [if_neg hfl, va_up_if hfl] at hXr
                    exact ⟨some E_U, 4, _, nI 0, S, by simp, hok, fun h => (by cases h), hXr, fun th H2 hM => c_M_merge_full G hm a1 a2 a3 a4 a5 a6 a7 a8 a9 a10 a11 th S j j A B n n hd pv hd pv cs f cs f hM hDm hok hj hj hSj hSj hfl⟩
                · have hXr := x_merge_o G j j2 A B n n2 hd pv hd2 pv2 cs f cs2 g xo fa ma t S hX hok hon ht0 hts hj hj2 hSj hSj2 hjj
                  by_cases hfl : n + n2 ≤ 2 ^ A
                  · rw [if_pos hfl, if_pos hfl, if_pos hfl] at hXr
                    exact ⟨none, 0, _, _, _, by simp, oks_up hok (okS_3.mpr ⟨okR_mrg hR hR2 hfl, rfl⟩), fun _ => rfl, hXr, fun th H2 hM => c_M_merge_o G hm a1 a2 a3 a4 a5 a6 a7 a8 a9 a10 a11 th S j j2 A B n n2 hd pv hd2 pv2 cs f cs2 g hM hDm hok hj hj2 hSj hSj2 hjj hfl⟩
                  · rw [if_neg hfl, va_up_if hfl] at hXr
                    exact ⟨some E_U, 4, _, nI 0, S, by simp, hok, fun h => (by cases h), hXr, fun th H2 hM => c_M_merge_full G hm a1 a2 a3 a4 a5 a6 a7 a8 a9 a10 a11 th S j j2 A B n n2 hd pv hd2 pv2 cs f cs2 g hM hDm hok hj hj2 hSj hSj2 hfl⟩

theorem m_mix {l : Launch} {s0 : State} {D : va_G} {cI cF cJ : ClassId} (G : Gx l s0 D cI cF cJ) (hm a1 a2 a3 a4 a5 a6 a7 a8 a9 a10 a11 : Nat) (th : Int32) (S : Nat → FS) (x : Int64) (sk : Int32) {H0 : Heap} {A0 : Nat → Prop} (hM : MP D cI hm a1 a2 a3 a4 a5 a6 a7 a8 a9 a10 a11 th S H0) (hD : va_D A0 (adM hm a1 a2 a3 a4 a5 a6 a7 a8 a9 a10 a11)) (hok : ∀ i, i < 4 → okS (S i)) : Mx l s0 y_M_mix (.code y_M_mix b_M_mix 4 (some .long)) { frames := 7, cells := 0, slots := 0, locals := 170 } [.ref hm, .long x, .int sk] H0 (Aa [hm, a1, a2, a3, a4, a5, a6, a7, a8, a9, a10, a11] H0.size) (Rw (.long (mx x sk.toInt64)) (fun H1 => MP D cI hm a1 a2 a3 a4 a5 a6 a7 a8 a9 a10 a11 (nI 0) S H1)) := by
  obtain ⟨ki, ka, kb, zs, pu, ce, pa, tr, so, pl, ot, hP, hpic⟩ := hM
  refine Mx.mono (c_M_mix G hm a1 a2 a3 a4 a5 a6 a7 a8 a9 a10 a11 th ki ka kb zs pu ce pa tr so pl ot x sk hP (A0 := fun _ => True) ?_) (Nat.le_of_ble_eq_true rfl) (Nat.le_of_ble_eq_true rfl) (Nat.le_of_ble_eq_true rfl) (Nat.le_of_ble_eq_true rfl) (fun _ h => h) (fun o H1 _ _ hq => ⟨hq.1, ki, ka, kb, zs, pu, ce, pa, tr, so, pl, ot, hq.2, hpic⟩)
  exact va_Dm (va_D.same2 [hm, a1, a2, a3, a4, a5, a6, a7, a8, a9, a10, a11] hD rfl rfl) (fun _ _ => trivial)
theorem m_thrown {l : Launch} {s0 : State} {D : va_G} {cI cF cJ : ClassId} (G : Gx l s0 D cI cF cJ) (hm a1 a2 a3 a4 a5 a6 a7 a8 a9 a10 a11 : Nat) (th : Int32) (S : Nat → FS) {H0 : Heap} (hM : MP D cI hm a1 a2 a3 a4 a5 a6 a7 a8 a9 a10 a11 th S H0) : Mx l s0 y_M_thrown (.code y_M_thrown b_M_thrown 1 (some .int)) { frames := 0, cells := 0, slots := 0, locals := 0 } [.ref hm] H0 (fun _ => False) (Rd H0 (.int th)) := by
  obtain ⟨ki, ka, kb, zs, pu, ce, pa, tr, so, pl, ot, hP, hpic⟩ := hM
  exact c_M_thrown G hm a1 a2 a3 a4 a5 a6 a7 a8 a9 a10 a11 th ki ka kb zs pu ce pa tr so pl ot hP
