/-! the reference's picture of the four filters -/
def MP (D : va_G) (cI : ClassId) (hm a1 a2 a3 a4 a5 a6 a7 a8 a9 a10 a11 : Nat) (th : Int32) (S : Nat → FS) (H : Heap) : Prop :=
  ∃ (ki ka kb : Nat → Nat) (zs pu : Nat → Int32) (ce pa tr : Nat → Nat) (so : Nat → Int32) (pl ot : Nat → Nat), va_P D vcl [(hm, .inr (4, [.int th, .ref a1, .ref a2, .ref a3, .ref a4, .ref a5, .ref a6, .ref a7, .ref a8, .ref a9, .ref a10, .ref a11])), (a1, aN cI 4 ki), (a2, aN cI 4 ka), (a3, aN cI 4 kb), (a4, aI cI 4 zs), (a5, aI cI 4 pu), (a6, aN cI 4096 ce), (a7, aN cI 1024 pa), (a8, aN cI 1024 tr), (a9, aI cI 256 so), (a10, aN cI 6 pl), (a11, aN cI 6 ot)] H ∧ ∀ i, i < 4 → PicM i (S i) ki ka kb zs pu ce pa
abbrev adM (hm a1 a2 a3 a4 a5 a6 a7 a8 a9 a10 a11 : Nat) : va_W := [hm, a1, a2, a3, a4, a5, a6, a7, a8, a9, a10, a11].map fun q => (q, .inr (4, []))
theorem PicM.ki {i : Nat} {S : FS} {ki ka kb : Nat → Nat} {zs pu : Nat → Int32} {ce pa : Nat → Nat} (h : PicM i S ki ka kb zs pu ce pa) : ki i = S.1 := by
  obtain ⟨kd, A, B, hd, pv, cs, n, f⟩ := S
  exact h.1
theorem PicM.zs {i : Nat} {S : FS} {ki ka kb : Nat → Nat} {zs pu : Nat → Int32} {ce pa : Nat → Nat} (h : PicM i S ki ka kb zs pu ce pa) (h0 : S.1 ≠ 0) : zs i = S.2.2.2.1 := by
  obtain ⟨kd, A, B, hd, pv, cs, n, f⟩ := S
  exact (h.2.1 h0).2.2
theorem okS.k3 {S : FS} (h : okS S) : S.1 ≤ 3 := by
  obtain ⟨kd, A, B, hd, pv, cs, n, f⟩ := S
  show kd ≤ 3
  rcases h with h | h | h | h
  · omega
  · have := h.1; omega
  · have := h.1; omega
  · have := h.1; omega
theorem PicM.k1 {j A B n : Nat} {hd pv : Int32} {cs f ki ka kb : Nat → Nat} {zs pu : Nat → Int32} {ce pa : Nat → Nat} (h1 : ki j = 1) (h2 : ka j = A) (h3 : kb j = B) (h4 : zs j = hd) (h5 : agr (vw ce (1024 * j)) cs) (h6 : ∀ q, q < 256 → vw pa (256 * j) q < 2 ^ 28) : PicM j (1, A, B, hd, pv, cs, n, f) ki ka kb zs pu ce pa :=
  ⟨h1, fun _ => ⟨h2, h3, h4⟩, fun _ => h5, fun h => (by cases h), fun h => (by cases h), h6⟩
theorem PicM.k2 {j A B n : Nat} {hd pv : Int32} {cs f ki ka kb : Nat → Nat} {zs pu : Nat → Int32} {ce pa : Nat → Nat} (h1 : ki j = 2) (h2 : ka j = A) (h3 : kb j = B) (h4 : zs j = hd) (h5 : agr (vw ce (1024 * j)) cs) (h7 : pu j = pv) (h6 : ∀ q, q < 256 → vw pa (256 * j) q < 2 ^ 28) : PicM j (2, A, B, hd, pv, cs, n, f) ki ka kb zs pu ce pa :=
  ⟨h1, fun _ => ⟨h2, h3, h4⟩, fun _ => h5, fun _ => h7, fun h => (by cases h), h6⟩
theorem PicM.k3 {j A B n : Nat} {hd pv : Int32} {cs f ki ka kb : Nat → Nat} {zs pu : Nat → Int32} {ce pa : Nat → Nat} (h1 : ki j = 3) (h2 : ka j = A) (h3 : kb j = B) (h4 : zs j = hd) (h5 : ∀ i, i < n → pa (256 * j + i) = enc B (f i)) (h6 : ∀ q, q < 256 → vw pa (256 * j) q < 2 ^ 28) : PicM j (3, A, B, hd, pv, cs, n, f) ki ka kb zs pu ce pa :=
  ⟨h1, fun _ => ⟨h2, h3, h4⟩, fun h => (by rcases h with h | h <;> cases h), fun h => (by cases h), fun _ => h5, h6⟩
theorem pics_up {S : Nat → FS} {S' : FS} {j : Nat} {ki ka kb ki2 ka2 kb2 : Nat → Nat} {zs pu zs2 pu2 : Nat → Int32} {ce pa ce2 pa2 : Nat → Nat} (hpic : ∀ i, i < 4 → PicM i (S i) ki ka kb zs pu ce pa) (hok : ∀ i, i < 4 → okS (S i)) (hj : PicM j S' ki2 ka2 kb2 zs2 pu2 ce2 pa2)
    (e1 : ∀ i, i ≠ j → ki2 i = ki i) (e2 : ∀ i, i ≠ j → ka2 i = ka i) (e3 : ∀ i, i ≠ j → kb2 i = kb i) (e4 : ∀ i, i ≠ j → zs2 i = zs i) (e5 : ∀ i, i ≠ j → pu2 i = pu i) (e6 : ∀ i, i ≠ j → ∀ q, q < 1024 → ce2 (1024 * i + q) = ce (1024 * i + q)) (e7 : ∀ i, i ≠ j → ∀ q, q < 256 → pa2 (256 * i + q) = pa (256 * i + q)) :
    ∀ i, i < 4 → PicM i (va_up S j S' i) ki2 ka2 kb2 zs2 pu2 ce2 pa2 := by
  intro i hi
  by_cases e : i = j
  · subst e; rw [va_up_self]; exact hj
  · rw [va_up_ne _ _ e]
    exact (hpic i hi).cong (e1 i e) (e2 i e) (e3 i e) (e4 i e) (e5 i e) (e6 i e) (e7 i e) (hok i hi)
theorem vw_stO {n : Nat} {c d : Nat → Nat} {o j : Nat} (h : j < n) : vw (stO n c o d) o j = d j := stO_at h
theorem offC {j : Nat} {c d : Nat → Nat} : ∀ i, i ≠ j → ∀ q, q < 1024 → stO 1024 c (1024 * j) d (1024 * i + q) = c (1024 * i + q) := fun i hi q hq => stO_off hi hq (Or.inl rfl)
theorem offP {j : Nat} {c d : Nat → Nat} : ∀ i, i ≠ j → ∀ q, q < 256 → stO 256 c (256 * j) d (256 * i + q) = c (256 * i + q) := fun i hi q hq => stO_off hi hq (Or.inr rfl)
theorem upd_off {j : Nat} {f : Nat → Int32} {v : Int32} : ∀ i, i ≠ j → upd f j v i = f i := fun i hi => upd_ne hi
theorem vup_off {j : Nat} {f : Nat → Nat} {v : Nat} : ∀ i, i ≠ j → va_up f j v i = f i := fun i hi => va_up_ne _ _ hi
theorem id_off {α : Type} {j : Nat} {f : Nat → α} : ∀ i, i ≠ j → f i = f i := fun _ _ => rfl
theorem idC {j : Nat} {c : Nat → Nat} : ∀ i, i ≠ j → ∀ q, q < 1024 → c (1024 * i + q) = c (1024 * i + q) := fun _ _ _ _ => rfl
theorem idP {j : Nat} {c : Nat → Nat} : ∀ i, i ≠ j → ∀ q, q < 256 → c (256 * i + q) = c (256 * i + q) := fun _ _ _ _ => rfl
theorem pics_same {S : Nat → FS} {S' : FS} {j : Nat} {ki ka kb : Nat → Nat} {zs pu : Nat → Int32} {ce pa : Nat → Nat} (hpic : ∀ i, i < 4 → PicM i (S i) ki ka kb zs pu ce pa) (hj : PicM j S' ki ka kb zs pu ce pa) : ∀ i, i < 4 → PicM i (va_up S j S' i) ki ka kb zs pu ce pa := by
  intro i hi
  by_cases e : i = j
  · subst e; rw [va_up_self]; exact hj
  · rw [va_up_ne _ _ e]; exact hpic i hi
/-- what the picture says of a filter of each kind -/
theorem PicM.f1 {j A B n : Nat} {hd pv : Int32} {cs f ki ka kb : Nat → Nat} {zs pu : Nat → Int32} {ce pa : Nat → Nat} (h : PicM j (1, A, B, hd, pv, cs, n, f) ki ka kb zs pu ce pa) : ki j = 1 ∧ ka j = A ∧ kb j = B ∧ zs j = hd ∧ agr (vw ce (1024 * j)) cs ∧ ∀ q, q < 256 → vw pa (256 * j) q < 2 ^ 28 :=
  ⟨h.1, (h.2.1 (by decide)).1, (h.2.1 (by decide)).2.1, (h.2.1 (by decide)).2.2, h.2.2.1 (Or.inl rfl), h.2.2.2.2.2⟩
theorem PicM.f2 {j A B n : Nat} {hd pv : Int32} {cs f ki ka kb : Nat → Nat} {zs pu : Nat → Int32} {ce pa : Nat → Nat} (h : PicM j (2, A, B, hd, pv, cs, n, f) ki ka kb zs pu ce pa) : ki j = 2 ∧ ka j = A ∧ kb j = B ∧ zs j = hd ∧ agr (vw ce (1024 * j)) cs ∧ pu j = pv ∧ ∀ q, q < 256 → vw pa (256 * j) q < 2 ^ 28 :=
  ⟨h.1, (h.2.1 (by decide)).1, (h.2.1 (by decide)).2.1, (h.2.1 (by decide)).2.2, h.2.2.1 (Or.inr rfl), h.2.2.2.1 rfl, h.2.2.2.2.2⟩
theorem PicM.f3 {j A B n : Nat} {hd pv : Int32} {cs f ki ka kb : Nat → Nat} {zs pu : Nat → Int32} {ce pa : Nat → Nat} (h : PicM j (3, A, B, hd, pv, cs, n, f) ki ka kb zs pu ce pa) : ki j = 3 ∧ ka j = A ∧ kb j = B ∧ zs j = hd ∧ (∀ i, i < n → pa (256 * j + i) = enc B (f i)) ∧ ∀ q, q < 256 → vw pa (256 * j) q < 2 ^ 28 :=
  ⟨h.1, (h.2.1 (by decide)).1, (h.2.1 (by decide)).2.1, (h.2.1 (by decide)).2.2, h.2.2.2.2.1 rfl, h.2.2.2.2.2⟩
theorem okC.ce {A B : Nat} {cs g : Nat → Nat} (h : okC A B cs) (ha : agr g cs) : ∀ j, j < 1024 → g j ≤ 15 := fun j hj => by rw [ha j hj]; exact h.2.2.2.2.1 j hj
theorem okK.ce {A B : Nat} {hd : Int32} {cs g : Nat → Nat} (h : okK A B hd cs) (ha : agr g cs) : ∀ j, j < 1024 → g j < 65536 := fun j hj => by rw [ha j hj]; exact h.2.2.2.2.1.1 j hj
theorem fitA_m {A B : Nat} {x : Int64} {g cs pl : Nat → Nat} (hA : A ≤ 10) (h : agr g cs) : allN (fitA g (fpr A x pl B) B) B = allN (fitA cs (plx A x) B) B := fitA_fpr.trans (fitA_agr hA h)
theorem fitS_m {A B : Nat} {x : Int64} {g cs pl : Nat → Nat} (hA : A ≤ 10) (h : agr g cs) : allN (fitS g (fpr A x pl B) B) B = allN (fitS cs (plx A x) B) B := fitS_fpr.trans (fitS_agr hA h)
theorem ins_lt {pa : Nat → Nat} {o n v : Nat} (hv : v < 2 ^ 28) (hn : n ≤ 255) (h : ∀ q, q < 256 → vw pa o q < 2 ^ 28) (hs : srt (vw pa o) n) : ∀ q, q < 256 → vw (stO 256 pa o (insR v n (vw pa o))) o q < 2 ^ 28 := by
  intro q hq
  rw [vw_stO hq, insR_G n _ hs q]
  split
  · unfold insG
    split
    · exact h q hq
    · split
      · exact hv
      · exact h _ (by omega)
  · exact h q hq
