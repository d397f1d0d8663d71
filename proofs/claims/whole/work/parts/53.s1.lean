theorem x_add {l : Launch} {s0 : State} {D : va_G} {cI cF cJ : ClassId} (G : Gx l s0 D cI cF cJ) (j : Nat) (x : Int64) (xo fa ma : Nat) (t : Nat → Nat) (S : Nat → FS) {H : Heap} (hX : PX D cI cF xo fa ma t S H) (hok : ∀ i, i < 4 → okS (S i)) (hon : onS s0 H) (ht0 : ∀ q, q < s0.heap.size → t q = 0) (hts : ∀ q, H.size ≤ q → t q ≤ 13) (hj : j < 4) (h0 : (S j).1 ≠ 0)  : Mx l s0 y_F_add (.code y_F_add b_F_add 5 (some .int)) { frames := 8, cells := 4, slots := 1094, locals := 180 } [.ref xo, .int (nI j), .long x] H (FX t H.size) (Rq s0 (if (addS (S j) x).1 then none else some E_U) (some (.int (addS (S j) x).2.2.2.2.1)) (fun H1 => PXn D cI cF xo fa ma t H.size (va_up S j (addS (S j) x).2) H1)) := by
  rcases hSj : S j with ⟨kd, A, B, hd, pv, cs, n, f⟩
  try rw [← hSj]
  have hoj := hok j hj
  rw [hSj] at hoj h0
  skip
  rcases hoj with h9 | h9 | h9 | h9
  · exact absurd h9 h0
  · obtain ⟨rfl, -⟩ := h9; exact x_add_C G j A B n hd pv cs f x xo fa ma t S hX hok hon ht0 hts hj hSj 
  · obtain ⟨rfl, -⟩ := h9; exact x_add_B G j A B n hd pv cs f x xo fa ma t S hX hok hon ht0 hts hj hSj 
  · obtain ⟨rfl, -⟩ := h9; exact x_add_R G j A B n hd pv cs f x xo fa ma t S hX hok hon ht0 hts hj hSj 

theorem x_remove {l : Launch} {s0 : State} {D : va_G} {cI cF cJ : ClassId} (G : Gx l s0 D cI cF cJ) (j : Nat) (x : Int64) (xo fa ma : Nat) (t : Nat → Nat) (S : Nat → FS) {H : Heap} (hX : PX D cI cF xo fa ma t S H) (hok : ∀ i, i < 4 → okS (S i)) (hon : onS s0 H) (ht0 : ∀ q, q < s0.heap.size → t q = 0) (hts : ∀ q, H.size ≤ q → t q ≤ 13) (hj : j < 4) (h0 : (S j).1 ≠ 0)  : Mx l s0 y_F_remove (.code y_F_remove b_F_remove 5 (some .int)) { frames := 8, cells := 4, slots := 1094, locals := 180 } [.ref xo, .int (nI j), .long x] H (FX t H.size) (Rq s0 (if (remS (S j) x).1 then none else some E_N) (some (.int (remS (S j) x).2.2.2.2.1)) (fun H1 => PXn D cI cF xo fa ma t H.size (va_up S j (remS (S j) x).2) H1)) := by
  rcases hSj : S j with ⟨kd, A, B, hd, pv, cs, n, f⟩
  try rw [← hSj]
  have hoj := hok j hj
  rw [hSj] at hoj h0
  skip
  rcases hoj with h9 | h9 | h9 | h9
  · exact absurd h9 h0
  · obtain ⟨rfl, -⟩ := h9; exact x_remove_C G j A B n hd pv cs f x xo fa ma t S hX hok hon ht0 hts hj hSj 
  · obtain ⟨rfl, -⟩ := h9; exact x_remove_B G j A B n hd pv cs f x xo fa ma t S hX hok hon ht0 hts hj hSj 
  · obtain ⟨rfl, -⟩ := h9; exact x_remove_R G j A B n hd pv cs f x xo fa ma t S hX hok hon ht0 hts hj hSj 

theorem x_has {l : Launch} {s0 : State} {D : va_G} {cI cF cJ : ClassId} (G : Gx l s0 D cI cF cJ) (j : Nat) (x : Int64) (xo fa ma : Nat) (t : Nat → Nat) (S : Nat → FS) {H : Heap} (hX : PX D cI cF xo fa ma t S H) (hok : ∀ i, i < 4 → okS (S i)) (hon : onS s0 H) (ht0 : ∀ q, q < s0.heap.size → t q = 0) (hts : ∀ q, H.size ≤ q → t q ≤ 13) (hj : j < 4) (h0 : (S j).1 ≠ 0)  : Mx l s0 y_F_has (.code y_F_has b_F_has 4 (some .boolean)) { frames := 8, cells := 4, slots := 1094, locals := 180 } [.ref xo, .int (nI j), .long x] H (FX t H.size) (Rq s0 none (some (.int (bI (hasS (S j) x)))) (fun H1 => PXn D cI cF xo fa ma t H.size (va_up S j (S j)) H1)) := by
  rcases hSj : S j with ⟨kd, A, B, hd, pv, cs, n, f⟩
  try rw [← hSj]
  have hoj := hok j hj
  rw [hSj] at hoj h0
  skip
  rcases hoj with h9 | h9 | h9 | h9
  · exact absurd h9 h0
  · obtain ⟨rfl, -⟩ := h9; exact x_has_C G j A B n hd pv cs f x xo fa ma t S hX hok hon ht0 hts hj hSj 
  · obtain ⟨rfl, -⟩ := h9; exact x_has_B G j A B n hd pv cs f x xo fa ma t S hX hok hon ht0 hts hj hSj 
  · obtain ⟨rfl, -⟩ := h9; exact x_has_R G j A B n hd pv cs f x xo fa ma t S hX hok hon ht0 hts hj hSj 

theorem x_same {l : Launch} {s0 : State} {D : va_G} {cI cF cJ : ClassId} (G : Gx l s0 D cI cF cJ) (j : Nat) (x y : Int64) (xo fa ma : Nat) (t : Nat → Nat) (S : Nat → FS) {H : Heap} (hX : PX D cI cF xo fa ma t S H) (hok : ∀ i, i < 4 → okS (S i)) (hon : onS s0 H) (ht0 : ∀ q, q < s0.heap.size → t q = 0) (hts : ∀ q, H.size ≤ q → t q ≤ 13) (hj : j < 4) (h0 : (S j).1 ≠ 0)  : Mx l s0 y_F_same (.code y_F_same b_F_same 6 (some .boolean)) { frames := 8, cells := 4, slots := 1094, locals := 180 } [.ref xo, .int (nI j), .long x, .long y] H (FX t H.size) (Rq s0 none (some (.int (bI (sameS (S j) x y)))) (fun H1 => PXn D cI cF xo fa ma t H.size (va_up S j (S j)) H1)) := by
  rcases hSj : S j with ⟨kd, A, B, hd, pv, cs, n, f⟩
  try rw [← hSj]
  have hoj := hok j hj
  rw [hSj] at hoj h0
  skip
  rcases hoj with h9 | h9 | h9 | h9
  · exact absurd h9 h0
  · obtain ⟨rfl, -⟩ := h9; exact x_same_C G j A B n hd pv cs f x y xo fa ma t S hX hok hon ht0 hts hj hSj 
  · obtain ⟨rfl, -⟩ := h9; exact x_same_B G j A B n hd pv cs f x y xo fa ma t S hX hok hon ht0 hts hj hSj 
  · obtain ⟨rfl, -⟩ := h9; exact x_same_R G j A B n hd pv cs f x y xo fa ma t S hX hok hon ht0 hts hj hSj 

theorem x_hasAll {l : Launch} {s0 : State} {D : va_G} {cI cF cJ : ClassId} (G : Gx l s0 D cI cF cJ) (j : Nat) (x st : Int64) (nN : Nat) (xo fa ma : Nat) (t : Nat → Nat) (S : Nat → FS) {H : Heap} (hX : PX D cI cF xo fa ma t S H) (hok : ∀ i, i < 4 → okS (S i)) (hon : onS s0 H) (ht0 : ∀ q, q < s0.heap.size → t q = 0) (hts : ∀ q, H.size ≤ q → t q ≤ 13) (hj : j < 4) (h0 : (S j).1 ≠ 0) (hn4 : nN ≤ 400) : Mx l s0 y_F_hasAll (.code y_F_hasAll b_F_hasAll 12 (some .int)) { frames := 8, cells := 4, slots := 1094, locals := 180 } [.ref xo, .int (nI j), .long x, .long st, .int (nI nN)] H (FX t H.size) (Rq s0 none (some (.int (nI (haS (S j) nN x st)))) (fun H1 => PXn D cI cF xo fa ma t H.size (va_up S j (S j)) H1)) := by
  rcases hSj : S j with ⟨kd, A, B, hd, pv, cs, n, f⟩
  try rw [← hSj]
  have hoj := hok j hj
  rw [hSj] at hoj h0
  skip
  rcases hoj with h9 | h9 | h9 | h9
  · exact absurd h9 h0
  · obtain ⟨rfl, -⟩ := h9; exact x_hasAll_C G j A B n hd pv cs f x st nN xo fa ma t S hX hok hon ht0 hts hj hSj hn4
  · obtain ⟨rfl, -⟩ := h9; exact x_hasAll_B G j A B n hd pv cs f x st nN xo fa ma t S hX hok hon ht0 hts hj hSj hn4
  · obtain ⟨rfl, -⟩ := h9; exact x_hasAll_R G j A B n hd pv cs f x st nN xo fa ma t S hX hok hon ht0 hts hj hSj hn4

theorem x_addAll {l : Launch} {s0 : State} {D : va_G} {cI cF cJ : ClassId} (G : Gx l s0 D cI cF cJ) (j : Nat) (x st : Int64) (nN : Nat) (xo fa ma : Nat) (t : Nat → Nat) (S : Nat → FS) {H : Heap} (hX : PX D cI cF xo fa ma t S H) (hok : ∀ i, i < 4 → okS (S i)) (hon : onS s0 H) (ht0 : ∀ q, q < s0.heap.size → t q = 0) (hts : ∀ q, H.size ≤ q → t q ≤ 13) (hj : j < 4) (h0 : (S j).1 ≠ 0) (hn4 : nN ≤ 400) : Mx l s0 y_F_addAll (.code y_F_addAll b_F_addAll 11 (some .int)) { frames := 8, cells := 4, slots := 1094, locals := 180 } [.ref xo, .int (nI j), .long x, .long st, .int (nI nN)] H (FX t H.size) (Rq s0 none (some (.int (nI (aaS nN (S j) x st).1))) (fun H1 => PXn D cI cF xo fa ma t H.size (va_up S j (aaS nN (S j) x st).2) H1)) := by
  rcases hSj : S j with ⟨kd, A, B, hd, pv, cs, n, f⟩
  try rw [← hSj]
  have hoj := hok j hj
  rw [hSj] at hoj h0
  skip
  rcases hoj with h9 | h9 | h9 | h9
  · exact absurd h9 h0
  · obtain ⟨rfl, -⟩ := h9; exact x_addAll_C G j A B n hd pv cs f x st nN xo fa ma t S hX hok hon ht0 hts hj hSj hn4
  · obtain ⟨rfl, -⟩ := h9; exact x_addAll_B G j A B n hd pv cs f x st nN xo fa ma t S hX hok hon ht0 hts hj hSj hn4
  · obtain ⟨rfl, -⟩ := h9; exact x_addAll_R G j A B n hd pv cs f x st nN xo fa ma t S hX hok hon ht0 hts hj hSj hn4

theorem x_addAll_items {l : Launch} {s0 : State} {D : va_G} {cI cF cJ : ClassId} (G : Gx l s0 D cI cF cJ) (j : Nat) (x st : Int64) (v : Int32) (v9 : Option Value) (xo fa ma : Nat) (t : Nat → Nat) (S : Nat → FS) {H : Heap} (hX : PX D cI cF xo fa ma t S H) (hok : ∀ i, i < 4 → okS (S i)) (hon : onS s0 H) (ht0 : ∀ q, q < s0.heap.size → t q = 0) (hts : ∀ q, H.size ≤ q → t q ≤ 13) (hj : j < 4) (h0 : (S j).1 ≠ 0) (hv : wth v (nI 0) (nI 400) = false) : Mx l s0 y_F_addAll (.code y_F_addAll b_F_addAll 11 (some .int)) { frames := 8, cells := 4, slots := 1094, locals := 180 } [.ref xo, .int (nI j), .long x, .long st, .int v] H (FX t H.size) (Rq s0 (some E_A) v9 (fun H1 => PXn D cI cF xo fa ma t H.size (va_up S j (S j)) H1)) := by
  rcases hSj : S j with ⟨kd, A, B, hd, pv, cs, n, f⟩
  try rw [← hSj]
  have hoj := hok j hj
  rw [hSj] at hoj h0
  skip
  rcases hoj with h9 | h9 | h9 | h9
  · exact absurd h9 h0
  · obtain ⟨rfl, -⟩ := h9; exact x_addAll_items_C G j A B n hd pv cs f x st v v9 xo fa ma t S hX hok hon ht0 hts hj hSj hv
  · obtain ⟨rfl, -⟩ := h9; exact x_addAll_items_B G j A B n hd pv cs f x st v v9 xo fa ma t S hX hok hon ht0 hts hj hSj hv
  · obtain ⟨rfl, -⟩ := h9; exact x_addAll_items_R G j A B n hd pv cs f x st v v9 xo fa ma t S hX hok hon ht0 hts hj hSj hv

theorem x_hasAll_items {l : Launch} {s0 : State} {D : va_G} {cI cF cJ : ClassId} (G : Gx l s0 D cI cF cJ) (j : Nat) (x st : Int64) (v : Int32) (v9 : Option Value) (xo fa ma : Nat) (t : Nat → Nat) (S : Nat → FS) {H : Heap} (hX : PX D cI cF xo fa ma t S H) (hok : ∀ i, i < 4 → okS (S i)) (hon : onS s0 H) (ht0 : ∀ q, q < s0.heap.size → t q = 0) (hts : ∀ q, H.size ≤ q → t q ≤ 13) (hj : j < 4) (h0 : (S j).1 ≠ 0) (hv : wth v (nI 0) (nI 400) = false) : Mx l s0 y_F_hasAll (.code y_F_hasAll b_F_hasAll 12 (some .int)) { frames := 8, cells := 4, slots := 1094, locals := 180 } [.ref xo, .int (nI j), .long x, .long st, .int v] H (FX t H.size) (Rq s0 (some E_A) v9 (fun H1 => PXn D cI cF xo fa ma t H.size (va_up S j (S j)) H1)) := by
  rcases hSj : S j with ⟨kd, A, B, hd, pv, cs, n, f⟩
  try rw [← hSj]
  have hoj := hok j hj
  rw [hSj] at hoj h0
  skip
  rcases hoj with h9 | h9 | h9 | h9
  · exact absurd h9 h0
  · obtain ⟨rfl, -⟩ := h9; exact x_hasAll_items_C G j A B n hd pv cs f x st v v9 xo fa ma t S hX hok hon ht0 hts hj hSj hv
  · obtain ⟨rfl, -⟩ := h9; exact x_hasAll_items_B G j A B n hd pv cs f x st v v9 xo fa ma t S hX hok hon ht0 hts hj hSj hv
  · obtain ⟨rfl, -⟩ := h9; exact x_hasAll_items_R G j A B n hd pv cs f x st v v9 xo fa ma t S hX hok hon ht0 hts hj hSj hv

theorem x_count_0 {l : Launch} {s0 : State} {D : va_G} {cI cF cJ : ClassId} (G : Gx l s0 D cI cF cJ) (j : Nat)  (xo fa ma : Nat) (t : Nat → Nat) (S : Nat → FS) {H : Heap} (hX : PX D cI cF xo fa ma t S H) (hok : ∀ i, i < 4 → okS (S i)) (hon : onS s0 H) (ht0 : ∀ q, q < s0.heap.size → t q = 0) (hts : ∀ q, H.size ≤ q → t q ≤ 13) (hj : j < 4) (h0 : (S j).1 ≠ 0)  : Mx l s0 y_F_count (.code y_F_count b_F_count 4 (some .int)) { frames := 8, cells := 4, slots := 1094, locals := 180 } [.ref xo, .int (nI j), .int (nI 0)] H (FX t H.size) (Rq s0 none (some (.int (cntS (S j) 0))) (fun H1 => PXn D cI cF xo fa ma t H.size (va_up S j (S j)) H1)) := by
  rcases hSj : S j with ⟨kd, A, B, hd, pv, cs, n, f⟩
  try rw [← hSj]
  have hoj := hok j hj
  rw [hSj] at hoj h0
  skip
  rcases hoj with h9 | h9 | h9 | h9
  · exact absurd h9 h0
  · obtain ⟨rfl, -⟩ := h9; exact x_count_0_C G j A B n hd pv cs f  xo fa ma t S hX hok hon ht0 hts hj hSj 
  · obtain ⟨rfl, -⟩ := h9; exact x_count_0_B G j A B n hd pv cs f  xo fa ma t S hX hok hon ht0 hts hj hSj 
  · obtain ⟨rfl, -⟩ := h9; exact x_count_0_R G j A B n hd pv cs f  xo fa ma t S hX hok hon ht0 hts hj hSj 

theorem x_count_1 {l : Launch} {s0 : State} {D : va_G} {cI cF cJ : ClassId} (G : Gx l s0 D cI cF cJ) (j : Nat)  (xo fa ma : Nat) (t : Nat → Nat) (S : Nat → FS) {H : Heap} (hX : PX D cI cF xo fa ma t S H) (hok : ∀ i, i < 4 → okS (S i)) (hon : onS s0 H) (ht0 : ∀ q, q < s0.heap.size → t q = 0) (hts : ∀ q, H.size ≤ q → t q ≤ 13) (hj : j < 4) (h0 : (S j).1 ≠ 0)  : Mx l s0 y_F_count (.code y_F_count b_F_count 4 (some .int)) { frames := 8, cells := 4, slots := 1094, locals := 180 } [.ref xo, .int (nI j), .int (nI 1)] H (FX t H.size) (Rq s0 none (some (.int (cntS (S j) 1))) (fun H1 => PXn D cI cF xo fa ma t H.size (va_up S j (S j)) H1)) := by
  rcases hSj : S j with ⟨kd, A, B, hd, pv, cs, n, f⟩
  try rw [← hSj]
  have hoj := hok j hj
  rw [hSj] at hoj h0
  skip
  rcases hoj with h9 | h9 | h9 | h9
  · exact absurd h9 h0
  · obtain ⟨rfl, -⟩ := h9; exact x_count_1_C G j A B n hd pv cs f  xo fa ma t S hX hok hon ht0 hts hj hSj 
  · obtain ⟨rfl, -⟩ := h9; exact x_count_1_B G j A B n hd pv cs f  xo fa ma t S hX hok hon ht0 hts hj hSj 
  · obtain ⟨rfl, -⟩ := h9; exact x_count_1_R G j A B n hd pv cs f  xo fa ma t S hX hok hon ht0 hts hj hSj 

theorem x_count_2 {l : Launch} {s0 : State} {D : va_G} {cI cF cJ : ClassId} (G : Gx l s0 D cI cF cJ) (j : Nat)  (xo fa ma : Nat) (t : Nat → Nat) (S : Nat → FS) {H : Heap} (hX : PX D cI cF xo fa ma t S H) (hok : ∀ i, i < 4 → okS (S i)) (hon : onS s0 H) (ht0 : ∀ q, q < s0.heap.size → t q = 0) (hts : ∀ q, H.size ≤ q → t q ≤ 13) (hj : j < 4) (h0 : (S j).1 ≠ 0)  : Mx l s0 y_F_count (.code y_F_count b_F_count 4 (some .int)) { frames := 8, cells := 4, slots := 1094, locals := 180 } [.ref xo, .int (nI j), .int (nI 2)] H (FX t H.size) (Rq s0 none (some (.int (cntS (S j) 2))) (fun H1 => PXn D cI cF xo fa ma t H.size (va_up S j (S j)) H1)) := by
  rcases hSj : S j with ⟨kd, A, B, hd, pv, cs, n, f⟩
  try rw [← hSj]
  have hoj := hok j hj
  rw [hSj] at hoj h0
  skip
  rcases hoj with h9 | h9 | h9 | h9
  · exact absurd h9 h0
  · obtain ⟨rfl, -⟩ := h9; exact x_count_2_C G j A B n hd pv cs f  xo fa ma t S hX hok hon ht0 hts hj hSj 
  · obtain ⟨rfl, -⟩ := h9; exact x_count_2_B G j A B n hd pv cs f  xo fa ma t S hX hok hon ht0 hts hj hSj 
  · obtain ⟨rfl, -⟩ := h9; exact x_count_2_R G j A B n hd pv cs f  xo fa ma t S hX hok hon ht0 hts hj hSj 

theorem x_count_3 {l : Launch} {s0 : State} {D : va_G} {cI cF cJ : ClassId} (G : Gx l s0 D cI cF cJ) (j : Nat)  (xo fa ma : Nat) (t : Nat → Nat) (S : Nat → FS) {H : Heap} (hX : PX D cI cF xo fa ma t S H) (hok : ∀ i, i < 4 → okS (S i)) (hon : onS s0 H) (ht0 : ∀ q, q < s0.heap.size → t q = 0) (hts : ∀ q, H.size ≤ q → t q ≤ 13) (hj : j < 4) (h0 : (S j).1 ≠ 0)  : Mx l s0 y_F_count (.code y_F_count b_F_count 4 (some .int)) { frames := 8, cells := 4, slots := 1094, locals := 180 } [.ref xo, .int (nI j), .int (nI 3)] H (FX t H.size) (Rq s0 none (some (.int (cntS (S j) 3))) (fun H1 => PXn D cI cF xo fa ma t H.size (va_up S j (S j)) H1)) := by
  rcases hSj : S j with ⟨kd, A, B, hd, pv, cs, n, f⟩
  try rw [← hSj]
  have hoj := hok j hj
  rw [hSj] at hoj h0
  skip
  rcases hoj with h9 | h9 | h9 | h9
  · exact absurd h9 h0
  · obtain ⟨rfl, -⟩ := h9; exact x_count_3_C G j A B n hd pv cs f  xo fa ma t S hX hok hon ht0 hts hj hSj 
  · obtain ⟨rfl, -⟩ := h9; exact x_count_3_B G j A B n hd pv cs f  xo fa ma t S hX hok hon ht0 hts hj hSj 
  · obtain ⟨rfl, -⟩ := h9; exact x_count_3_R G j A B n hd pv cs f  xo fa ma t S hX hok hon ht0 hts hj hSj 

theorem x_count_4 {l : Launch} {s0 : State} {D : va_G} {cI cF cJ : ClassId} (G : Gx l s0 D cI cF cJ) (j : Nat)  (xo fa ma : Nat) (t : Nat → Nat) (S : Nat → FS) {H : Heap} (hX : PX D cI cF xo fa ma t S H) (hok : ∀ i, i < 4 → okS (S i)) (hon : onS s0 H) (ht0 : ∀ q, q < s0.heap.size → t q = 0) (hts : ∀ q, H.size ≤ q → t q ≤ 13) (hj : j < 4) (h0 : (S j).1 ≠ 0)  : Mx l s0 y_F_count (.code y_F_count b_F_count 4 (some .int)) { frames := 8, cells := 4, slots := 1094, locals := 180 } [.ref xo, .int (nI j), .int (nI 4)] H (FX t H.size) (Rq s0 none (some (.int (cntS (S j) 4))) (fun H1 => PXn D cI cF xo fa ma t H.size (va_up S j (S j)) H1)) := by
  rcases hSj : S j with ⟨kd, A, B, hd, pv, cs, n, f⟩
  try rw [← hSj]
  have hoj := hok j hj
  rw [hSj] at hoj h0
  skip
  rcases hoj with h9 | h9 | h9 | h9
  · exact absurd h9 h0
  · obtain ⟨rfl, -⟩ := h9; exact x_count_4_C G j A B n hd pv cs f  xo fa ma t S hX hok hon ht0 hts hj hSj 
  · obtain ⟨rfl, -⟩ := h9; exact x_count_4_B G j A B n hd pv cs f  xo fa ma t S hX hok hon ht0 hts hj hSj 
  · obtain ⟨rfl, -⟩ := h9; exact x_count_4_R G j A B n hd pv cs f  xo fa ma t S hX hok hon ht0 hts hj hSj 

theorem x_count_5 {l : Launch} {s0 : State} {D : va_G} {cI cF cJ : ClassId} (G : Gx l s0 D cI cF cJ) (j : Nat)  (xo fa ma : Nat) (t : Nat → Nat) (S : Nat → FS) {H : Heap} (hX : PX D cI cF xo fa ma t S H) (hok : ∀ i, i < 4 → okS (S i)) (hon : onS s0 H) (ht0 : ∀ q, q < s0.heap.size → t q = 0) (hts : ∀ q, H.size ≤ q → t q ≤ 13) (hj : j < 4) (h0 : (S j).1 ≠ 0)  : Mx l s0 y_F_count (.code y_F_count b_F_count 4 (some .int)) { frames := 8, cells := 4, slots := 1094, locals := 180 } [.ref xo, .int (nI j), .int (nI 5)] H (FX t H.size) (Rq s0 none (some (.int (cntS (S j) 5))) (fun H1 => PXn D cI cF xo fa ma t H.size (va_up S j (S j)) H1)) := by
  rcases hSj : S j with ⟨kd, A, B, hd, pv, cs, n, f⟩
  try rw [← hSj]
  have hoj := hok j hj
  rw [hSj] at hoj h0
  skip
  rcases hoj with h9 | h9 | h9 | h9
  · exact absurd h9 h0
  · obtain ⟨rfl, -⟩ := h9; exact x_count_5_C G j A B n hd pv cs f  xo fa ma t S hX hok hon ht0 hts hj hSj 
  · obtain ⟨rfl, -⟩ := h9; exact x_count_5_B G j A B n hd pv cs f  xo fa ma t S hX hok hon ht0 hts hj hSj 
  · obtain ⟨rfl, -⟩ := h9; exact x_count_5_R G j A B n hd pv cs f  xo fa ma t S hX hok hon ht0 hts hj hSj 

theorem x_count_out {l : Launch} {s0 : State} {D : va_G} {cI cF cJ : ClassId} (G : Gx l s0 D cI cF cJ) (j : Nat) (wv : Int32) (v9 : Option Value) (xo fa ma : Nat) (t : Nat → Nat) (S : Nat → FS) {H : Heap} (hX : PX D cI cF xo fa ma t S H) (hok : ∀ i, i < 4 → okS (S i)) (hon : onS s0 H) (ht0 : ∀ q, q < s0.heap.size → t q = 0) (hts : ∀ q, H.size ≤ q → t q ≤ 13) (hj : j < 4) (h0 : (S j).1 ≠ 0) (hw9 : wv.toInt < 0 ∨ 5 < wv.toInt) : Mx l s0 y_F_count (.code y_F_count b_F_count 4 (some .int)) { frames := 8, cells := 4, slots := 1094, locals := 180 } [.ref xo, .int (nI j), .int wv] H (FX t H.size) (Rq s0 (some E_A) v9 (fun H1 => PXn D cI cF xo fa ma t H.size (va_up S j (S j)) H1)) := by
  rcases hSj : S j with ⟨kd, A, B, hd, pv, cs, n, f⟩
  try rw [← hSj]
  have hoj := hok j hj
  rw [hSj] at hoj h0
  skip
  rcases hoj with h9 | h9 | h9 | h9
  · exact absurd h9 h0
  · obtain ⟨rfl, -⟩ := h9; exact x_count_out_C G j A B n hd pv cs f wv v9 xo fa ma t S hX hok hon ht0 hts hj hSj hw9
  · obtain ⟨rfl, -⟩ := h9; exact x_count_out_B G j A B n hd pv cs f wv v9 xo fa ma t S hX hok hon ht0 hts hj hSj hw9
  · obtain ⟨rfl, -⟩ := h9; exact x_count_out_R G j A B n hd pv cs f wv v9 xo fa ma t S hX hok hon ht0 hts hj hSj hw9

theorem x_cell {l : Launch} {s0 : State} {D : va_G} {cI cF cJ : ClassId} (G : Gx l s0 D cI cF cJ) (j : Nat) (z : Nat) (xo fa ma : Nat) (t : Nat → Nat) (S : Nat → FS) {H : Heap} (hX : PX D cI cF xo fa ma t S H) (hok : ∀ i, i < 4 → okS (S i)) (hon : onS s0 H) (ht0 : ∀ q, q < s0.heap.size → t q = 0) (hts : ∀ q, H.size ≤ q → t q ≤ 13) (hj : j < 4) (h0 : (S j).1 ≠ 0) (hz9 : z < ncS (S j)) : Mx l s0 y_F_cell (.code y_F_cell b_F_cell 4 (some .int)) { frames := 8, cells := 4, slots := 1094, locals := 180 } [.ref xo, .int (nI j), .int (nI z)] H (FX t H.size) (Rq s0 none (some (.int (lokS (S j) z))) (fun H1 => PXn D cI cF xo fa ma t H.size (va_up S j (S j)) H1)) := by
  rcases hSj : S j with ⟨kd, A, B, hd, pv, cs, n, f⟩
  try rw [← hSj]
  have hoj := hok j hj
  rw [hSj] at hoj h0
  rw [hSj] at hz9
  rcases hoj with h9 | h9 | h9 | h9
  · exact absurd h9 h0
  · obtain ⟨rfl, -⟩ := h9; exact x_cell_C G j A B n hd pv cs f z xo fa ma t S hX hok hon ht0 hts hj hSj hz9
  · obtain ⟨rfl, -⟩ := h9; exact x_cell_B G j A B n hd pv cs f z xo fa ma t S hX hok hon ht0 hts hj hSj hz9
  · obtain ⟨rfl, -⟩ := h9; exact x_cell_R G j A B n hd pv cs f z xo fa ma t S hX hok hon ht0 hts hj hSj hz9

theorem x_cell_out {l : Launch} {s0 : State} {D : va_G} {cI cF cJ : ClassId} (G : Gx l s0 D cI cF cJ) (j : Nat) (iv : Int32) (v9 : Option Value) (xo fa ma : Nat) (t : Nat → Nat) (S : Nat → FS) {H : Heap} (hX : PX D cI cF xo fa ma t S H) (hok : ∀ i, i < 4 → okS (S i)) (hon : onS s0 H) (ht0 : ∀ q, q < s0.heap.size → t q = 0) (hts : ∀ q, H.size ≤ q → t q ≤ 13) (hj : j < 4) (h0 : (S j).1 ≠ 0) (hb9 : iv < 0 ∨ nI (ncS (S j)) ≤ iv) : Mx l s0 y_F_cell (.code y_F_cell b_F_cell 4 (some .int)) { frames := 8, cells := 4, slots := 1094, locals := 180 } [.ref xo, .int (nI j), .int iv] H (FX t H.size) (Rq s0 (some E_I) v9 (fun H1 => PXn D cI cF xo fa ma t H.size (va_up S j (S j)) H1)) := by
  rcases hSj : S j with ⟨kd, A, B, hd, pv, cs, n, f⟩
  try rw [← hSj]
  have hoj := hok j hj
  rw [hSj] at hoj h0
  rw [hSj] at hb9
  rcases hoj with h9 | h9 | h9 | h9
  · exact absurd h9 h0
  · obtain ⟨rfl, -⟩ := h9; exact x_cell_out_C G j A B n hd pv cs f iv v9 xo fa ma t S hX hok hon ht0 hts hj hSj hb9
  · obtain ⟨rfl, -⟩ := h9; exact x_cell_out_B G j A B n hd pv cs f iv v9 xo fa ma t S hX hok hon ht0 hts hj hSj hb9
  · obtain ⟨rfl, -⟩ := h9; exact x_cell_out_R G j A B n hd pv cs f iv v9 xo fa ma t S hX hok hon ht0 hts hj hSj hb9

theorem x_clear {l : Launch} {s0 : State} {D : va_G} {cI cF cJ : ClassId} (G : Gx l s0 D cI cF cJ) (j : Nat)  (xo fa ma : Nat) (t : Nat → Nat) (S : Nat → FS) {H : Heap} (hX : PX D cI cF xo fa ma t S H) (hok : ∀ i, i < 4 → okS (S i)) (hon : onS s0 H) (ht0 : ∀ q, q < s0.heap.size → t q = 0) (hts : ∀ q, H.size ≤ q → t q ≤ 13) (hj : j < 4) (h0 : (S j).1 ≠ 0)  : Mx l s0 y_F_clear (.code y_F_clear b_F_clear 4 (some .int)) { frames := 8, cells := 4, slots := 1094, locals := 180 } [.ref xo, .int (nI j)] H (FX t H.size) (Rq s0 none (some (.int (S j).2.2.2.1)) (fun H1 => PXn D cI cF xo fa ma t H.size (va_up S j (mkS (S j).1 (S j).2.1 (S j).2.2.1 (S j).2.2.2.2.2.2.2)) H1)) := by
  rcases hSj : S j with ⟨kd, A, B, hd, pv, cs, n, f⟩
  try rw [← hSj]
  have hoj := hok j hj
  rw [hSj] at hoj h0
  skip
  rcases hoj with h9 | h9 | h9 | h9
  · exact absurd h9 h0
  · obtain ⟨rfl, -⟩ := h9; exact x_clear_C G j A B n hd pv cs f  xo fa ma t S hX hok hon ht0 hts hj hSj 
  · obtain ⟨rfl, -⟩ := h9; exact x_clear_B G j A B n hd pv cs f  xo fa ma t S hX hok hon ht0 hts hj hSj 
  · obtain ⟨rfl, -⟩ := h9; exact x_clear_R G j A B n hd pv cs f  xo fa ma t S hX hok hon ht0 hts hj hSj 

theorem c_M_cell {l : Launch} {s0 : State} {D : va_G} {cI cF cJ : ClassId} (G : Gx l s0 D cI cF cJ) (hm a1 a2 a3 a4 a5 a6 a7 a8 a9 a10 a11 : Nat) (th : Int32) (S : Nat → FS) (j : Nat) (z : Nat) {H0 : Heap} {A0 : Nat → Prop} (hM : MP D cI hm a1 a2 a3 a4 a5 a6 a7 a8 a9 a10 a11 th S H0) (hD : va_D A0 (adM hm a1 a2 a3 a4 a5 a6 a7 a8 a9 a10 a11)) (hok : ∀ i, i < 4 → okS (S i)) (hj : j < 4) (h0 : (S j).1 ≠ 0) (hz9 : z < ncS (S j)) : Mx l s0 y_M_cell (.code y_M_cell b_M_cell 4 (some .int)) { frames := 7, cells := 0, slots := 0, locals := 170 } [.ref hm, .int (nI j), .int (nI z)] H0 (Aa [hm, a1, a2, a3, a4, a5, a6, a7, a8, a9, a10, a11] H0.size) (Rw (.int (lokS (S j) z)) (fun H1 => MP D cI hm a1 a2 a3 a4 a5 a6 a7 a8 a9 a10 a11 (nI 0) S H1)) := by
  rcases hSj : S j with ⟨kd, A, B, hd, pv, cs, n, f⟩
  try rw [← hSj]
  have hoj := hok j hj
  rw [hSj] at hoj h0 hz9
  rcases hoj with h9 | h9 | h9 | h9
  · exact absurd h9 h0
  · obtain ⟨rfl, -⟩ := h9; exact c_M_cell_1 G hm a1 a2 a3 a4 a5 a6 a7 a8 a9 a10 a11 th S j A B n hd pv cs f z hM hD hok hj hSj hz9
  · obtain ⟨rfl, -⟩ := h9; exact c_M_cell_2 G hm a1 a2 a3 a4 a5 a6 a7 a8 a9 a10 a11 th S j A B n hd pv cs f z hM hD hok hj hSj hz9
  · obtain ⟨rfl, -⟩ := h9; exact c_M_cell_3 G hm a1 a2 a3 a4 a5 a6 a7 a8 a9 a10 a11 th S j A B n hd pv cs f z hM hD hok hj hSj hz9

theorem c_M_cell_out {l : Launch} {s0 : State} {D : va_G} {cI cF cJ : ClassId} (G : Gx l s0 D cI cF cJ) (hm a1 a2 a3 a4 a5 a6 a7 a8 a9 a10 a11 : Nat) (th : Int32) (S : Nat → FS) (j : Nat) (iv : Int32) {H0 : Heap} {A0 : Nat → Prop} (hM : MP D cI hm a1 a2 a3 a4 a5 a6 a7 a8 a9 a10 a11 th S H0) (hD : va_D A0 (adM hm a1 a2 a3 a4 a5 a6 a7 a8 a9 a10 a11)) (hok : ∀ i, i < 4 → okS (S i)) (hj : j < 4) (h0 : (S j).1 ≠ 0) (hb9 : iv < 0 ∨ nI (ncS (S j)) ≤ iv) : Mx l s0 y_M_cell (.code y_M_cell b_M_cell 4 (some .int)) { frames := 7, cells := 0, slots := 0, locals := 170 } [.ref hm, .int (nI j), .int iv] H0 (Aa [hm, a1, a2, a3, a4, a5, a6, a7, a8, a9, a10, a11] H0.size) (Rw (.int (nI 0)) (fun H1 => MP D cI hm a1 a2 a3 a4 a5 a6 a7 a8 a9 a10 a11 (nI 2) S H1)) := by
  rcases hSj : S j with ⟨kd, A, B, hd, pv, cs, n, f⟩
  try rw [← hSj]
  have hoj := hok j hj
  rw [hSj] at hoj h0 hb9
  rcases hoj with h9 | h9 | h9 | h9
  · exact absurd h9 h0
  · obtain ⟨rfl, -⟩ := h9; exact c_M_cell_1_out G hm a1 a2 a3 a4 a5 a6 a7 a8 a9 a10 a11 th S j A B n hd pv cs f iv hM hD hok hj hSj hb9
  · obtain ⟨rfl, -⟩ := h9; exact c_M_cell_2_out G hm a1 a2 a3 a4 a5 a6 a7 a8 a9 a10 a11 th S j A B n hd pv cs f iv hM hD hok hj hSj hb9
  · obtain ⟨rfl, -⟩ := h9; exact c_M_cell_3_out G hm a1 a2 a3 a4 a5 a6 a7 a8 a9 a10 a11 th S j A B n hd pv cs f iv hM hD hok hj hSj hb9

/-- a call of both: how it ends here and there -/
def StI (l : Launch) (s0 : State) (D : va_G) (cI cF : ClassId) (xo fa ma : Nat) (hm a1 a2 a3 a4 a5 a6 a7 a8 a9 a10 a11 : Nat) (t : Nat → Nat) (S : Nat → FS) (H : Heap) (yF : MethodName) (cwF : Cond) (asF : List Value) (yM : MethodName) (cwM : Cond) (asM : List Value) (codes : List (Option String × Nat)) : Prop :=
  ∃ (c : Option String) (k : Nat) (w b : Int32) (S2 : Nat → FS), (c, k) ∈ codes ∧ (∀ i, i < 4 → okS (S2 i)) ∧ (k = 0 → w = b) ∧ Mx l s0 yF cwF { frames := 8, cells := 4, slots := 1094, locals := 180 } asF H (FX t H.size) (Rq s0 c (some (.int w)) (fun H1 => PXn D cI cF xo fa ma t H.size S2 H1)) ∧
    ∀ (th : Int32) (H2 : Heap), MP D cI hm a1 a2 a3 a4 a5 a6 a7 a8 a9 a10 a11 th S H2 → Mx l s0 yM cwM { frames := 7, cells := 0, slots := 0, locals := 170 } asM H2 (Aa [hm, a1, a2, a3, a4, a5, a6, a7, a8, a9, a10, a11] H2.size) (Rw (.int b) (fun H1 => MP D cI hm a1 a2 a3 a4 a5 a6 a7 a8 a9 a10 a11 (nI k) S2 H1))
def StV (l : Launch) (s0 : State) (D : va_G) (cI cF : ClassId) (xo fa ma : Nat) (hm a1 a2 a3 a4 a5 a6 a7 a8 a9 a10 a11 : Nat) (t : Nat → Nat) (S : Nat → FS) (H : Heap) (yF : MethodName) (cwF : Cond) (asF : List Value) (yM : MethodName) (cwM : Cond) (asM : List Value) (codes : List (Option String × Nat)) : Prop :=
  ∃ (c : Option String) (k : Nat) (S2 : Nat → FS), (c, k) ∈ codes ∧ (∀ i, i < 4 → okS (S2 i)) ∧ Mx l s0 yF cwF { frames := 8, cells := 4, slots := 1094, locals := 180 } asF H (FX t H.size) (Rq s0 c none (fun H1 => PXn D cI cF xo fa ma t H.size S2 H1)) ∧
    ∀ (th : Int32) (H2 : Heap), MP D cI hm a1 a2 a3 a4 a5 a6 a7 a8 a9 a10 a11 th S H2 → Mx l s0 yM cwM { frames := 7, cells := 0, slots := 0, locals := 170 } asM H2 (Aa [hm, a1, a2, a3, a4, a5, a6, a7, a8, a9, a10, a11] H2.size) (Rn (fun H1 => MP D cI hm a1 a2 a3 a4 a5 a6 a7 a8 a9 a10 a11 (nI k) S2 H1))
theorem oks_same {S : Nat → FS} {j : Nat} (h : ∀ i, i < 4 → okS (S i)) : ∀ i, i < 4 → okS (va_up S j (S j) i) := by rw [va_up_same]; exact h
theorem okS_mk {kd A B : Nat} {f : Nat → Nat} (h : (kd = 1 ∧ 3 ≤ A ∧ A ≤ 10 ∧ 1 ≤ B ∧ B ≤ 6) ∨ (kd = 2 ∧ 1 ≤ A ∧ A ≤ 8 ∧ 4 ≤ B ∧ B ≤ 16) ∨ (kd = 3 ∧ 2 ≤ A ∧ A ≤ 8 ∧ 4 ≤ B ∧ B ≤ 20)) : okS (mkS kd A B f) := by
  rcases h with ⟨rfl, h1, h2, h3, h4⟩ | ⟨rfl, h1, h2, h3, h4⟩ | ⟨rfl, h1, h2, h3, h4⟩
  · exact okS_1.mpr ⟨h1, h2, h3, h4, fun _ _ => Nat.zero_le _, fun _ _ _ => rfl⟩
  · exact okS_2.mpr ⟨h1, h2, h3, h4, ⟨fun _ _ => (by decide : 0 < 65536), fun _ _ _ => rfl⟩, by rw [show posN (fun _ => 0) 1024 = 0 from (posN_tail (a := 0) (Nat.zero_le _) (fun _ _ _ => rfl))]⟩
  · exact okS_3.mpr ⟨⟨h1, h2, h3, h4, Nat.zero_le _, fun i j _ hj => absurd hj (Nat.not_lt_zero _), fun i hi => absurd hi (Nat.not_lt_zero _)⟩, rfl⟩
theorem okS_mkS {S : FS} (h : okS S) (h0 : S.1 ≠ 0) : okS (mkS S.1 S.2.1 S.2.2.1 S.2.2.2.2.2.2.2) := by
  obtain ⟨kd, A, B, hd, pv, cs, n, f⟩ := S
  rcases h with h | ⟨h, h1, h2, h3, h4, -⟩ | ⟨h, h1, h2, h3, h4, -⟩ | ⟨h, h1, h2, h3, h4, -⟩
  · exact absurd h h0
  · exact okS_mk (Or.inl ⟨h, h1, h2, h3, h4⟩)
  · exact okS_mk (Or.inr (Or.inl ⟨h, h1, h2, h3, h4⟩))
  · exact okS_mk (Or.inr (Or.inr ⟨h, h1, h2, h3, h4⟩))

theorem wth_nat {v : Int32} (h : wth v (nI 0) (nI 400) = true) : ∃ n : Nat, n ≤ 400 ∧ v = nI n := by
  obtain ⟨h1, h2⟩ := wth_t h
  obtain ⟨n, hn, rfl⟩ := nI_of h1
  exact ⟨n, (nI_leI hn (by decide)).mp h2, rfl⟩
theorem cnt_cases (v : Int32) : (v.toInt < 0 ∨ 5 < v.toInt) ∨ v = nI 0 ∨ v = nI 1 ∨ v = nI 2 ∨ v = nI 3 ∨ v = nI 4 ∨ v = nI 5 := by
  by_cases h : v.toInt < 0 ∨ 5 < v.toInt
  · exact Or.inl h
  · refine Or.inr ?_
    have key : ∀ n : Nat, n < 6 → v.toInt = n → v = nI n := fun n hn e => Int32.toInt_inj.mp (by rw [e, nI_toInt (by omega)])
    have h9 : v.toInt = 0 ∨ v.toInt = 1 ∨ v.toInt = 2 ∨ v.toInt = 3 ∨ v.toInt = 4 ∨ v.toInt = 5 := by omega
    rcases h9 with h9 | h9 | h9 | h9 | h9 | h9
    · exact Or.inl (key 0 (by decide) h9)
    · exact Or.inr (Or.inl (key 1 (by decide) h9))
    · exact Or.inr (Or.inr (Or.inl (key 2 (by decide) h9)))
    · exact Or.inr (Or.inr (Or.inr (Or.inl (key 3 (by decide) h9))))
    · exact Or.inr (Or.inr (Or.inr (Or.inr (Or.inl (key 4 (by decide) h9)))))
    · exact Or.inr (Or.inr (Or.inr (Or.inr (Or.inr (key 5 (by decide) h9)))))
theorem cell_nat {v : Int32} {N : Nat} (hN : N < 2 ^ 31) (h : ¬ (v < 0 ∨ nI N ≤ v)) : ∃ z : Nat, z < N ∧ v = nI z := by
  obtain ⟨z, hz, rfl⟩ := nI_of (fun h9 => h (Or.inl h9))
  exact ⟨z, Nat.not_le.mp (fun h9 => h (Or.inr (nI_le h9 hz))), rfl⟩
theorem nc_lt {S : FS} (h : okS S) (h0 : S.1 ≠ 0) : ncS S < 2 ^ 31 := by
  obtain ⟨kd, A, B, hd, pv, cs, n, f⟩ := S
  have h1 := (h.AB h0).2.1
  have h2 := p2_le h1
  show (if kd = 2 then 4 * 2 ^ A else 2 ^ A) < 2 ^ 31
  split <;> omega

theorem s_add {l : Launch} {s0 : State} {D : va_G} {cI cF cJ : ClassId} (G : Gx l s0 D cI cF cJ) (v : Int32) (x : Int64) (hm a1 a2 a3 a4 a5 a6 a7 a8 a9 a10 a11 : Nat) (xo fa ma : Nat) (t : Nat → Nat) (S : Nat → FS) {H : Heap} (hX : PX D cI cF xo fa ma t S H) (hok : ∀ i, i < 4 → okS (S i)) (hon : onS s0 H) (ht0 : ∀ q, q < s0.heap.size → t q = 0) (hts : ∀ q, H.size ≤ q → t q ≤ 13) {A0 : Nat → Prop} (hDm : va_D A0 (adM hm a1 a2 a3 a4 a5 a6 a7 a8 a9 a10 a11)) : StI l s0 D cI cF xo fa ma hm a1 a2 a3 a4 a5 a6 a7 a8 a9 a10 a11 t S H y_F_add (.code y_F_add b_F_add 5 (some .int)) [.ref xo, .int v, .long x] y_M_add (.code y_M_add b_M_add 4 (some .int)) [.ref hm, .int v, .long x] [(none, 0), (some E_I, 1), (some E_S, 2), (some E_U, 3)] := by
  cases hv : isNum v with
  | false => exact ⟨some E_I, 1, 0, nI 0, S, by simp, hok, fun h => (by cases h), x_add_no G v x xo fa ma t S hX hok hon ht0 hts _ hv, fun th H2 hM => c_M_add_no G hm a1 a2 a3 a4 a5 a6 a7 a8 a9 a10 a11 th S v x hM hDm hok hv⟩
  | true =>
    obtain ⟨j, hj, rfl⟩ := isNum_t hv
    by_cases h0 : (S j).1 = 0
    · exact ⟨some E_S, 2, 0, nI 0, S, by simp, hok, fun h => (by cases h), x_add_none G j x xo fa ma t S hX hok hon ht0 hts _ hj h0, fun th H2 hM => c_M_add_none G hm a1 a2 a3 a4 a5 a6 a7 a8 a9 a10 a11 th S j x hM hDm hok hj h0⟩
    · refine ⟨if (addS (S j) x).1 then none else some E_U, if (addS (S j) x).1 then 0 else 3, (addS (S j) x).2.2.2.2.1, if (addS (S j) x).1 then (addS (S j) x).2.2.2.2.1 else nI 0, _, ?_, oks_up hok (okS_add x (hok j hj) h0), ?_, x_add G j x xo fa ma t S hX hok hon ht0 hts hj h0, fun th H2 hM => c_M_add G hm a1 a2 a3 a4 a5 a6 a7 a8 a9 a10 a11 th S j x hM hDm hok hj h0⟩
      · cases (addS (S j) x).1 <;> simp
      · cases (addS (S j) x).1 with
        | true => intro _; rfl
        | false => intro h; cases h

theorem s_remove {l : Launch} {s0 : State} {D : va_G} {cI cF cJ : ClassId} (G : Gx l s0 D cI cF cJ) (v : Int32) (x : Int64) (hm a1 a2 a3 a4 a5 a6 a7 a8 a9 a10 a11 : Nat) (xo fa ma : Nat) (t : Nat → Nat) (S : Nat → FS) {H : Heap} (hX : PX D cI cF xo fa ma t S H) (hok : ∀ i, i < 4 → okS (S i)) (hon : onS s0 H) (ht0 : ∀ q, q < s0.heap.size → t q = 0) (hts : ∀ q, H.size ≤ q → t q ≤ 13) {A0 : Nat → Prop} (hDm : va_D A0 (adM hm a1 a2 a3 a4 a5 a6 a7 a8 a9 a10 a11)) : StI l s0 D cI cF xo fa ma hm a1 a2 a3 a4 a5 a6 a7 a8 a9 a10 a11 t S H y_F_remove (.code y_F_remove b_F_remove 5 (some .int)) [.ref xo, .int v, .long x] y_M_remove (.code y_M_remove b_M_remove 8 (some .int)) [.ref hm, .int v, .long x] [(none, 0), (some E_I, 1), (some E_S, 2), (some E_N, 3)] := by
  cases hv : isNum v with
  | false => exact ⟨some E_I, 1, 0, nI 0, S, by simp, hok, fun h => (by cases h), x_remove_no G v x xo fa ma t S hX hok hon ht0 hts _ hv, fun th H2 hM => c_M_remove_no G hm a1 a2 a3 a4 a5 a6 a7 a8 a9 a10 a11 th S v x hM hDm hok hv⟩
  | true =>
    obtain ⟨j, hj, rfl⟩ := isNum_t hv
    by_cases h0 : (S j).1 = 0
    · exact ⟨some E_S, 2, 0, nI 0, S, by simp, hok, fun h => (by cases h), x_remove_none G j x xo fa ma t S hX hok hon ht0 hts _ hj h0, fun th H2 hM => c_M_remove_none G hm a1 a2 a3 a4 a5 a6 a7 a8 a9 a10 a11 th S j x hM hDm hok hj h0⟩
    · refine ⟨if (remS (S j) x).1 then none else some E_N, if (remS (S j) x).1 then 0 else 3, (remS (S j) x).2.2.2.2.1, if (remS (S j) x).1 then (remS (S j) x).2.2.2.2.1 else nI 0, _, ?_, oks_up hok (okS_rem x (hok j hj) h0), ?_, x_remove G j x xo fa ma t S hX hok hon ht0 hts hj h0, fun th H2 hM => c_M_remove G hm a1 a2 a3 a4 a5 a6 a7 a8 a9 a10 a11 th S j x hM hDm hok hj h0⟩
      · cases (remS (S j) x).1 <;> simp
      · cases (remS (S j) x).1 with
        | true => intro _; rfl
        | false => intro h; cases h

theorem s_has {l : Launch} {s0 : State} {D : va_G} {cI cF cJ : ClassId} (G : Gx l s0 D cI cF cJ) (v : Int32) (x : Int64) (hm a1 a2 a3 a4 a5 a6 a7 a8 a9 a10 a11 : Nat) (xo fa ma : Nat) (t : Nat → Nat) (S : Nat → FS) {H : Heap} (hX : PX D cI cF xo fa ma t S H) (hok : ∀ i, i < 4 → okS (S i)) (hon : onS s0 H) (ht0 : ∀ q, q < s0.heap.size → t q = 0) (hts : ∀ q, H.size ≤ q → t q ≤ 13) {A0 : Nat → Prop} (hDm : va_D A0 (adM hm a1 a2 a3 a4 a5 a6 a7 a8 a9 a10 a11)) : StI l s0 D cI cF xo fa ma hm a1 a2 a3 a4 a5 a6 a7 a8 a9 a10 a11 t S H y_F_has (.code y_F_has b_F_has 4 (some .boolean)) [.ref xo, .int v, .long x] y_M_has (.code y_M_has b_M_has 4 (some .boolean)) [.ref hm, .int v, .long x] [(none, 0), (some E_I, 1), (some E_S, 2)] := by
  cases hv : isNum v with
  | false => exact ⟨some E_I, 1, 0, nI 0, S, by simp, hok, fun h => (by cases h), x_has_no G v x xo fa ma t S hX hok hon ht0 hts _ hv, fun th H2 hM => c_M_has_no G hm a1 a2 a3 a4 a5 a6 a7 a8 a9 a10 a11 th S v x hM hDm hok hv⟩
  | true =>
    obtain ⟨j, hj, rfl⟩ := isNum_t hv
    by_cases h0 : (S j).1 = 0
    · exact ⟨some E_S, 2, 0, nI 0, S, by simp, hok, fun h => (by cases h), x_has_none G j x xo fa ma t S hX hok hon ht0 hts _ hj h0, fun th H2 hM => c_M_has_none G hm a1 a2 a3 a4 a5 a6 a7 a8 a9 a10 a11 th S j x hM hDm hok hj h0⟩
    · have hXr := x_has G j x xo fa ma t S hX hok hon ht0 hts hj h0 
      rw [va_up_same] at hXr
      exact ⟨none, 0, _, _, S, by simp, hok, fun _ => rfl, hXr, fun th H2 hM => c_M_has G hm a1 a2 a3 a4 a5 a6 a7 a8 a9 a10 a11 th S j x hM hDm hok hj h0⟩

theorem s_same {l : Launch} {s0 : State} {D : va_G} {cI cF cJ : ClassId} (G : Gx l s0 D cI cF cJ) (v : Int32) (x y : Int64) (hm a1 a2 a3 a4 a5 a6 a7 a8 a9 a10 a11 : Nat) (xo fa ma : Nat) (t : Nat → Nat) (S : Nat → FS) {H : Heap} (hX : PX D cI cF xo fa ma t S H) (hok : ∀ i, i < 4 → okS (S i)) (hon : onS s0 H) (ht0 : ∀ q, q < s0.heap.size → t q = 0) (hts : ∀ q, H.size ≤ q → t q ≤ 13) {A0 : Nat → Prop} (hDm : va_D A0 (adM hm a1 a2 a3 a4 a5 a6 a7 a8 a9 a10 a11)) : StI l s0 D cI cF xo fa ma hm a1 a2 a3 a4 a5 a6 a7 a8 a9 a10 a11 t S H y_F_same (.code y_F_same b_F_same 6 (some .boolean)) [.ref xo, .int v, .long x, .long y] y_M_same (.code y_M_same b_M_same 9 (some .boolean)) [.ref hm, .int v, .long x, .long y] [(none, 0), (some E_I, 1), (some E_S, 2)] := by
  cases hv : isNum v with
  | false => exact ⟨some E_I, 1, 0, nI 0, S, by simp, hok, fun h => (by cases h), x_same_no G v x y xo fa ma t S hX hok hon ht0 hts _ hv, fun th H2 hM => c_M_same_no G hm a1 a2 a3 a4 a5 a6 a7 a8 a9 a10 a11 th S v x y hM hDm hok hv⟩
  | true =>
    obtain ⟨j, hj, rfl⟩ := isNum_t hv
    by_cases h0 : (S j).1 = 0
    · exact ⟨some E_S, 2, 0, nI 0, S, by simp, hok, fun h => (by cases h), x_same_none G j x y xo fa ma t S hX hok hon ht0 hts _ hj h0, fun th H2 hM => c_M_same_none G hm a1 a2 a3 a4 a5 a6 a7 a8 a9 a10 a11 th S j x y hM hDm hok hj h0⟩
    · have hXr := x_same G j x y xo fa ma t S hX hok hon ht0 hts hj h0 
      rw [va_up_same] at hXr
      exact ⟨none, 0, _, _, S, by simp, hok, fun _ => rfl, hXr, fun th H2 hM => c_M_same G hm a1 a2 a3 a4 a5 a6 a7 a8 a9 a10 a11 th S j x y hM hDm hok hj h0⟩

theorem s_clear {l : Launch} {s0 : State} {D : va_G} {cI cF cJ : ClassId} (G : Gx l s0 D cI cF cJ) (v : Int32) (hm a1 a2 a3 a4 a5 a6 a7 a8 a9 a10 a11 : Nat) (xo fa ma : Nat) (t : Nat → Nat) (S : Nat → FS) {H : Heap} (hX : PX D cI cF xo fa ma t S H) (hok : ∀ i, i < 4 → okS (S i)) (hon : onS s0 H) (ht0 : ∀ q, q < s0.heap.size → t q = 0) (hts : ∀ q, H.size ≤ q → t q ≤ 13) {A0 : Nat → Prop} (hDm : va_D A0 (adM hm a1 a2 a3 a4 a5 a6 a7 a8 a9 a10 a11)) : StI l s0 D cI cF xo fa ma hm a1 a2 a3 a4 a5 a6 a7 a8 a9 a10 a11 t S H y_F_clear (.code y_F_clear b_F_clear 4 (some .int)) [.ref xo, .int v] y_M_clear (.code y_M_clear b_M_clear 3 (some .int)) [.ref hm, .int v] [(none, 0), (some E_I, 1), (some E_S, 2)] := by
  cases hv : isNum v with
  | false => exact ⟨some E_I, 1, 0, nI 0, S, by simp, hok, fun h => (by cases h), x_clear_no G v  xo fa ma t S hX hok hon ht0 hts _ hv, fun th H2 hM => c_M_clear_no G hm a1 a2 a3 a4 a5 a6 a7 a8 a9 a10 a11 th S v  hM hDm hok hv⟩
  | true =>
    obtain ⟨j, hj, rfl⟩ := isNum_t hv
    by_cases h0 : (S j).1 = 0
    · exact ⟨some E_S, 2, 0, nI 0, S, by simp, hok, fun h => (by cases h), x_clear_none G j  xo fa ma t S hX hok hon ht0 hts _ hj h0, fun th H2 hM => c_M_clear_none G hm a1 a2 a3 a4 a5 a6 a7 a8 a9 a10 a11 th S j  hM hDm hok hj h0⟩
    · exact ⟨none, 0, _, _, _, by simp, oks_up hok (okS_mkS (hok j hj) h0), fun _ => rfl, x_clear G j xo fa ma t S hX hok hon ht0 hts hj h0, fun th H2 hM => c_M_clear G hm a1 a2 a3 a4 a5 a6 a7 a8 a9 a10 a11 th S j hM hDm hok hj h0⟩

theorem s_addAll {l : Launch} {s0 : State} {D : va_G} {cI cF cJ : ClassId} (G : Gx l s0 D cI cF cJ) (v : Int32) (x st : Int64) (nv : Int32) (hm a1 a2 a3 a4 a5 a6 a7 a8 a9 a10 a11 : Nat) (xo fa ma : Nat) (t : Nat → Nat) (S : Nat → FS) {H : Heap} (hX : PX D cI cF xo fa ma t S H) (hok : ∀ i, i < 4 → okS (S i)) (hon : onS s0 H) (ht0 : ∀ q, q < s0.heap.size → t q = 0) (hts : ∀ q, H.size ≤ q → t q ≤ 13) {A0 : Nat → Prop} (hDm : va_D A0 (adM hm a1 a2 a3 a4 a5 a6 a7 a8 a9 a10 a11)) : StI l s0 D cI cF xo fa ma hm a1 a2 a3 a4 a5 a6 a7 a8 a9 a10 a11 t S H y_F_addAll (.code y_F_addAll b_F_addAll 11 (some .int)) [.ref xo, .int v, .long x, .long st, .int nv] y_M_addAll (.code y_M_addAll b_M_addAll 8 (some .int)) [.ref hm, .int v, .long x, .long st, .int nv] [(none, 0), (some E_I, 1), (some E_S, 2), (some E_A, 3)] := by
  cases hv : isNum v with
  | false => exact ⟨some E_I, 1, 0, nI 0, S, by simp, hok, fun h => (by cases h), x_addAll_no G v x st nv xo fa ma t S hX hok hon ht0 hts _ hv, fun th H2 hM => c_M_addAll_no G hm a1 a2 a3 a4 a5 a6 a7 a8 a9 a10 a11 th S v x st nv hM hDm hok hv⟩
  | true =>
    obtain ⟨j, hj, rfl⟩ := isNum_t hv
    by_cases h0 : (S j).1 = 0
    · exact ⟨some E_S, 2, 0, nI 0, S, by simp, hok, fun h => (by cases h), x_addAll_none G j x st nv xo fa ma t S hX hok hon ht0 hts _ hj h0, fun th H2 hM => c_M_addAll_none G hm a1 a2 a3 a4 a5 a6 a7 a8 a9 a10 a11 th S j x st nv hM hDm hok hj h0⟩
    · cases hn : wth nv (nI 0) (nI 400) with
      | false =>
        have hXr := x_addAll_items G j x st nv (some (.int 0)) xo fa ma t S hX hok hon ht0 hts hj h0 hn
        rw [va_up_same] at hXr
        exact ⟨some E_A, 3, 0, nI 0, S, by simp, hok, fun h => (by cases h), hXr, fun th H2 hM => c_M_addAll_items G hm a1 a2 a3 a4 a5 a6 a7 a8 a9 a10 a11 th S j x st nv hM hDm hok hj h0 hn⟩
      | true =>
        obtain ⟨nN, hn4, rfl⟩ := wth_nat hn
        exact ⟨none, 0, _, _, _, by simp, oks_up hok (okS_aa (hok j hj) h0).1, fun _ => rfl, x_addAll G j x st nN xo fa ma t S hX hok hon ht0 hts hj h0 hn4, fun th H2 hM => c_M_addAll G hm a1 a2 a3 a4 a5 a6 a7 a8 a9 a10 a11 th S j x st nN hM hDm hok hj h0 hn4⟩

theorem s_hasAll {l : Launch} {s0 : State} {D : va_G} {cI cF cJ : ClassId} (G : Gx l s0 D cI cF cJ) (v : Int32) (x st : Int64) (nv : Int32) (hm a1 a2 a3 a4 a5 a6 a7 a8 a9 a10 a11 : Nat) (xo fa ma : Nat) (t : Nat → Nat) (S : Nat → FS) {H : Heap} (hX : PX D cI cF xo fa ma t S H) (hok : ∀ i, i < 4 → okS (S i)) (hon : onS s0 H) (ht0 : ∀ q, q < s0.heap.size → t q = 0) (hts : ∀ q, H.size ≤ q → t q ≤ 13) {A0 : Nat → Prop} (hDm : va_D A0 (adM hm a1 a2 a3 a4 a5 a6 a7 a8 a9 a10 a11)) : StI l s0 D cI cF xo fa ma hm a1 a2 a3 a4 a5 a6 a7 a8 a9 a10 a11 t S H y_F_hasAll (.code y_F_hasAll b_F_hasAll 12 (some .int)) [.ref xo, .int v, .long x, .long st, .int nv] y_M_hasAll (.code y_M_hasAll b_M_hasAll 9 (some .int)) [.ref hm, .int v, .long x, .long st, .int nv] [(none, 0), (some E_I, 1), (some E_S, 2), (some E_A, 3)] := by
  cases hv : isNum v with
  | false => exact ⟨some E_I, 1, 0, nI 0, S, by simp, hok, fun h => (by cases h), x_hasAll_no G v x st nv xo fa ma t S hX hok hon ht0 hts _ hv, fun th H2 hM => c_M_hasAll_no G hm a1 a2 a3 a4 a5 a6 a7 a8 a9 a10 a11 th S v x st nv hM hDm hok hv⟩
  | true =>
    obtain ⟨j, hj, rfl⟩ := isNum_t hv
    by_cases h0 : (S j).1 = 0
    · exact ⟨some E_S, 2, 0, nI 0, S, by simp, hok, fun h => (by cases h), x_hasAll_none G j x st nv xo fa ma t S hX hok hon ht0 hts _ hj h0, fun th H2 hM => c_M_hasAll_none G hm a1 a2 a3 a4 a5 a6 a7 a8 a9 a10 a11 th S j x st nv hM hDm hok hj h0⟩
    · cases hn : wth nv (nI 0) (nI 400) with
      | false =>
        have hXr := x_hasAll_items G j x st nv (some (.int 0)) xo fa ma t S hX hok hon ht0 hts hj h0 hn
        rw [va_up_same] at hXr
        exact ⟨some E_A, 3, 0, nI 0, S, by simp, hok, fun h => (by cases h), hXr, fun th H2 hM => c_M_hasAll_items G hm a1 a2 a3 a4 a5 a6 a7 a8 a9 a10 a11 th S j x st nv hM hDm hok hj h0 hn⟩
      | true =>
        obtain ⟨nN, hn4, rfl⟩ := wth_nat hn
        have hXr := x_hasAll G j x st nN xo fa ma t S hX hok hon ht0 hts hj h0 hn4
        rw [va_up_same] at hXr
        exact ⟨none, 0, _, _, S, by simp, hok, fun _ => rfl, hXr, fun th H2 hM => c_M_hasAll G hm a1 a2 a3 a4 a5 a6 a7 a8 a9 a10 a11 th S j x st nN hM hDm hok hj h0 hn4⟩

theorem s_count {l : Launch} {s0 : State} {D : va_G} {cI cF cJ : ClassId} (G : Gx l s0 D cI cF cJ) (v : Int32) (wv : Int32) (hm a1 a2 a3 a4 a5 a6 a7 a8 a9 a10 a11 : Nat) (xo fa ma : Nat) (t : Nat → Nat) (S : Nat → FS) {H : Heap} (hX : PX D cI cF xo fa ma t S H) (hok : ∀ i, i < 4 → okS (S i)) (hon : onS s0 H) (ht0 : ∀ q, q < s0.heap.size → t q = 0) (hts : ∀ q, H.size ≤ q → t q ≤ 13) {A0 : Nat → Prop} (hDm : va_D A0 (adM hm a1 a2 a3 a4 a5 a6 a7 a8 a9 a10 a11)) : StI l s0 D cI cF xo fa ma hm a1 a2 a3 a4 a5 a6 a7 a8 a9 a10 a11 t S H y_F_count (.code y_F_count b_F_count 4 (some .int)) [.ref xo, .int v, .int wv] y_M_count (.code y_M_count b_M_count 7 (some .int)) [.ref hm, .int v, .int wv] [(none, 0), (some E_I, 1), (some E_S, 2), (some E_A, 3)] := by
  cases hv : isNum v with
  | false => exact ⟨some E_I, 1, 0, nI 0, S, by simp, hok, fun h => (by cases h), x_count_no G v wv xo fa ma t S hX hok hon ht0 hts _ hv, fun th H2 hM => c_M_count_no G hm a1 a2 a3 a4 a5 a6 a7 a8 a9 a10 a11 th S v wv hM hDm hok hv⟩
  | true =>
    obtain ⟨j, hj, rfl⟩ := isNum_t hv
    by_cases h0 : (S j).1 = 0
    · exact ⟨some E_S, 2, 0, nI 0, S, by simp, hok, fun h => (by cases h), x_count_none G j wv xo fa ma t S hX hok hon ht0 hts _ hj h0, fun th H2 hM => c_M_count_none G hm a1 a2 a3 a4 a5 a6 a7 a8 a9 a10 a11 th S j wv hM hDm hok hj h0⟩
    · rcases cnt_cases wv with hw | hw | hw | hw | hw | hw | hw
      · have hXr := x_count_out G j wv (some (.int 0)) xo fa ma t S hX hok hon ht0 hts hj h0 hw
        rw [va_up_same] at hXr
        exact ⟨some E_A, 3, 0, nI 0, S, by simp, hok, fun h => (by cases h), hXr, fun th H2 hM => c_M_count_out G hm a1 a2 a3 a4 a5 a6 a7 a8 a9 a10 a11 th S j wv hM hDm hok hj h0 hw⟩
      · subst hw
        have hXr := x_count_0 G j xo fa ma t S hX hok hon ht0 hts hj h0
        rw [va_up_same] at hXr
        exact ⟨none, 0, _, _, S, by simp, hok, fun _ => rfl, hXr, fun th H2 hM => c_M_count_0 G hm a1 a2 a3 a4 a5 a6 a7 a8 a9 a10 a11 th S j hM hDm hok hj h0⟩
      · subst hw
        have hXr := x_count_1 G j xo fa ma t S hX hok hon ht0 hts hj h0
        rw [va_up_same] at hXr
        exact ⟨none, 0, _, _, S, by simp, hok, fun _ => rfl, hXr, fun th H2 hM => c_M_count_1 G hm a1 a2 a3 a4 a5 a6 a7 a8 a9 a10 a11 th S j hM hDm hok hj h0⟩
      · subst hw
        have hXr := x_count_2 G j xo fa ma t S hX hok hon ht0 hts hj h0
        rw [va_up_same] at hXr
        exact ⟨none, 0, _, _, S, by simp, hok, fun _ => rfl, hXr, fun th H2 hM => c_M_count_2 G hm a1 a2 a3 a4 a5 a6 a7 a8 a9 a10 a11 th S j hM hDm hok hj h0⟩
      · subst hw
        have hXr := x_count_3 G j xo fa ma t S hX hok hon ht0 hts hj h0
        rw [va_up_same] at hXr
        exact ⟨none, 0, _, _, S, by simp, hok, fun _ => rfl, hXr, fun th H2 hM => c_M_count_3 G hm a1 a2 a3 a4 a5 a6 a7 a8 a9 a10 a11 th S j hM hDm hok hj h0⟩
      · subst hw
        have hXr := x_count_4 G j xo fa ma t S hX hok hon ht0 hts hj h0
        rw [va_up_same] at hXr
        exact ⟨none, 0, _, _, S, by simp, hok, fun _ => rfl, hXr, fun th H2 hM => c_M_count_4 G hm a1 a2 a3 a4 a5 a6 a7 a8 a9 a10 a11 th S j hM hDm hok hj h0⟩
      · subst hw
        have hXr := x_count_5 G j xo fa ma t S hX hok hon ht0 hts hj h0
        rw [va_up_same] at hXr
        exact ⟨none, 0, _, _, S, by simp, hok, fun _ => rfl, hXr, fun th H2 hM => c_M_count_5 G hm a1 a2 a3 a4 a5 a6 a7 a8 a9 a10 a11 th S j hM hDm hok hj h0⟩

theorem s_cell {l : Launch} {s0 : State} {D : va_G} {cI cF cJ : ClassId} (G : Gx l s0 D cI cF cJ) (v : Int32) (iv : Int32) (hm a1 a2 a3 a4 a5 a6 a7 a8 a9 a10 a11 : Nat) (xo fa ma : Nat) (t : Nat → Nat) (S : Nat → FS) {H : Heap} (hX : PX D cI cF xo fa ma t S H) (hok : ∀ i, i < 4 → okS (S i)) (hon : onS s0 H) (ht0 : ∀ q, q < s0.heap.size → t q = 0) (hts : ∀ q, H.size ≤ q → t q ≤ 13) {A0 : Nat → Prop} (hDm : va_D A0 (adM hm a1 a2 a3 a4 a5 a6 a7 a8 a9 a10 a11)) : StI l s0 D cI cF xo fa ma hm a1 a2 a3 a4 a5 a6 a7 a8 a9 a10 a11 t S H y_F_cell (.code y_F_cell b_F_cell 4 (some .int)) [.ref xo, .int v, .int iv] y_M_cell (.code y_M_cell b_M_cell 4 (some .int)) [.ref hm, .int v, .int iv] [(none, 0), (some E_S, 1), (some E_I, 2)] := by
  cases hv : isNum v with
  | false => exact ⟨some E_S, 1, 0, nI 0, S, by simp, hok, fun h => (by cases h), x_cell_no G v iv xo fa ma t S hX hok hon ht0 hts _ hv, fun th H2 hM => c_M_cell_no G hm a1 a2 a3 a4 a5 a6 a7 a8 a9 a10 a11 th S v iv hM hDm hok hv⟩
  | true =>
    obtain ⟨j, hj, rfl⟩ := isNum_t hv
    by_cases h0 : (S j).1 = 0
    · exact ⟨some E_S, 1, 0, nI 0, S, by simp, hok, fun h => (by cases h), x_cell_none G j iv xo fa ma t S hX hok hon ht0 hts _ hj h0, fun th H2 hM => c_M_cell_none G hm a1 a2 a3 a4 a5 a6 a7 a8 a9 a10 a11 th S j iv hM hDm hok hj h0⟩
    · by_cases hb : iv < 0 ∨ nI (ncS (S j)) ≤ iv
      · have hXr := x_cell_out G j iv (some (.int 0)) xo fa ma t S hX hok hon ht0 hts hj h0 hb
        rw [va_up_same] at hXr
        exact ⟨some E_I, 2, 0, nI 0, S, by simp, hok, fun h => (by cases h), hXr, fun th H2 hM => c_M_cell_out G hm a1 a2 a3 a4 a5 a6 a7 a8 a9 a10 a11 th S j iv hM hDm hok hj h0 hb⟩
      · obtain ⟨z, hz, rfl⟩ := cell_nat (nc_lt (hok j hj) h0) hb
        have hXr := x_cell G j z xo fa ma t S hX hok hon ht0 hts hj h0 hz
        rw [va_up_same] at hXr
        exact ⟨none, 0, _, _, S, by simp, hok, fun _ => rfl, hXr, fun th H2 hM => c_M_cell G hm a1 a2 a3 a4 a5 a6 a7 a8 a9 a10 a11 th S j z hM hDm hok hj h0 hz⟩
